/-! the law and its wrappers: each instruction, decoded -/
theorem dW_file_0 : decode method_3_code 0 = .ok (.aload 5, 2) := by decide +kernel
theorem dW_file_2 : decode method_3_code 2 = .ok (.iconst 0, 1) := by decide +kernel
theorem dW_file_3 : decode method_3_code 3 = .ok (.aload_n 0, 1) := by decide +kernel
theorem dW_file_4 : decode method_3_code 4 = .ok (.iload_n 1, 1) := by decide +kernel
theorem dW_file_5 : decode method_3_code 5 = .ok (.iload_n 2, 1) := by decide +kernel
theorem dW_file_6 : decode method_3_code 6 = .ok (.iload_n 3, 1) := by decide +kernel
theorem dW_file_7 : decode method_3_code 7 = .ok (.iload 4, 2) := by decide +kernel
theorem dW_file_9 : decode method_3_code 9 = .ok (.invokevirtual 7, 3) := by decide +kernel
theorem dW_file_12 : decode method_3_code 12 = .ok (.i2l, 1) := by decide +kernel
theorem dW_file_13 : decode method_3_code 13 = .ok (.lastore, 1) := by decide +kernel
theorem dW_file_14 : decode method_3_code 14 = .ok (.goto 11, 3) := by decide +kernel
theorem dW_file_17 : decode method_3_code 17 = .ok (.astore 6, 2) := by decide +kernel
theorem dW_file_19 : decode method_3_code 19 = .ok (.iconst 1, 1) := by decide +kernel
theorem dW_file_20 : decode method_3_code 20 = .ok (.ireturn, 1) := by decide +kernel
theorem dW_file_21 : decode method_3_code 21 = .ok (.astore 6, 2) := by decide +kernel
theorem dW_file_23 : decode method_3_code 23 = .ok (.iconst 2, 1) := by decide +kernel
theorem dW_file_24 : decode method_3_code 24 = .ok (.ireturn, 1) := by decide +kernel
theorem dW_file_25 : decode method_3_code 25 = .ok (.iconst 0, 1) := by decide +kernel
theorem dW_file_26 : decode method_3_code 26 = .ok (.ireturn, 1) := by decide +kernel
theorem dW_descriptor_0 : decode method_4_code 0 = .ok (.aload 4, 2) := by decide +kernel
theorem dW_descriptor_2 : decode method_4_code 2 = .ok (.iconst 0, 1) := by decide +kernel
theorem dW_descriptor_3 : decode method_4_code 3 = .ok (.aload_n 0, 1) := by decide +kernel
theorem dW_descriptor_4 : decode method_4_code 4 = .ok (.iload_n 1, 1) := by decide +kernel
theorem dW_descriptor_5 : decode method_4_code 5 = .ok (.iload_n 2, 1) := by decide +kernel
theorem dW_descriptor_6 : decode method_4_code 6 = .ok (.iload_n 3, 1) := by decide +kernel
theorem dW_descriptor_7 : decode method_4_code 7 = .ok (.invokevirtual 17, 3) := by decide +kernel
theorem dW_descriptor_10 : decode method_4_code 10 = .ok (.i2l, 1) := by decide +kernel
theorem dW_descriptor_11 : decode method_4_code 11 = .ok (.lastore, 1) := by decide +kernel
theorem dW_descriptor_12 : decode method_4_code 12 = .ok (.goto 11, 3) := by decide +kernel
theorem dW_descriptor_15 : decode method_4_code 15 = .ok (.astore 5, 2) := by decide +kernel
theorem dW_descriptor_17 : decode method_4_code 17 = .ok (.iconst 1, 1) := by decide +kernel
theorem dW_descriptor_18 : decode method_4_code 18 = .ok (.ireturn, 1) := by decide +kernel
theorem dW_descriptor_19 : decode method_4_code 19 = .ok (.astore 5, 2) := by decide +kernel
theorem dW_descriptor_21 : decode method_4_code 21 = .ok (.iconst 2, 1) := by decide +kernel
theorem dW_descriptor_22 : decode method_4_code 22 = .ok (.ireturn, 1) := by decide +kernel
theorem dW_descriptor_23 : decode method_4_code 23 = .ok (.iconst 0, 1) := by decide +kernel
theorem dW_descriptor_24 : decode method_4_code 24 = .ok (.ireturn, 1) := by decide +kernel
theorem dW_wipe_0 : decode method_5_code 0 = .ok (.aload_n 0, 1) := by decide +kernel
theorem dW_wipe_1 : decode method_5_code 1 = .ok (.iload_n 1, 1) := by decide +kernel
theorem dW_wipe_2 : decode method_5_code 2 = .ok (.invokevirtual 21, 3) := by decide +kernel
theorem dW_wipe_5 : decode method_5_code 5 = .ok (.goto 6, 3) := by decide +kernel
theorem dW_wipe_8 : decode method_5_code 8 = .ok (.astore_n 2, 1) := by decide +kernel
theorem dW_wipe_9 : decode method_5_code 9 = .ok (.iconst 1, 1) := by decide +kernel
theorem dW_wipe_10 : decode method_5_code 10 = .ok (.ireturn, 1) := by decide +kernel
theorem dW_wipe_11 : decode method_5_code 11 = .ok (.iconst 0, 1) := by decide +kernel
theorem dW_wipe_12 : decode method_5_code 12 = .ok (.ireturn, 1) := by decide +kernel
theorem dW_child_0 : decode method_6_code 0 = .ok (.aload_n 2, 1) := by decide +kernel
theorem dW_child_1 : decode method_6_code 1 = .ok (.iconst 0, 1) := by decide +kernel
theorem dW_child_2 : decode method_6_code 2 = .ok (.aload_n 0, 1) := by decide +kernel
theorem dW_child_3 : decode method_6_code 3 = .ok (.iload_n 1, 1) := by decide +kernel
theorem dW_child_4 : decode method_6_code 4 = .ok (.invokevirtual 25, 3) := by decide +kernel
theorem dW_child_7 : decode method_6_code 7 = .ok (.i2l, 1) := by decide +kernel
theorem dW_child_8 : decode method_6_code 8 = .ok (.lastore, 1) := by decide +kernel
theorem dW_child_9 : decode method_6_code 9 = .ok (.goto 9, 3) := by decide +kernel
theorem dW_child_12 : decode method_6_code 12 = .ok (.astore_n 3, 1) := by decide +kernel
theorem dW_child_13 : decode method_6_code 13 = .ok (.iconst 1, 1) := by decide +kernel
theorem dW_child_14 : decode method_6_code 14 = .ok (.ireturn, 1) := by decide +kernel
theorem dW_child_15 : decode method_6_code 15 = .ok (.astore_n 3, 1) := by decide +kernel
theorem dW_child_16 : decode method_6_code 16 = .ok (.iconst 2, 1) := by decide +kernel
theorem dW_child_17 : decode method_6_code 17 = .ok (.ireturn, 1) := by decide +kernel
theorem dW_child_18 : decode method_6_code 18 = .ok (.iconst 0, 1) := by decide +kernel
theorem dW_child_19 : decode method_6_code 19 = .ok (.ireturn, 1) := by decide +kernel
theorem dW_add_0 : decode method_7_code 0 = .ok (.aload 4, 2) := by decide +kernel
theorem dW_add_2 : decode method_7_code 2 = .ok (.iconst 0, 1) := by decide +kernel
theorem dW_add_3 : decode method_7_code 3 = .ok (.aload_n 0, 1) := by decide +kernel
theorem dW_add_4 : decode method_7_code 4 = .ok (.iload_n 1, 1) := by decide +kernel
theorem dW_add_5 : decode method_7_code 5 = .ok (.iload_n 2, 1) := by decide +kernel
theorem dW_add_6 : decode method_7_code 6 = .ok (.iload_n 3, 1) := by decide +kernel
theorem dW_add_7 : decode method_7_code 7 = .ok (.invokevirtual 29, 3) := by decide +kernel
theorem dW_add_10 : decode method_7_code 10 = .ok (.ifCond .eq 7, 3) := by decide +kernel
theorem dW_add_13 : decode method_7_code 13 = .ok (.lconst 1, 1) := by decide +kernel
theorem dW_add_14 : decode method_7_code 14 = .ok (.goto 4, 3) := by decide +kernel
theorem dW_add_17 : decode method_7_code 17 = .ok (.lconst 0, 1) := by decide +kernel
theorem dW_add_18 : decode method_7_code 18 = .ok (.lastore, 1) := by decide +kernel
theorem dW_add_19 : decode method_7_code 19 = .ok (.goto 11, 3) := by decide +kernel
theorem dW_add_22 : decode method_7_code 22 = .ok (.astore 5, 2) := by decide +kernel
theorem dW_add_24 : decode method_7_code 24 = .ok (.iconst 1, 1) := by decide +kernel
theorem dW_add_25 : decode method_7_code 25 = .ok (.ireturn, 1) := by decide +kernel
theorem dW_add_26 : decode method_7_code 26 = .ok (.astore 5, 2) := by decide +kernel
theorem dW_add_28 : decode method_7_code 28 = .ok (.iconst 2, 1) := by decide +kernel
theorem dW_add_29 : decode method_7_code 29 = .ok (.ireturn, 1) := by decide +kernel
theorem dW_add_30 : decode method_7_code 30 = .ok (.iconst 0, 1) := by decide +kernel
theorem dW_add_31 : decode method_7_code 31 = .ok (.ireturn, 1) := by decide +kernel
theorem dW_filter_0 : decode method_8_code 0 = .ok (.aload_n 0, 1) := by decide +kernel
theorem dW_filter_1 : decode method_8_code 1 = .ok (.iload_n 1, 1) := by decide +kernel
theorem dW_filter_2 : decode method_8_code 2 = .ok (.iload_n 2, 1) := by decide +kernel
theorem dW_filter_3 : decode method_8_code 3 = .ok (.lload_n 3, 1) := by decide +kernel
theorem dW_filter_4 : decode method_8_code 4 = .ok (.lload 5, 2) := by decide +kernel
theorem dW_filter_6 : decode method_8_code 6 = .ok (.invokevirtual 33, 3) := by decide +kernel
theorem dW_filter_9 : decode method_8_code 9 = .ok (.goto 11, 3) := by decide +kernel
theorem dW_filter_12 : decode method_8_code 12 = .ok (.astore 7, 2) := by decide +kernel
theorem dW_filter_14 : decode method_8_code 14 = .ok (.iconst 1, 1) := by decide +kernel
theorem dW_filter_15 : decode method_8_code 15 = .ok (.ireturn, 1) := by decide +kernel
theorem dW_filter_16 : decode method_8_code 16 = .ok (.astore 7, 2) := by decide +kernel
theorem dW_filter_18 : decode method_8_code 18 = .ok (.iconst 2, 1) := by decide +kernel
theorem dW_filter_19 : decode method_8_code 19 = .ok (.ireturn, 1) := by decide +kernel
theorem dW_filter_20 : decode method_8_code 20 = .ok (.iconst 0, 1) := by decide +kernel
theorem dW_filter_21 : decode method_8_code 21 = .ok (.ireturn, 1) := by decide +kernel
theorem dW_lock_0 : decode method_9_code 0 = .ok (.aload_n 2, 1) := by decide +kernel
theorem dW_lock_1 : decode method_9_code 1 = .ok (.iconst 0, 1) := by decide +kernel
theorem dW_lock_2 : decode method_9_code 2 = .ok (.aload_n 0, 1) := by decide +kernel
theorem dW_lock_3 : decode method_9_code 3 = .ok (.iload_n 1, 1) := by decide +kernel
theorem dW_lock_4 : decode method_9_code 4 = .ok (.invokevirtual 37, 3) := by decide +kernel
theorem dW_lock_7 : decode method_9_code 7 = .ok (.i2l, 1) := by decide +kernel
theorem dW_lock_8 : decode method_9_code 8 = .ok (.lastore, 1) := by decide +kernel
theorem dW_lock_9 : decode method_9_code 9 = .ok (.goto 12, 3) := by decide +kernel
theorem dW_lock_12 : decode method_9_code 12 = .ok (.astore_n 3, 1) := by decide +kernel
theorem dW_lock_13 : decode method_9_code 13 = .ok (.iconst 1, 1) := by decide +kernel
theorem dW_lock_14 : decode method_9_code 14 = .ok (.ireturn, 1) := by decide +kernel
theorem dW_lock_15 : decode method_9_code 15 = .ok (.astore_n 3, 1) := by decide +kernel
theorem dW_lock_16 : decode method_9_code 16 = .ok (.iconst 2, 1) := by decide +kernel
theorem dW_lock_17 : decode method_9_code 17 = .ok (.ireturn, 1) := by decide +kernel
theorem dW_lock_18 : decode method_9_code 18 = .ok (.astore_n 3, 1) := by decide +kernel
theorem dW_lock_19 : decode method_9_code 19 = .ok (.iconst 3, 1) := by decide +kernel
theorem dW_lock_20 : decode method_9_code 20 = .ok (.ireturn, 1) := by decide +kernel
theorem dW_lock_21 : decode method_9_code 21 = .ok (.iconst 0, 1) := by decide +kernel
theorem dW_lock_22 : decode method_9_code 22 = .ok (.ireturn, 1) := by decide +kernel
theorem dW_release_0 : decode method_10_code 0 = .ok (.aload_n 2, 1) := by decide +kernel
theorem dW_release_1 : decode method_10_code 1 = .ok (.iconst 0, 1) := by decide +kernel
theorem dW_release_2 : decode method_10_code 2 = .ok (.aload_n 0, 1) := by decide +kernel
theorem dW_release_3 : decode method_10_code 3 = .ok (.iload_n 1, 1) := by decide +kernel
theorem dW_release_4 : decode method_10_code 4 = .ok (.invokevirtual 42, 3) := by decide +kernel
theorem dW_release_7 : decode method_10_code 7 = .ok (.i2l, 1) := by decide +kernel
theorem dW_release_8 : decode method_10_code 8 = .ok (.lastore, 1) := by decide +kernel
theorem dW_release_9 : decode method_10_code 9 = .ok (.goto 9, 3) := by decide +kernel
theorem dW_release_12 : decode method_10_code 12 = .ok (.astore_n 3, 1) := by decide +kernel
theorem dW_release_13 : decode method_10_code 13 = .ok (.iconst 1, 1) := by decide +kernel
theorem dW_release_14 : decode method_10_code 14 = .ok (.ireturn, 1) := by decide +kernel
theorem dW_release_15 : decode method_10_code 15 = .ok (.astore_n 3, 1) := by decide +kernel
theorem dW_release_16 : decode method_10_code 16 = .ok (.iconst 2, 1) := by decide +kernel
theorem dW_release_17 : decode method_10_code 17 = .ok (.ireturn, 1) := by decide +kernel
theorem dW_release_18 : decode method_10_code 18 = .ok (.iconst 0, 1) := by decide +kernel
theorem dW_release_19 : decode method_10_code 19 = .ok (.ireturn, 1) := by decide +kernel
theorem dW_loader_0 : decode method_11_code 0 = .ok (.aload_n 3, 1) := by decide +kernel
theorem dW_loader_1 : decode method_11_code 1 = .ok (.iconst 0, 1) := by decide +kernel
theorem dW_loader_2 : decode method_11_code 2 = .ok (.aload_n 0, 1) := by decide +kernel
theorem dW_loader_3 : decode method_11_code 3 = .ok (.iload_n 1, 1) := by decide +kernel
theorem dW_loader_4 : decode method_11_code 4 = .ok (.iload_n 2, 1) := by decide +kernel
theorem dW_loader_5 : decode method_11_code 5 = .ok (.invokevirtual 45, 3) := by decide +kernel
theorem dW_loader_8 : decode method_11_code 8 = .ok (.i2l, 1) := by decide +kernel
theorem dW_loader_9 : decode method_11_code 9 = .ok (.lastore, 1) := by decide +kernel
theorem dW_loader_10 : decode method_11_code 10 = .ok (.goto 7, 3) := by decide +kernel
theorem dW_loader_13 : decode method_11_code 13 = .ok (.astore 4, 2) := by decide +kernel
theorem dW_loader_15 : decode method_11_code 15 = .ok (.iconst 1, 1) := by decide +kernel
theorem dW_loader_16 : decode method_11_code 16 = .ok (.ireturn, 1) := by decide +kernel
theorem dW_loader_17 : decode method_11_code 17 = .ok (.iconst 0, 1) := by decide +kernel
theorem dW_loader_18 : decode method_11_code 18 = .ok (.ireturn, 1) := by decide +kernel
theorem dW_load_0 : decode method_12_code 0 = .ok (.aload_n 3, 1) := by decide +kernel
theorem dW_load_1 : decode method_12_code 1 = .ok (.iconst 0, 1) := by decide +kernel
theorem dW_load_2 : decode method_12_code 2 = .ok (.aload_n 0, 1) := by decide +kernel
theorem dW_load_3 : decode method_12_code 3 = .ok (.iload_n 1, 1) := by decide +kernel
theorem dW_load_4 : decode method_12_code 4 = .ok (.iload_n 2, 1) := by decide +kernel
theorem dW_load_5 : decode method_12_code 5 = .ok (.invokevirtual 49, 3) := by decide +kernel
theorem dW_load_8 : decode method_12_code 8 = .ok (.i2l, 1) := by decide +kernel
theorem dW_load_9 : decode method_12_code 9 = .ok (.lastore, 1) := by decide +kernel
theorem dW_load_10 : decode method_12_code 10 = .ok (.goto 19, 3) := by decide +kernel
theorem dW_load_13 : decode method_12_code 13 = .ok (.astore 4, 2) := by decide +kernel
theorem dW_load_15 : decode method_12_code 15 = .ok (.iconst 1, 1) := by decide +kernel
theorem dW_load_16 : decode method_12_code 16 = .ok (.ireturn, 1) := by decide +kernel
theorem dW_load_17 : decode method_12_code 17 = .ok (.astore 4, 2) := by decide +kernel
theorem dW_load_19 : decode method_12_code 19 = .ok (.iconst 2, 1) := by decide +kernel
theorem dW_load_20 : decode method_12_code 20 = .ok (.ireturn, 1) := by decide +kernel
theorem dW_load_21 : decode method_12_code 21 = .ok (.astore 4, 2) := by decide +kernel
theorem dW_load_23 : decode method_12_code 23 = .ok (.iconst 3, 1) := by decide +kernel
theorem dW_load_24 : decode method_12_code 24 = .ok (.ireturn, 1) := by decide +kernel
theorem dW_load_25 : decode method_12_code 25 = .ok (.astore 4, 2) := by decide +kernel
theorem dW_load_27 : decode method_12_code 27 = .ok (.iconst 4, 1) := by decide +kernel
theorem dW_load_28 : decode method_12_code 28 = .ok (.ireturn, 1) := by decide +kernel
theorem dW_load_29 : decode method_12_code 29 = .ok (.iconst 0, 1) := by decide +kernel
theorem dW_load_30 : decode method_12_code 30 = .ok (.ireturn, 1) := by decide +kernel
theorem dW_info_0 : decode method_13_code 0 = .ok (.aload_n 3, 1) := by decide +kernel
theorem dW_info_1 : decode method_13_code 1 = .ok (.iconst 0, 1) := by decide +kernel
theorem dW_info_2 : decode method_13_code 2 = .ok (.aload_n 0, 1) := by decide +kernel
theorem dW_info_3 : decode method_13_code 3 = .ok (.iload_n 1, 1) := by decide +kernel
theorem dW_info_4 : decode method_13_code 4 = .ok (.iload_n 2, 1) := by decide +kernel
theorem dW_info_5 : decode method_13_code 5 = .ok (.invokevirtual 55, 3) := by decide +kernel
theorem dW_info_8 : decode method_13_code 8 = .ok (.i2l, 1) := by decide +kernel
theorem dW_info_9 : decode method_13_code 9 = .ok (.lastore, 1) := by decide +kernel
theorem dW_info_10 : decode method_13_code 10 = .ok (.goto 7, 3) := by decide +kernel
theorem dW_info_13 : decode method_13_code 13 = .ok (.astore 4, 2) := by decide +kernel
theorem dW_info_15 : decode method_13_code 15 = .ok (.iconst 1, 1) := by decide +kernel
theorem dW_info_16 : decode method_13_code 16 = .ok (.ireturn, 1) := by decide +kernel
theorem dW_info_17 : decode method_13_code 17 = .ok (.iconst 0, 1) := by decide +kernel
theorem dW_info_18 : decode method_13_code 18 = .ok (.ireturn, 1) := by decide +kernel
theorem dW_isA_0 : decode method_14_code 0 = .ok (.aload_n 3, 1) := by decide +kernel
theorem dW_isA_1 : decode method_14_code 1 = .ok (.iconst 0, 1) := by decide +kernel
theorem dW_isA_2 : decode method_14_code 2 = .ok (.aload_n 0, 1) := by decide +kernel
theorem dW_isA_3 : decode method_14_code 3 = .ok (.iload_n 1, 1) := by decide +kernel
theorem dW_isA_4 : decode method_14_code 4 = .ok (.iload_n 2, 1) := by decide +kernel
theorem dW_isA_5 : decode method_14_code 5 = .ok (.invokevirtual 58, 3) := by decide +kernel
theorem dW_isA_8 : decode method_14_code 8 = .ok (.ifCond .eq 7, 3) := by decide +kernel
theorem dW_isA_11 : decode method_14_code 11 = .ok (.lconst 1, 1) := by decide +kernel
theorem dW_isA_12 : decode method_14_code 12 = .ok (.goto 4, 3) := by decide +kernel
theorem dW_isA_15 : decode method_14_code 15 = .ok (.lconst 0, 1) := by decide +kernel
theorem dW_isA_16 : decode method_14_code 16 = .ok (.lastore, 1) := by decide +kernel
theorem dW_isA_17 : decode method_14_code 17 = .ok (.goto 7, 3) := by decide +kernel
theorem dW_isA_20 : decode method_14_code 20 = .ok (.astore 4, 2) := by decide +kernel
theorem dW_isA_22 : decode method_14_code 22 = .ok (.iconst 1, 1) := by decide +kernel
theorem dW_isA_23 : decode method_14_code 23 = .ok (.ireturn, 1) := by decide +kernel
theorem dW_isA_24 : decode method_14_code 24 = .ok (.iconst 0, 1) := by decide +kernel
theorem dW_isA_25 : decode method_14_code 25 = .ok (.ireturn, 1) := by decide +kernel
theorem dW_apply_0 : decode method_15_code 0 = .ok (.aload_n 3, 1) := by decide +kernel
theorem dW_apply_1 : decode method_15_code 1 = .ok (.iconst 0, 1) := by decide +kernel
theorem dW_apply_2 : decode method_15_code 2 = .ok (.aload_n 0, 1) := by decide +kernel
theorem dW_apply_3 : decode method_15_code 3 = .ok (.iload_n 1, 1) := by decide +kernel
theorem dW_apply_4 : decode method_15_code 4 = .ok (.iload_n 2, 1) := by decide +kernel
theorem dW_apply_5 : decode method_15_code 5 = .ok (.invokevirtual 62, 3) := by decide +kernel
theorem dW_apply_8 : decode method_15_code 8 = .ok (.i2l, 1) := by decide +kernel
theorem dW_apply_9 : decode method_15_code 9 = .ok (.lastore, 1) := by decide +kernel
theorem dW_apply_10 : decode method_15_code 10 = .ok (.goto 19, 3) := by decide +kernel
theorem dW_apply_13 : decode method_15_code 13 = .ok (.astore 4, 2) := by decide +kernel
theorem dW_apply_15 : decode method_15_code 15 = .ok (.iconst 1, 1) := by decide +kernel
theorem dW_apply_16 : decode method_15_code 16 = .ok (.ireturn, 1) := by decide +kernel
theorem dW_apply_17 : decode method_15_code 17 = .ok (.astore 4, 2) := by decide +kernel
theorem dW_apply_19 : decode method_15_code 19 = .ok (.iconst 2, 1) := by decide +kernel
theorem dW_apply_20 : decode method_15_code 20 = .ok (.ireturn, 1) := by decide +kernel
theorem dW_apply_21 : decode method_15_code 21 = .ok (.astore 4, 2) := by decide +kernel
theorem dW_apply_23 : decode method_15_code 23 = .ok (.iconst 3, 1) := by decide +kernel
theorem dW_apply_24 : decode method_15_code 24 = .ok (.ireturn, 1) := by decide +kernel
theorem dW_apply_25 : decode method_15_code 25 = .ok (.astore 4, 2) := by decide +kernel
theorem dW_apply_27 : decode method_15_code 27 = .ok (.iconst 4, 1) := by decide +kernel
theorem dW_apply_28 : decode method_15_code 28 = .ok (.ireturn, 1) := by decide +kernel
theorem dW_apply_29 : decode method_15_code 29 = .ok (.iconst 0, 1) := by decide +kernel
theorem dW_apply_30 : decode method_15_code 30 = .ok (.ireturn, 1) := by decide +kernel
theorem dW_applied_0 : decode method_16_code 0 = .ok (.aload_n 3, 1) := by decide +kernel
theorem dW_applied_1 : decode method_16_code 1 = .ok (.iconst 0, 1) := by decide +kernel
theorem dW_applied_2 : decode method_16_code 2 = .ok (.aload_n 0, 1) := by decide +kernel
theorem dW_applied_3 : decode method_16_code 3 = .ok (.iload_n 1, 1) := by decide +kernel
theorem dW_applied_4 : decode method_16_code 4 = .ok (.iload_n 2, 1) := by decide +kernel
theorem dW_applied_5 : decode method_16_code 5 = .ok (.invokevirtual 65, 3) := by decide +kernel
theorem dW_applied_8 : decode method_16_code 8 = .ok (.i2l, 1) := by decide +kernel
theorem dW_applied_9 : decode method_16_code 9 = .ok (.lastore, 1) := by decide +kernel
theorem dW_applied_10 : decode method_16_code 10 = .ok (.goto 7, 3) := by decide +kernel
theorem dW_applied_13 : decode method_16_code 13 = .ok (.astore 4, 2) := by decide +kernel
theorem dW_applied_15 : decode method_16_code 15 = .ok (.iconst 1, 1) := by decide +kernel
theorem dW_applied_16 : decode method_16_code 16 = .ok (.ireturn, 1) := by decide +kernel
theorem dW_applied_17 : decode method_16_code 17 = .ok (.iconst 0, 1) := by decide +kernel
theorem dW_applied_18 : decode method_16_code 18 = .ok (.ireturn, 1) := by decide +kernel
theorem dW_law_0 : decode code 0 = .ok (.new 8, 3) := by decide +kernel
theorem dW_law_3 : decode code 3 = .ok (.dup, 1) := by decide +kernel
theorem dW_law_4 : decode code 4 = .ok (.invokespecial 68, 3) := by decide +kernel
theorem dW_law_7 : decode code 7 = .ok (.astore_n 1, 1) := by decide +kernel
theorem dW_law_8 : decode code 8 = .ok (.new 69, 3) := by decide +kernel
theorem dW_law_11 : decode code 11 = .ok (.dup, 1) := by decide +kernel
theorem dW_law_12 : decode code 12 = .ok (.invokespecial 71, 3) := by decide +kernel
theorem dW_law_15 : decode code 15 = .ok (.astore_n 2, 1) := by decide +kernel
theorem dW_law_16 : decode code 16 = .ok (.iconst 1, 1) := by decide +kernel
theorem dW_law_17 : decode code 17 = .ok (.newarray .long, 2) := by decide +kernel
theorem dW_law_19 : decode code 19 = .ok (.astore_n 3, 1) := by decide +kernel
theorem dW_law_20 : decode code 20 = .ok (.iconst 0, 1) := by decide +kernel
theorem dW_law_21 : decode code 21 = .ok (.istore 4, 2) := by decide +kernel
theorem dW_law_23 : decode code 23 = .ok (.iload 4, 2) := by decide +kernel
theorem dW_law_25 : decode code 25 = .ok (.aload_n 0, 1) := by decide +kernel
theorem dW_law_26 : decode code 26 = .ok (.arraylength, 1) := by decide +kernel
theorem dW_law_27 : decode code 27 = .ok (.bipush 7, 2) := by decide +kernel
theorem dW_law_29 : decode code 29 = .ok (.isub, 1) := by decide +kernel
theorem dW_law_30 : decode code 30 = .ok (.if_icmp .gt 1177, 3) := by decide +kernel
theorem dW_law_33 : decode code 33 = .ok (.aload_n 0, 1) := by decide +kernel
theorem dW_law_34 : decode code 34 = .ok (.iload 4, 2) := by decide +kernel
theorem dW_law_36 : decode code 36 = .ok (.iaload, 1) := by decide +kernel
theorem dW_law_37 : decode code 37 = .ok (.bipush 15, 2) := by decide +kernel
theorem dW_law_39 : decode code 39 = .ok (.iand, 1) := by decide +kernel
theorem dW_law_40 : decode code 40 = .ok (.tableswitch 1161 0 14 #[76, 168, 248, 284, 340, 443, 581, 637, 693, 777, 814, 882, 950, 1025, 1093], 76) := by decide +kernel
theorem dW_law_116 : decode code 116 = .ok (.aload_n 1, 1) := by decide +kernel
theorem dW_law_117 : decode code 117 = .ok (.aload_n 0, 1) := by decide +kernel
theorem dW_law_118 : decode code 118 = .ok (.iload 4, 2) := by decide +kernel
theorem dW_law_120 : decode code 120 = .ok (.iconst 1, 1) := by decide +kernel
theorem dW_law_121 : decode code 121 = .ok (.iadd, 1) := by decide +kernel
theorem dW_law_122 : decode code 122 = .ok (.iaload, 1) := by decide +kernel
theorem dW_law_123 : decode code 123 = .ok (.aload_n 0, 1) := by decide +kernel
theorem dW_law_124 : decode code 124 = .ok (.iload 4, 2) := by decide +kernel
theorem dW_law_126 : decode code 126 = .ok (.iconst 2, 1) := by decide +kernel
theorem dW_law_127 : decode code 127 = .ok (.iadd, 1) := by decide +kernel
theorem dW_law_128 : decode code 128 = .ok (.iaload, 1) := by decide +kernel
theorem dW_law_129 : decode code 129 = .ok (.aload_n 0, 1) := by decide +kernel
theorem dW_law_130 : decode code 130 = .ok (.iload 4, 2) := by decide +kernel
theorem dW_law_132 : decode code 132 = .ok (.iconst 3, 1) := by decide +kernel
theorem dW_law_133 : decode code 133 = .ok (.iadd, 1) := by decide +kernel
theorem dW_law_134 : decode code 134 = .ok (.iaload, 1) := by decide +kernel
theorem dW_law_135 : decode code 135 = .ok (.aload_n 0, 1) := by decide +kernel
theorem dW_law_136 : decode code 136 = .ok (.iload 4, 2) := by decide +kernel
theorem dW_law_138 : decode code 138 = .ok (.iconst 4, 1) := by decide +kernel
theorem dW_law_139 : decode code 139 = .ok (.iadd, 1) := by decide +kernel
theorem dW_law_140 : decode code 140 = .ok (.iaload, 1) := by decide +kernel
theorem dW_law_141 : decode code 141 = .ok (.aload_n 3, 1) := by decide +kernel
theorem dW_law_142 : decode code 142 = .ok (.invokestatic 72, 3) := by decide +kernel
theorem dW_law_145 : decode code 145 = .ok (.istore 5, 2) := by decide +kernel
theorem dW_law_147 : decode code 147 = .ok (.aload_n 2, 1) := by decide +kernel
theorem dW_law_148 : decode code 148 = .ok (.aload_n 0, 1) := by decide +kernel
theorem dW_law_149 : decode code 149 = .ok (.iload 4, 2) := by decide +kernel
theorem dW_law_151 : decode code 151 = .ok (.iconst 1, 1) := by decide +kernel
theorem dW_law_152 : decode code 152 = .ok (.iadd, 1) := by decide +kernel
theorem dW_law_153 : decode code 153 = .ok (.iaload, 1) := by decide +kernel
theorem dW_law_154 : decode code 154 = .ok (.aload_n 0, 1) := by decide +kernel
theorem dW_law_155 : decode code 155 = .ok (.iload 4, 2) := by decide +kernel
theorem dW_law_157 : decode code 157 = .ok (.iconst 2, 1) := by decide +kernel
theorem dW_law_158 : decode code 158 = .ok (.iadd, 1) := by decide +kernel
theorem dW_law_159 : decode code 159 = .ok (.iaload, 1) := by decide +kernel
theorem dW_law_160 : decode code 160 = .ok (.aload_n 0, 1) := by decide +kernel
theorem dW_law_161 : decode code 161 = .ok (.iload 4, 2) := by decide +kernel
theorem dW_law_163 : decode code 163 = .ok (.iconst 3, 1) := by decide +kernel
theorem dW_law_164 : decode code 164 = .ok (.iadd, 1) := by decide +kernel
theorem dW_law_165 : decode code 165 = .ok (.iaload, 1) := by decide +kernel
theorem dW_law_166 : decode code 166 = .ok (.aload_n 0, 1) := by decide +kernel
theorem dW_law_167 : decode code 167 = .ok (.iload 4, 2) := by decide +kernel
theorem dW_law_169 : decode code 169 = .ok (.iconst 4, 1) := by decide +kernel
theorem dW_law_170 : decode code 170 = .ok (.iadd, 1) := by decide +kernel
theorem dW_law_171 : decode code 171 = .ok (.iaload, 1) := by decide +kernel
theorem dW_law_172 : decode code 172 = .ok (.invokevirtual 77, 3) := by decide +kernel
theorem dW_law_175 : decode code 175 = .ok (.istore 6, 2) := by decide +kernel
theorem dW_law_177 : decode code 177 = .ok (.aload_n 2, 1) := by decide +kernel
theorem dW_law_178 : decode code 178 = .ok (.invokevirtual 78, 3) := by decide +kernel
theorem dW_law_181 : decode code 181 = .ok (.iload 5, 2) := by decide +kernel
theorem dW_law_183 : decode code 183 = .ok (.if_icmp .eq 5, 3) := by decide +kernel
theorem dW_law_186 : decode code 186 = .ok (.iconst 0, 1) := by decide +kernel
theorem dW_law_187 : decode code 187 = .ok (.ireturn, 1) := by decide +kernel
theorem dW_law_188 : decode code 188 = .ok (.iload 5, 2) := by decide +kernel
theorem dW_law_190 : decode code 190 = .ok (.ifCond .ne 15, 3) := by decide +kernel
theorem dW_law_193 : decode code 193 = .ok (.aload_n 3, 1) := by decide +kernel
theorem dW_law_194 : decode code 194 = .ok (.iconst 0, 1) := by decide +kernel
theorem dW_law_195 : decode code 195 = .ok (.laload, 1) := by decide +kernel
theorem dW_law_196 : decode code 196 = .ok (.iload 6, 2) := by decide +kernel
theorem dW_law_198 : decode code 198 = .ok (.i2l, 1) := by decide +kernel
theorem dW_law_199 : decode code 199 = .ok (.lcmp, 1) := by decide +kernel
theorem dW_law_200 : decode code 200 = .ok (.ifCond .eq 5, 3) := by decide +kernel
theorem dW_law_203 : decode code 203 = .ok (.iconst 0, 1) := by decide +kernel
theorem dW_law_204 : decode code 204 = .ok (.ireturn, 1) := by decide +kernel
theorem dW_law_205 : decode code 205 = .ok (.goto 996, 3) := by decide +kernel
theorem dW_law_208 : decode code 208 = .ok (.aload_n 1, 1) := by decide +kernel
theorem dW_law_209 : decode code 209 = .ok (.aload_n 0, 1) := by decide +kernel
theorem dW_law_210 : decode code 210 = .ok (.iload 4, 2) := by decide +kernel
theorem dW_law_212 : decode code 212 = .ok (.iconst 1, 1) := by decide +kernel
theorem dW_law_213 : decode code 213 = .ok (.iadd, 1) := by decide +kernel
theorem dW_law_214 : decode code 214 = .ok (.iaload, 1) := by decide +kernel
theorem dW_law_215 : decode code 215 = .ok (.aload_n 0, 1) := by decide +kernel
theorem dW_law_216 : decode code 216 = .ok (.iload 4, 2) := by decide +kernel
theorem dW_law_218 : decode code 218 = .ok (.iconst 2, 1) := by decide +kernel
theorem dW_law_219 : decode code 219 = .ok (.iadd, 1) := by decide +kernel
theorem dW_law_220 : decode code 220 = .ok (.iaload, 1) := by decide +kernel
theorem dW_law_221 : decode code 221 = .ok (.aload_n 0, 1) := by decide +kernel
theorem dW_law_222 : decode code 222 = .ok (.iload 4, 2) := by decide +kernel
theorem dW_law_224 : decode code 224 = .ok (.iconst 3, 1) := by decide +kernel
theorem dW_law_225 : decode code 225 = .ok (.iadd, 1) := by decide +kernel
theorem dW_law_226 : decode code 226 = .ok (.iaload, 1) := by decide +kernel
theorem dW_law_227 : decode code 227 = .ok (.aload_n 3, 1) := by decide +kernel
theorem dW_law_228 : decode code 228 = .ok (.invokestatic 82, 3) := by decide +kernel
theorem dW_law_231 : decode code 231 = .ok (.istore 5, 2) := by decide +kernel
theorem dW_law_233 : decode code 233 = .ok (.aload_n 2, 1) := by decide +kernel
theorem dW_law_234 : decode code 234 = .ok (.aload_n 0, 1) := by decide +kernel
theorem dW_law_235 : decode code 235 = .ok (.iload 4, 2) := by decide +kernel
theorem dW_law_237 : decode code 237 = .ok (.iconst 1, 1) := by decide +kernel
theorem dW_law_238 : decode code 238 = .ok (.iadd, 1) := by decide +kernel
theorem dW_law_239 : decode code 239 = .ok (.iaload, 1) := by decide +kernel
theorem dW_law_240 : decode code 240 = .ok (.aload_n 0, 1) := by decide +kernel
theorem dW_law_241 : decode code 241 = .ok (.iload 4, 2) := by decide +kernel
theorem dW_law_243 : decode code 243 = .ok (.iconst 2, 1) := by decide +kernel
theorem dW_law_244 : decode code 244 = .ok (.iadd, 1) := by decide +kernel
theorem dW_law_245 : decode code 245 = .ok (.iaload, 1) := by decide +kernel
theorem dW_law_246 : decode code 246 = .ok (.aload_n 0, 1) := by decide +kernel
theorem dW_law_247 : decode code 247 = .ok (.iload 4, 2) := by decide +kernel
theorem dW_law_249 : decode code 249 = .ok (.iconst 3, 1) := by decide +kernel
theorem dW_law_250 : decode code 250 = .ok (.iadd, 1) := by decide +kernel
theorem dW_law_251 : decode code 251 = .ok (.iaload, 1) := by decide +kernel
theorem dW_law_252 : decode code 252 = .ok (.invokevirtual 85, 3) := by decide +kernel
theorem dW_law_255 : decode code 255 = .ok (.istore 6, 2) := by decide +kernel
theorem dW_law_257 : decode code 257 = .ok (.aload_n 2, 1) := by decide +kernel
theorem dW_law_258 : decode code 258 = .ok (.invokevirtual 78, 3) := by decide +kernel
theorem dW_law_261 : decode code 261 = .ok (.iload 5, 2) := by decide +kernel
theorem dW_law_263 : decode code 263 = .ok (.if_icmp .eq 5, 3) := by decide +kernel
theorem dW_law_266 : decode code 266 = .ok (.iconst 0, 1) := by decide +kernel
theorem dW_law_267 : decode code 267 = .ok (.ireturn, 1) := by decide +kernel
theorem dW_law_268 : decode code 268 = .ok (.iload 5, 2) := by decide +kernel
theorem dW_law_270 : decode code 270 = .ok (.ifCond .ne 15, 3) := by decide +kernel
theorem dW_law_273 : decode code 273 = .ok (.aload_n 3, 1) := by decide +kernel
theorem dW_law_274 : decode code 274 = .ok (.iconst 0, 1) := by decide +kernel
theorem dW_law_275 : decode code 275 = .ok (.laload, 1) := by decide +kernel
theorem dW_law_276 : decode code 276 = .ok (.iload 6, 2) := by decide +kernel
theorem dW_law_278 : decode code 278 = .ok (.i2l, 1) := by decide +kernel
theorem dW_law_279 : decode code 279 = .ok (.lcmp, 1) := by decide +kernel
theorem dW_law_280 : decode code 280 = .ok (.ifCond .eq 5, 3) := by decide +kernel
theorem dW_law_283 : decode code 283 = .ok (.iconst 0, 1) := by decide +kernel
theorem dW_law_284 : decode code 284 = .ok (.ireturn, 1) := by decide +kernel
theorem dW_law_285 : decode code 285 = .ok (.goto 916, 3) := by decide +kernel
theorem dW_law_288 : decode code 288 = .ok (.aload_n 1, 1) := by decide +kernel
theorem dW_law_289 : decode code 289 = .ok (.aload_n 0, 1) := by decide +kernel
theorem dW_law_290 : decode code 290 = .ok (.iload 4, 2) := by decide +kernel
theorem dW_law_292 : decode code 292 = .ok (.iconst 1, 1) := by decide +kernel
theorem dW_law_293 : decode code 293 = .ok (.iadd, 1) := by decide +kernel
theorem dW_law_294 : decode code 294 = .ok (.iaload, 1) := by decide +kernel
theorem dW_law_295 : decode code 295 = .ok (.invokestatic 86, 3) := by decide +kernel
theorem dW_law_298 : decode code 298 = .ok (.istore 5, 2) := by decide +kernel
theorem dW_law_300 : decode code 300 = .ok (.aload_n 2, 1) := by decide +kernel
theorem dW_law_301 : decode code 301 = .ok (.aload_n 0, 1) := by decide +kernel
theorem dW_law_302 : decode code 302 = .ok (.iload 4, 2) := by decide +kernel
theorem dW_law_304 : decode code 304 = .ok (.iconst 1, 1) := by decide +kernel
theorem dW_law_305 : decode code 305 = .ok (.iadd, 1) := by decide +kernel
theorem dW_law_306 : decode code 306 = .ok (.iaload, 1) := by decide +kernel
theorem dW_law_307 : decode code 307 = .ok (.invokevirtual 89, 3) := by decide +kernel
theorem dW_law_310 : decode code 310 = .ok (.aload_n 2, 1) := by decide +kernel
theorem dW_law_311 : decode code 311 = .ok (.invokevirtual 78, 3) := by decide +kernel
theorem dW_law_314 : decode code 314 = .ok (.iload 5, 2) := by decide +kernel
theorem dW_law_316 : decode code 316 = .ok (.if_icmp .eq 5, 3) := by decide +kernel
theorem dW_law_319 : decode code 319 = .ok (.iconst 0, 1) := by decide +kernel
theorem dW_law_320 : decode code 320 = .ok (.ireturn, 1) := by decide +kernel
theorem dW_law_321 : decode code 321 = .ok (.goto 880, 3) := by decide +kernel
theorem dW_law_324 : decode code 324 = .ok (.aload_n 1, 1) := by decide +kernel
theorem dW_law_325 : decode code 325 = .ok (.aload_n 0, 1) := by decide +kernel
theorem dW_law_326 : decode code 326 = .ok (.iload 4, 2) := by decide +kernel
theorem dW_law_328 : decode code 328 = .ok (.iconst 1, 1) := by decide +kernel
theorem dW_law_329 : decode code 329 = .ok (.iadd, 1) := by decide +kernel
theorem dW_law_330 : decode code 330 = .ok (.iaload, 1) := by decide +kernel
theorem dW_law_331 : decode code 331 = .ok (.aload_n 3, 1) := by decide +kernel
theorem dW_law_332 : decode code 332 = .ok (.invokestatic 90, 3) := by decide +kernel
theorem dW_law_335 : decode code 335 = .ok (.istore 5, 2) := by decide +kernel
theorem dW_law_337 : decode code 337 = .ok (.aload_n 2, 1) := by decide +kernel
theorem dW_law_338 : decode code 338 = .ok (.aload_n 0, 1) := by decide +kernel
theorem dW_law_339 : decode code 339 = .ok (.iload 4, 2) := by decide +kernel
theorem dW_law_341 : decode code 341 = .ok (.iconst 1, 1) := by decide +kernel
theorem dW_law_342 : decode code 342 = .ok (.iadd, 1) := by decide +kernel
theorem dW_law_343 : decode code 343 = .ok (.iaload, 1) := by decide +kernel
theorem dW_law_344 : decode code 344 = .ok (.invokevirtual 93, 3) := by decide +kernel
theorem dW_law_347 : decode code 347 = .ok (.istore 6, 2) := by decide +kernel
theorem dW_law_349 : decode code 349 = .ok (.aload_n 2, 1) := by decide +kernel
theorem dW_law_350 : decode code 350 = .ok (.invokevirtual 78, 3) := by decide +kernel
theorem dW_law_353 : decode code 353 = .ok (.iload 5, 2) := by decide +kernel
theorem dW_law_355 : decode code 355 = .ok (.if_icmp .eq 5, 3) := by decide +kernel
theorem dW_law_358 : decode code 358 = .ok (.iconst 0, 1) := by decide +kernel
theorem dW_law_359 : decode code 359 = .ok (.ireturn, 1) := by decide +kernel
theorem dW_law_360 : decode code 360 = .ok (.iload 5, 2) := by decide +kernel
theorem dW_law_362 : decode code 362 = .ok (.ifCond .ne 15, 3) := by decide +kernel
theorem dW_law_365 : decode code 365 = .ok (.aload_n 3, 1) := by decide +kernel
theorem dW_law_366 : decode code 366 = .ok (.iconst 0, 1) := by decide +kernel
theorem dW_law_367 : decode code 367 = .ok (.laload, 1) := by decide +kernel
theorem dW_law_368 : decode code 368 = .ok (.iload 6, 2) := by decide +kernel
theorem dW_law_370 : decode code 370 = .ok (.i2l, 1) := by decide +kernel
theorem dW_law_371 : decode code 371 = .ok (.lcmp, 1) := by decide +kernel
theorem dW_law_372 : decode code 372 = .ok (.ifCond .eq 5, 3) := by decide +kernel
theorem dW_law_375 : decode code 375 = .ok (.iconst 0, 1) := by decide +kernel
theorem dW_law_376 : decode code 376 = .ok (.ireturn, 1) := by decide +kernel
theorem dW_law_377 : decode code 377 = .ok (.goto 824, 3) := by decide +kernel
theorem dW_law_380 : decode code 380 = .ok (.aload_n 1, 1) := by decide +kernel
theorem dW_law_381 : decode code 381 = .ok (.aload_n 0, 1) := by decide +kernel
theorem dW_law_382 : decode code 382 = .ok (.iload 4, 2) := by decide +kernel
theorem dW_law_384 : decode code 384 = .ok (.iconst 1, 1) := by decide +kernel
theorem dW_law_385 : decode code 385 = .ok (.iadd, 1) := by decide +kernel
theorem dW_law_386 : decode code 386 = .ok (.iaload, 1) := by decide +kernel
theorem dW_law_387 : decode code 387 = .ok (.aload_n 0, 1) := by decide +kernel
theorem dW_law_388 : decode code 388 = .ok (.iload 4, 2) := by decide +kernel
theorem dW_law_390 : decode code 390 = .ok (.iconst 2, 1) := by decide +kernel
theorem dW_law_391 : decode code 391 = .ok (.iadd, 1) := by decide +kernel
theorem dW_law_392 : decode code 392 = .ok (.iaload, 1) := by decide +kernel
theorem dW_law_393 : decode code 393 = .ok (.aload_n 0, 1) := by decide +kernel
theorem dW_law_394 : decode code 394 = .ok (.iload 4, 2) := by decide +kernel
theorem dW_law_396 : decode code 396 = .ok (.iconst 3, 1) := by decide +kernel
theorem dW_law_397 : decode code 397 = .ok (.iadd, 1) := by decide +kernel
theorem dW_law_398 : decode code 398 = .ok (.iaload, 1) := by decide +kernel
theorem dW_law_399 : decode code 399 = .ok (.ifCond .eq 7, 3) := by decide +kernel
theorem dW_law_402 : decode code 402 = .ok (.iconst 1, 1) := by decide +kernel
theorem dW_law_403 : decode code 403 = .ok (.goto 4, 3) := by decide +kernel
theorem dW_law_406 : decode code 406 = .ok (.iconst 0, 1) := by decide +kernel
theorem dW_law_407 : decode code 407 = .ok (.aload_n 3, 1) := by decide +kernel
theorem dW_law_408 : decode code 408 = .ok (.invokestatic 94, 3) := by decide +kernel
theorem dW_law_411 : decode code 411 = .ok (.istore 5, 2) := by decide +kernel
theorem dW_law_413 : decode code 413 = .ok (.aload_n 2, 1) := by decide +kernel
theorem dW_law_414 : decode code 414 = .ok (.aload_n 0, 1) := by decide +kernel
theorem dW_law_415 : decode code 415 = .ok (.iload 4, 2) := by decide +kernel
theorem dW_law_417 : decode code 417 = .ok (.iconst 1, 1) := by decide +kernel
theorem dW_law_418 : decode code 418 = .ok (.iadd, 1) := by decide +kernel
theorem dW_law_419 : decode code 419 = .ok (.iaload, 1) := by decide +kernel
theorem dW_law_420 : decode code 420 = .ok (.aload_n 0, 1) := by decide +kernel
theorem dW_law_421 : decode code 421 = .ok (.iload 4, 2) := by decide +kernel
theorem dW_law_423 : decode code 423 = .ok (.iconst 2, 1) := by decide +kernel
theorem dW_law_424 : decode code 424 = .ok (.iadd, 1) := by decide +kernel
theorem dW_law_425 : decode code 425 = .ok (.iaload, 1) := by decide +kernel
theorem dW_law_426 : decode code 426 = .ok (.aload_n 0, 1) := by decide +kernel
theorem dW_law_427 : decode code 427 = .ok (.iload 4, 2) := by decide +kernel
theorem dW_law_429 : decode code 429 = .ok (.iconst 3, 1) := by decide +kernel
theorem dW_law_430 : decode code 430 = .ok (.iadd, 1) := by decide +kernel
theorem dW_law_431 : decode code 431 = .ok (.iaload, 1) := by decide +kernel
theorem dW_law_432 : decode code 432 = .ok (.ifCond .eq 7, 3) := by decide +kernel
theorem dW_law_435 : decode code 435 = .ok (.iconst 1, 1) := by decide +kernel
theorem dW_law_436 : decode code 436 = .ok (.goto 4, 3) := by decide +kernel
theorem dW_law_439 : decode code 439 = .ok (.iconst 0, 1) := by decide +kernel
theorem dW_law_440 : decode code 440 = .ok (.invokevirtual 97, 3) := by decide +kernel
theorem dW_law_443 : decode code 443 = .ok (.istore 6, 2) := by decide +kernel
theorem dW_law_445 : decode code 445 = .ok (.aload_n 2, 1) := by decide +kernel
theorem dW_law_446 : decode code 446 = .ok (.invokevirtual 78, 3) := by decide +kernel
theorem dW_law_449 : decode code 449 = .ok (.iload 5, 2) := by decide +kernel
theorem dW_law_451 : decode code 451 = .ok (.if_icmp .eq 5, 3) := by decide +kernel
theorem dW_law_454 : decode code 454 = .ok (.iconst 0, 1) := by decide +kernel
theorem dW_law_455 : decode code 455 = .ok (.ireturn, 1) := by decide +kernel
theorem dW_law_456 : decode code 456 = .ok (.iload 5, 2) := by decide +kernel
theorem dW_law_458 : decode code 458 = .ok (.ifCond .ne 22, 3) := by decide +kernel
theorem dW_law_461 : decode code 461 = .ok (.aload_n 3, 1) := by decide +kernel
theorem dW_law_462 : decode code 462 = .ok (.iconst 0, 1) := by decide +kernel
theorem dW_law_463 : decode code 463 = .ok (.laload, 1) := by decide +kernel
theorem dW_law_464 : decode code 464 = .ok (.iload 6, 2) := by decide +kernel
theorem dW_law_466 : decode code 466 = .ok (.ifCond .eq 7, 3) := by decide +kernel
theorem dW_law_469 : decode code 469 = .ok (.lconst 1, 1) := by decide +kernel
theorem dW_law_470 : decode code 470 = .ok (.goto 4, 3) := by decide +kernel
theorem dW_law_473 : decode code 473 = .ok (.lconst 0, 1) := by decide +kernel
theorem dW_law_474 : decode code 474 = .ok (.lcmp, 1) := by decide +kernel
theorem dW_law_475 : decode code 475 = .ok (.ifCond .eq 5, 3) := by decide +kernel
theorem dW_law_478 : decode code 478 = .ok (.iconst 0, 1) := by decide +kernel
theorem dW_law_479 : decode code 479 = .ok (.ireturn, 1) := by decide +kernel
theorem dW_law_480 : decode code 480 = .ok (.goto 721, 3) := by decide +kernel
theorem dW_law_483 : decode code 483 = .ok (.aload_n 1, 1) := by decide +kernel
theorem dW_law_484 : decode code 484 = .ok (.aload_n 0, 1) := by decide +kernel
theorem dW_law_485 : decode code 485 = .ok (.iload 4, 2) := by decide +kernel
theorem dW_law_487 : decode code 487 = .ok (.iconst 1, 1) := by decide +kernel
theorem dW_law_488 : decode code 488 = .ok (.iadd, 1) := by decide +kernel
theorem dW_law_489 : decode code 489 = .ok (.iaload, 1) := by decide +kernel
theorem dW_law_490 : decode code 490 = .ok (.aload_n 0, 1) := by decide +kernel
theorem dW_law_491 : decode code 491 = .ok (.iload 4, 2) := by decide +kernel
theorem dW_law_493 : decode code 493 = .ok (.iconst 2, 1) := by decide +kernel
theorem dW_law_494 : decode code 494 = .ok (.iadd, 1) := by decide +kernel
theorem dW_law_495 : decode code 495 = .ok (.iaload, 1) := by decide +kernel
theorem dW_law_496 : decode code 496 = .ok (.aload_n 0, 1) := by decide +kernel
theorem dW_law_497 : decode code 497 = .ok (.iload 4, 2) := by decide +kernel
theorem dW_law_499 : decode code 499 = .ok (.iconst 3, 1) := by decide +kernel
theorem dW_law_500 : decode code 500 = .ok (.iadd, 1) := by decide +kernel
theorem dW_law_501 : decode code 501 = .ok (.iaload, 1) := by decide +kernel
theorem dW_law_502 : decode code 502 = .ok (.i2l, 1) := by decide +kernel
theorem dW_law_503 : decode code 503 = .ok (.bipush 32, 2) := by decide +kernel
theorem dW_law_505 : decode code 505 = .ok (.lshl, 1) := by decide +kernel
theorem dW_law_506 : decode code 506 = .ok (.aload_n 0, 1) := by decide +kernel
theorem dW_law_507 : decode code 507 = .ok (.iload 4, 2) := by decide +kernel
theorem dW_law_509 : decode code 509 = .ok (.iconst 4, 1) := by decide +kernel
theorem dW_law_510 : decode code 510 = .ok (.iadd, 1) := by decide +kernel
theorem dW_law_511 : decode code 511 = .ok (.iaload, 1) := by decide +kernel
theorem dW_law_512 : decode code 512 = .ok (.i2l, 1) := by decide +kernel
theorem dW_law_513 : decode code 513 = .ok (.ldc2_w 98, 3) := by decide +kernel
theorem dW_law_516 : decode code 516 = .ok (.land, 1) := by decide +kernel
theorem dW_law_517 : decode code 517 = .ok (.lor, 1) := by decide +kernel
theorem dW_law_518 : decode code 518 = .ok (.aload_n 0, 1) := by decide +kernel
theorem dW_law_519 : decode code 519 = .ok (.iload 4, 2) := by decide +kernel
theorem dW_law_521 : decode code 521 = .ok (.iconst 5, 1) := by decide +kernel
theorem dW_law_522 : decode code 522 = .ok (.iadd, 1) := by decide +kernel
theorem dW_law_523 : decode code 523 = .ok (.iaload, 1) := by decide +kernel
theorem dW_law_524 : decode code 524 = .ok (.i2l, 1) := by decide +kernel
theorem dW_law_525 : decode code 525 = .ok (.bipush 32, 2) := by decide +kernel
theorem dW_law_527 : decode code 527 = .ok (.lshl, 1) := by decide +kernel
theorem dW_law_528 : decode code 528 = .ok (.aload_n 0, 1) := by decide +kernel
theorem dW_law_529 : decode code 529 = .ok (.iload 4, 2) := by decide +kernel
theorem dW_law_531 : decode code 531 = .ok (.bipush 6, 2) := by decide +kernel
theorem dW_law_533 : decode code 533 = .ok (.iadd, 1) := by decide +kernel
theorem dW_law_534 : decode code 534 = .ok (.iaload, 1) := by decide +kernel
theorem dW_law_535 : decode code 535 = .ok (.i2l, 1) := by decide +kernel
theorem dW_law_536 : decode code 536 = .ok (.ldc2_w 98, 3) := by decide +kernel
theorem dW_law_539 : decode code 539 = .ok (.land, 1) := by decide +kernel
theorem dW_law_540 : decode code 540 = .ok (.lor, 1) := by decide +kernel
theorem dW_law_541 : decode code 541 = .ok (.invokestatic 100, 3) := by decide +kernel
theorem dW_law_544 : decode code 544 = .ok (.istore 5, 2) := by decide +kernel
theorem dW_law_546 : decode code 546 = .ok (.aload_n 2, 1) := by decide +kernel
theorem dW_law_547 : decode code 547 = .ok (.aload_n 0, 1) := by decide +kernel
theorem dW_law_548 : decode code 548 = .ok (.iload 4, 2) := by decide +kernel
theorem dW_law_550 : decode code 550 = .ok (.iconst 1, 1) := by decide +kernel
theorem dW_law_551 : decode code 551 = .ok (.iadd, 1) := by decide +kernel
theorem dW_law_552 : decode code 552 = .ok (.iaload, 1) := by decide +kernel
theorem dW_law_553 : decode code 553 = .ok (.aload_n 0, 1) := by decide +kernel
theorem dW_law_554 : decode code 554 = .ok (.iload 4, 2) := by decide +kernel
theorem dW_law_556 : decode code 556 = .ok (.iconst 2, 1) := by decide +kernel
theorem dW_law_557 : decode code 557 = .ok (.iadd, 1) := by decide +kernel
theorem dW_law_558 : decode code 558 = .ok (.iaload, 1) := by decide +kernel
theorem dW_law_559 : decode code 559 = .ok (.aload_n 0, 1) := by decide +kernel
theorem dW_law_560 : decode code 560 = .ok (.iload 4, 2) := by decide +kernel
theorem dW_law_562 : decode code 562 = .ok (.iconst 3, 1) := by decide +kernel
theorem dW_law_563 : decode code 563 = .ok (.iadd, 1) := by decide +kernel
theorem dW_law_564 : decode code 564 = .ok (.iaload, 1) := by decide +kernel
theorem dW_law_565 : decode code 565 = .ok (.i2l, 1) := by decide +kernel
theorem dW_law_566 : decode code 566 = .ok (.bipush 32, 2) := by decide +kernel
theorem dW_law_568 : decode code 568 = .ok (.lshl, 1) := by decide +kernel
theorem dW_law_569 : decode code 569 = .ok (.aload_n 0, 1) := by decide +kernel
theorem dW_law_570 : decode code 570 = .ok (.iload 4, 2) := by decide +kernel
theorem dW_law_572 : decode code 572 = .ok (.iconst 4, 1) := by decide +kernel
theorem dW_law_573 : decode code 573 = .ok (.iadd, 1) := by decide +kernel
theorem dW_law_574 : decode code 574 = .ok (.iaload, 1) := by decide +kernel
theorem dW_law_575 : decode code 575 = .ok (.i2l, 1) := by decide +kernel
theorem dW_law_576 : decode code 576 = .ok (.ldc2_w 98, 3) := by decide +kernel
theorem dW_law_579 : decode code 579 = .ok (.land, 1) := by decide +kernel
theorem dW_law_580 : decode code 580 = .ok (.lor, 1) := by decide +kernel
theorem dW_law_581 : decode code 581 = .ok (.aload_n 0, 1) := by decide +kernel
theorem dW_law_582 : decode code 582 = .ok (.iload 4, 2) := by decide +kernel
theorem dW_law_584 : decode code 584 = .ok (.iconst 5, 1) := by decide +kernel
theorem dW_law_585 : decode code 585 = .ok (.iadd, 1) := by decide +kernel
theorem dW_law_586 : decode code 586 = .ok (.iaload, 1) := by decide +kernel
theorem dW_law_587 : decode code 587 = .ok (.i2l, 1) := by decide +kernel
theorem dW_law_588 : decode code 588 = .ok (.bipush 32, 2) := by decide +kernel
theorem dW_law_590 : decode code 590 = .ok (.lshl, 1) := by decide +kernel
theorem dW_law_591 : decode code 591 = .ok (.aload_n 0, 1) := by decide +kernel
theorem dW_law_592 : decode code 592 = .ok (.iload 4, 2) := by decide +kernel
theorem dW_law_594 : decode code 594 = .ok (.bipush 6, 2) := by decide +kernel
theorem dW_law_596 : decode code 596 = .ok (.iadd, 1) := by decide +kernel
theorem dW_law_597 : decode code 597 = .ok (.iaload, 1) := by decide +kernel
theorem dW_law_598 : decode code 598 = .ok (.i2l, 1) := by decide +kernel
theorem dW_law_599 : decode code 599 = .ok (.ldc2_w 98, 3) := by decide +kernel
theorem dW_law_602 : decode code 602 = .ok (.land, 1) := by decide +kernel
theorem dW_law_603 : decode code 603 = .ok (.lor, 1) := by decide +kernel
theorem dW_law_604 : decode code 604 = .ok (.invokevirtual 103, 3) := by decide +kernel
theorem dW_law_607 : decode code 607 = .ok (.aload_n 2, 1) := by decide +kernel
theorem dW_law_608 : decode code 608 = .ok (.invokevirtual 78, 3) := by decide +kernel
theorem dW_law_611 : decode code 611 = .ok (.iload 5, 2) := by decide +kernel
theorem dW_law_613 : decode code 613 = .ok (.if_icmp .eq 5, 3) := by decide +kernel
theorem dW_law_616 : decode code 616 = .ok (.iconst 0, 1) := by decide +kernel
theorem dW_law_617 : decode code 617 = .ok (.ireturn, 1) := by decide +kernel
theorem dW_law_618 : decode code 618 = .ok (.goto 583, 3) := by decide +kernel
theorem dW_law_621 : decode code 621 = .ok (.aload_n 1, 1) := by decide +kernel
theorem dW_law_622 : decode code 622 = .ok (.aload_n 0, 1) := by decide +kernel
theorem dW_law_623 : decode code 623 = .ok (.iload 4, 2) := by decide +kernel
theorem dW_law_625 : decode code 625 = .ok (.iconst 1, 1) := by decide +kernel
theorem dW_law_626 : decode code 626 = .ok (.iadd, 1) := by decide +kernel
theorem dW_law_627 : decode code 627 = .ok (.iaload, 1) := by decide +kernel
theorem dW_law_628 : decode code 628 = .ok (.aload_n 3, 1) := by decide +kernel
theorem dW_law_629 : decode code 629 = .ok (.invokestatic 104, 3) := by decide +kernel
theorem dW_law_632 : decode code 632 = .ok (.istore 5, 2) := by decide +kernel
theorem dW_law_634 : decode code 634 = .ok (.aload_n 2, 1) := by decide +kernel
theorem dW_law_635 : decode code 635 = .ok (.aload_n 0, 1) := by decide +kernel
theorem dW_law_636 : decode code 636 = .ok (.iload 4, 2) := by decide +kernel
theorem dW_law_638 : decode code 638 = .ok (.iconst 1, 1) := by decide +kernel
theorem dW_law_639 : decode code 639 = .ok (.iadd, 1) := by decide +kernel
theorem dW_law_640 : decode code 640 = .ok (.iaload, 1) := by decide +kernel
theorem dW_law_641 : decode code 641 = .ok (.invokevirtual 106, 3) := by decide +kernel
theorem dW_law_644 : decode code 644 = .ok (.istore 6, 2) := by decide +kernel
theorem dW_law_646 : decode code 646 = .ok (.aload_n 2, 1) := by decide +kernel
theorem dW_law_647 : decode code 647 = .ok (.invokevirtual 78, 3) := by decide +kernel
theorem dW_law_650 : decode code 650 = .ok (.iload 5, 2) := by decide +kernel
theorem dW_law_652 : decode code 652 = .ok (.if_icmp .eq 5, 3) := by decide +kernel
theorem dW_law_655 : decode code 655 = .ok (.iconst 0, 1) := by decide +kernel
theorem dW_law_656 : decode code 656 = .ok (.ireturn, 1) := by decide +kernel
theorem dW_law_657 : decode code 657 = .ok (.iload 5, 2) := by decide +kernel
theorem dW_law_659 : decode code 659 = .ok (.ifCond .ne 15, 3) := by decide +kernel
theorem dW_law_662 : decode code 662 = .ok (.aload_n 3, 1) := by decide +kernel
theorem dW_law_663 : decode code 663 = .ok (.iconst 0, 1) := by decide +kernel
theorem dW_law_664 : decode code 664 = .ok (.laload, 1) := by decide +kernel
theorem dW_law_665 : decode code 665 = .ok (.iload 6, 2) := by decide +kernel
theorem dW_law_667 : decode code 667 = .ok (.i2l, 1) := by decide +kernel
theorem dW_law_668 : decode code 668 = .ok (.lcmp, 1) := by decide +kernel
theorem dW_law_669 : decode code 669 = .ok (.ifCond .eq 5, 3) := by decide +kernel
theorem dW_law_672 : decode code 672 = .ok (.iconst 0, 1) := by decide +kernel
theorem dW_law_673 : decode code 673 = .ok (.ireturn, 1) := by decide +kernel
theorem dW_law_674 : decode code 674 = .ok (.goto 527, 3) := by decide +kernel
theorem dW_law_677 : decode code 677 = .ok (.aload_n 1, 1) := by decide +kernel
theorem dW_law_678 : decode code 678 = .ok (.aload_n 0, 1) := by decide +kernel
theorem dW_law_679 : decode code 679 = .ok (.iload 4, 2) := by decide +kernel
theorem dW_law_681 : decode code 681 = .ok (.iconst 1, 1) := by decide +kernel
theorem dW_law_682 : decode code 682 = .ok (.iadd, 1) := by decide +kernel
theorem dW_law_683 : decode code 683 = .ok (.iaload, 1) := by decide +kernel
theorem dW_law_684 : decode code 684 = .ok (.aload_n 3, 1) := by decide +kernel
theorem dW_law_685 : decode code 685 = .ok (.invokestatic 107, 3) := by decide +kernel
theorem dW_law_688 : decode code 688 = .ok (.istore 5, 2) := by decide +kernel
theorem dW_law_690 : decode code 690 = .ok (.aload_n 2, 1) := by decide +kernel
theorem dW_law_691 : decode code 691 = .ok (.aload_n 0, 1) := by decide +kernel
theorem dW_law_692 : decode code 692 = .ok (.iload 4, 2) := by decide +kernel
theorem dW_law_694 : decode code 694 = .ok (.iconst 1, 1) := by decide +kernel
theorem dW_law_695 : decode code 695 = .ok (.iadd, 1) := by decide +kernel
theorem dW_law_696 : decode code 696 = .ok (.iaload, 1) := by decide +kernel
theorem dW_law_697 : decode code 697 = .ok (.invokevirtual 109, 3) := by decide +kernel
theorem dW_law_700 : decode code 700 = .ok (.istore 6, 2) := by decide +kernel
theorem dW_law_702 : decode code 702 = .ok (.aload_n 2, 1) := by decide +kernel
theorem dW_law_703 : decode code 703 = .ok (.invokevirtual 78, 3) := by decide +kernel
theorem dW_law_706 : decode code 706 = .ok (.iload 5, 2) := by decide +kernel
theorem dW_law_708 : decode code 708 = .ok (.if_icmp .eq 5, 3) := by decide +kernel
theorem dW_law_711 : decode code 711 = .ok (.iconst 0, 1) := by decide +kernel
theorem dW_law_712 : decode code 712 = .ok (.ireturn, 1) := by decide +kernel
theorem dW_law_713 : decode code 713 = .ok (.iload 5, 2) := by decide +kernel
theorem dW_law_715 : decode code 715 = .ok (.ifCond .ne 15, 3) := by decide +kernel
theorem dW_law_718 : decode code 718 = .ok (.aload_n 3, 1) := by decide +kernel
theorem dW_law_719 : decode code 719 = .ok (.iconst 0, 1) := by decide +kernel
theorem dW_law_720 : decode code 720 = .ok (.laload, 1) := by decide +kernel
theorem dW_law_721 : decode code 721 = .ok (.iload 6, 2) := by decide +kernel
theorem dW_law_723 : decode code 723 = .ok (.i2l, 1) := by decide +kernel
theorem dW_law_724 : decode code 724 = .ok (.lcmp, 1) := by decide +kernel
theorem dW_law_725 : decode code 725 = .ok (.ifCond .eq 5, 3) := by decide +kernel
theorem dW_law_728 : decode code 728 = .ok (.iconst 0, 1) := by decide +kernel
theorem dW_law_729 : decode code 729 = .ok (.ireturn, 1) := by decide +kernel
theorem dW_law_730 : decode code 730 = .ok (.goto 471, 3) := by decide +kernel
theorem dW_law_733 : decode code 733 = .ok (.aload_n 1, 1) := by decide +kernel
theorem dW_law_734 : decode code 734 = .ok (.aload_n 0, 1) := by decide +kernel
theorem dW_law_735 : decode code 735 = .ok (.iload 4, 2) := by decide +kernel
theorem dW_law_737 : decode code 737 = .ok (.iconst 1, 1) := by decide +kernel
theorem dW_law_738 : decode code 738 = .ok (.iadd, 1) := by decide +kernel
theorem dW_law_739 : decode code 739 = .ok (.iaload, 1) := by decide +kernel
theorem dW_law_740 : decode code 740 = .ok (.aload_n 0, 1) := by decide +kernel
theorem dW_law_741 : decode code 741 = .ok (.iload 4, 2) := by decide +kernel
theorem dW_law_743 : decode code 743 = .ok (.iconst 2, 1) := by decide +kernel
theorem dW_law_744 : decode code 744 = .ok (.iadd, 1) := by decide +kernel
theorem dW_law_745 : decode code 745 = .ok (.iaload, 1) := by decide +kernel
theorem dW_law_746 : decode code 746 = .ok (.ifCond .eq 7, 3) := by decide +kernel
theorem dW_law_749 : decode code 749 = .ok (.iconst 1, 1) := by decide +kernel
theorem dW_law_750 : decode code 750 = .ok (.goto 4, 3) := by decide +kernel
theorem dW_law_753 : decode code 753 = .ok (.iconst 0, 1) := by decide +kernel
theorem dW_law_754 : decode code 754 = .ok (.aload_n 3, 1) := by decide +kernel
theorem dW_law_755 : decode code 755 = .ok (.invokestatic 110, 3) := by decide +kernel
theorem dW_law_758 : decode code 758 = .ok (.istore 5, 2) := by decide +kernel
theorem dW_law_760 : decode code 760 = .ok (.aload_n 2, 1) := by decide +kernel
theorem dW_law_761 : decode code 761 = .ok (.aload_n 0, 1) := by decide +kernel
theorem dW_law_762 : decode code 762 = .ok (.iload 4, 2) := by decide +kernel
theorem dW_law_764 : decode code 764 = .ok (.iconst 1, 1) := by decide +kernel
theorem dW_law_765 : decode code 765 = .ok (.iadd, 1) := by decide +kernel
theorem dW_law_766 : decode code 766 = .ok (.iaload, 1) := by decide +kernel
theorem dW_law_767 : decode code 767 = .ok (.aload_n 0, 1) := by decide +kernel
theorem dW_law_768 : decode code 768 = .ok (.iload 4, 2) := by decide +kernel
theorem dW_law_770 : decode code 770 = .ok (.iconst 2, 1) := by decide +kernel
theorem dW_law_771 : decode code 771 = .ok (.iadd, 1) := by decide +kernel
theorem dW_law_772 : decode code 772 = .ok (.iaload, 1) := by decide +kernel
theorem dW_law_773 : decode code 773 = .ok (.ifCond .eq 7, 3) := by decide +kernel
theorem dW_law_776 : decode code 776 = .ok (.iconst 1, 1) := by decide +kernel
theorem dW_law_777 : decode code 777 = .ok (.goto 4, 3) := by decide +kernel
theorem dW_law_780 : decode code 780 = .ok (.iconst 0, 1) := by decide +kernel
theorem dW_law_781 : decode code 781 = .ok (.invokevirtual 113, 3) := by decide +kernel
theorem dW_law_784 : decode code 784 = .ok (.istore 6, 2) := by decide +kernel
theorem dW_law_786 : decode code 786 = .ok (.aload_n 2, 1) := by decide +kernel
theorem dW_law_787 : decode code 787 = .ok (.invokevirtual 78, 3) := by decide +kernel
theorem dW_law_790 : decode code 790 = .ok (.iload 5, 2) := by decide +kernel
theorem dW_law_792 : decode code 792 = .ok (.if_icmp .eq 5, 3) := by decide +kernel
theorem dW_law_795 : decode code 795 = .ok (.iconst 0, 1) := by decide +kernel
theorem dW_law_796 : decode code 796 = .ok (.ireturn, 1) := by decide +kernel
theorem dW_law_797 : decode code 797 = .ok (.iload 5, 2) := by decide +kernel
theorem dW_law_799 : decode code 799 = .ok (.ifCond .ne 15, 3) := by decide +kernel
theorem dW_law_802 : decode code 802 = .ok (.aload_n 3, 1) := by decide +kernel
theorem dW_law_803 : decode code 803 = .ok (.iconst 0, 1) := by decide +kernel
theorem dW_law_804 : decode code 804 = .ok (.laload, 1) := by decide +kernel
theorem dW_law_805 : decode code 805 = .ok (.iload 6, 2) := by decide +kernel
theorem dW_law_807 : decode code 807 = .ok (.i2l, 1) := by decide +kernel
theorem dW_law_808 : decode code 808 = .ok (.lcmp, 1) := by decide +kernel
theorem dW_law_809 : decode code 809 = .ok (.ifCond .eq 5, 3) := by decide +kernel
theorem dW_law_812 : decode code 812 = .ok (.iconst 0, 1) := by decide +kernel
theorem dW_law_813 : decode code 813 = .ok (.ireturn, 1) := by decide +kernel
theorem dW_law_814 : decode code 814 = .ok (.goto 387, 3) := by decide +kernel
theorem dW_law_817 : decode code 817 = .ok (.aload_n 1, 1) := by decide +kernel
theorem dW_law_818 : decode code 818 = .ok (.aload_n 0, 1) := by decide +kernel
theorem dW_law_819 : decode code 819 = .ok (.iload 4, 2) := by decide +kernel
theorem dW_law_821 : decode code 821 = .ok (.iconst 1, 1) := by decide +kernel
theorem dW_law_822 : decode code 822 = .ok (.iadd, 1) := by decide +kernel
theorem dW_law_823 : decode code 823 = .ok (.iaload, 1) := by decide +kernel
theorem dW_law_824 : decode code 824 = .ok (.aload_n 0, 1) := by decide +kernel
theorem dW_law_825 : decode code 825 = .ok (.iload 4, 2) := by decide +kernel
theorem dW_law_827 : decode code 827 = .ok (.iconst 2, 1) := by decide +kernel
theorem dW_law_828 : decode code 828 = .ok (.iadd, 1) := by decide +kernel
theorem dW_law_829 : decode code 829 = .ok (.iaload, 1) := by decide +kernel
theorem dW_law_830 : decode code 830 = .ok (.invokevirtual 114, 3) := by decide +kernel
theorem dW_law_833 : decode code 833 = .ok (.aload_n 2, 1) := by decide +kernel
theorem dW_law_834 : decode code 834 = .ok (.aload_n 0, 1) := by decide +kernel
theorem dW_law_835 : decode code 835 = .ok (.iload 4, 2) := by decide +kernel
theorem dW_law_837 : decode code 837 = .ok (.iconst 1, 1) := by decide +kernel
theorem dW_law_838 : decode code 838 = .ok (.iadd, 1) := by decide +kernel
theorem dW_law_839 : decode code 839 = .ok (.iaload, 1) := by decide +kernel
theorem dW_law_840 : decode code 840 = .ok (.aload_n 0, 1) := by decide +kernel
theorem dW_law_841 : decode code 841 = .ok (.iload 4, 2) := by decide +kernel
theorem dW_law_843 : decode code 843 = .ok (.iconst 2, 1) := by decide +kernel
theorem dW_law_844 : decode code 844 = .ok (.iadd, 1) := by decide +kernel
theorem dW_law_845 : decode code 845 = .ok (.iaload, 1) := by decide +kernel
theorem dW_law_846 : decode code 846 = .ok (.invokevirtual 117, 3) := by decide +kernel
theorem dW_law_849 : decode code 849 = .ok (.if_icmp .eq 352, 3) := by decide +kernel
theorem dW_law_852 : decode code 852 = .ok (.iconst 0, 1) := by decide +kernel
theorem dW_law_853 : decode code 853 = .ok (.ireturn, 1) := by decide +kernel
theorem dW_law_854 : decode code 854 = .ok (.aload_n 1, 1) := by decide +kernel
theorem dW_law_855 : decode code 855 = .ok (.aload_n 0, 1) := by decide +kernel
theorem dW_law_856 : decode code 856 = .ok (.iload 4, 2) := by decide +kernel
theorem dW_law_858 : decode code 858 = .ok (.iconst 1, 1) := by decide +kernel
theorem dW_law_859 : decode code 859 = .ok (.iadd, 1) := by decide +kernel
theorem dW_law_860 : decode code 860 = .ok (.iaload, 1) := by decide +kernel
theorem dW_law_861 : decode code 861 = .ok (.aload_n 0, 1) := by decide +kernel
theorem dW_law_862 : decode code 862 = .ok (.iload 4, 2) := by decide +kernel
theorem dW_law_864 : decode code 864 = .ok (.iconst 2, 1) := by decide +kernel
theorem dW_law_865 : decode code 865 = .ok (.iadd, 1) := by decide +kernel
theorem dW_law_866 : decode code 866 = .ok (.iaload, 1) := by decide +kernel
theorem dW_law_867 : decode code 867 = .ok (.aload_n 3, 1) := by decide +kernel
theorem dW_law_868 : decode code 868 = .ok (.invokestatic 118, 3) := by decide +kernel
theorem dW_law_871 : decode code 871 = .ok (.istore 5, 2) := by decide +kernel
theorem dW_law_873 : decode code 873 = .ok (.aload_n 2, 1) := by decide +kernel
theorem dW_law_874 : decode code 874 = .ok (.aload_n 0, 1) := by decide +kernel
theorem dW_law_875 : decode code 875 = .ok (.iload 4, 2) := by decide +kernel
theorem dW_law_877 : decode code 877 = .ok (.iconst 1, 1) := by decide +kernel
theorem dW_law_878 : decode code 878 = .ok (.iadd, 1) := by decide +kernel
theorem dW_law_879 : decode code 879 = .ok (.iaload, 1) := by decide +kernel
theorem dW_law_880 : decode code 880 = .ok (.aload_n 0, 1) := by decide +kernel
theorem dW_law_881 : decode code 881 = .ok (.iload 4, 2) := by decide +kernel
theorem dW_law_883 : decode code 883 = .ok (.iconst 2, 1) := by decide +kernel
theorem dW_law_884 : decode code 884 = .ok (.iadd, 1) := by decide +kernel
theorem dW_law_885 : decode code 885 = .ok (.iaload, 1) := by decide +kernel
theorem dW_law_886 : decode code 886 = .ok (.invokevirtual 121, 3) := by decide +kernel
theorem dW_law_889 : decode code 889 = .ok (.istore 6, 2) := by decide +kernel
theorem dW_law_891 : decode code 891 = .ok (.aload_n 2, 1) := by decide +kernel
theorem dW_law_892 : decode code 892 = .ok (.invokevirtual 78, 3) := by decide +kernel
theorem dW_law_895 : decode code 895 = .ok (.iload 5, 2) := by decide +kernel
theorem dW_law_897 : decode code 897 = .ok (.if_icmp .eq 5, 3) := by decide +kernel
theorem dW_law_900 : decode code 900 = .ok (.iconst 0, 1) := by decide +kernel
theorem dW_law_901 : decode code 901 = .ok (.ireturn, 1) := by decide +kernel
theorem dW_law_902 : decode code 902 = .ok (.iload 5, 2) := by decide +kernel
theorem dW_law_904 : decode code 904 = .ok (.ifCond .ne 15, 3) := by decide +kernel
theorem dW_law_907 : decode code 907 = .ok (.aload_n 3, 1) := by decide +kernel
theorem dW_law_908 : decode code 908 = .ok (.iconst 0, 1) := by decide +kernel
theorem dW_law_909 : decode code 909 = .ok (.laload, 1) := by decide +kernel
theorem dW_law_910 : decode code 910 = .ok (.iload 6, 2) := by decide +kernel
theorem dW_law_912 : decode code 912 = .ok (.i2l, 1) := by decide +kernel
theorem dW_law_913 : decode code 913 = .ok (.lcmp, 1) := by decide +kernel
theorem dW_law_914 : decode code 914 = .ok (.ifCond .eq 5, 3) := by decide +kernel
theorem dW_law_917 : decode code 917 = .ok (.iconst 0, 1) := by decide +kernel
theorem dW_law_918 : decode code 918 = .ok (.ireturn, 1) := by decide +kernel
theorem dW_law_919 : decode code 919 = .ok (.goto 282, 3) := by decide +kernel
theorem dW_law_922 : decode code 922 = .ok (.aload_n 1, 1) := by decide +kernel
theorem dW_law_923 : decode code 923 = .ok (.aload_n 0, 1) := by decide +kernel
theorem dW_law_924 : decode code 924 = .ok (.iload 4, 2) := by decide +kernel
theorem dW_law_926 : decode code 926 = .ok (.iconst 1, 1) := by decide +kernel
theorem dW_law_927 : decode code 927 = .ok (.iadd, 1) := by decide +kernel
theorem dW_law_928 : decode code 928 = .ok (.iaload, 1) := by decide +kernel
theorem dW_law_929 : decode code 929 = .ok (.aload_n 0, 1) := by decide +kernel
theorem dW_law_930 : decode code 930 = .ok (.iload 4, 2) := by decide +kernel
theorem dW_law_932 : decode code 932 = .ok (.iconst 2, 1) := by decide +kernel
theorem dW_law_933 : decode code 933 = .ok (.iadd, 1) := by decide +kernel
theorem dW_law_934 : decode code 934 = .ok (.iaload, 1) := by decide +kernel
theorem dW_law_935 : decode code 935 = .ok (.aload_n 3, 1) := by decide +kernel
theorem dW_law_936 : decode code 936 = .ok (.invokestatic 122, 3) := by decide +kernel
theorem dW_law_939 : decode code 939 = .ok (.istore 5, 2) := by decide +kernel
theorem dW_law_941 : decode code 941 = .ok (.aload_n 2, 1) := by decide +kernel
theorem dW_law_942 : decode code 942 = .ok (.aload_n 0, 1) := by decide +kernel
theorem dW_law_943 : decode code 943 = .ok (.iload 4, 2) := by decide +kernel
theorem dW_law_945 : decode code 945 = .ok (.iconst 1, 1) := by decide +kernel
theorem dW_law_946 : decode code 946 = .ok (.iadd, 1) := by decide +kernel
theorem dW_law_947 : decode code 947 = .ok (.iaload, 1) := by decide +kernel
theorem dW_law_948 : decode code 948 = .ok (.aload_n 0, 1) := by decide +kernel
theorem dW_law_949 : decode code 949 = .ok (.iload 4, 2) := by decide +kernel
theorem dW_law_951 : decode code 951 = .ok (.iconst 2, 1) := by decide +kernel
theorem dW_law_952 : decode code 952 = .ok (.iadd, 1) := by decide +kernel
theorem dW_law_953 : decode code 953 = .ok (.iaload, 1) := by decide +kernel
theorem dW_law_954 : decode code 954 = .ok (.invokevirtual 124, 3) := by decide +kernel
theorem dW_law_957 : decode code 957 = .ok (.istore 6, 2) := by decide +kernel
theorem dW_law_959 : decode code 959 = .ok (.aload_n 2, 1) := by decide +kernel
theorem dW_law_960 : decode code 960 = .ok (.invokevirtual 78, 3) := by decide +kernel
theorem dW_law_963 : decode code 963 = .ok (.iload 5, 2) := by decide +kernel
theorem dW_law_965 : decode code 965 = .ok (.if_icmp .eq 5, 3) := by decide +kernel
theorem dW_law_968 : decode code 968 = .ok (.iconst 0, 1) := by decide +kernel
theorem dW_law_969 : decode code 969 = .ok (.ireturn, 1) := by decide +kernel
theorem dW_law_970 : decode code 970 = .ok (.iload 5, 2) := by decide +kernel
theorem dW_law_972 : decode code 972 = .ok (.ifCond .ne 15, 3) := by decide +kernel
theorem dW_law_975 : decode code 975 = .ok (.aload_n 3, 1) := by decide +kernel
theorem dW_law_976 : decode code 976 = .ok (.iconst 0, 1) := by decide +kernel
theorem dW_law_977 : decode code 977 = .ok (.laload, 1) := by decide +kernel
theorem dW_law_978 : decode code 978 = .ok (.iload 6, 2) := by decide +kernel
theorem dW_law_980 : decode code 980 = .ok (.i2l, 1) := by decide +kernel
theorem dW_law_981 : decode code 981 = .ok (.lcmp, 1) := by decide +kernel
theorem dW_law_982 : decode code 982 = .ok (.ifCond .eq 5, 3) := by decide +kernel
theorem dW_law_985 : decode code 985 = .ok (.iconst 0, 1) := by decide +kernel
theorem dW_law_986 : decode code 986 = .ok (.ireturn, 1) := by decide +kernel
theorem dW_law_987 : decode code 987 = .ok (.goto 214, 3) := by decide +kernel
theorem dW_law_990 : decode code 990 = .ok (.aload_n 1, 1) := by decide +kernel
theorem dW_law_991 : decode code 991 = .ok (.aload_n 0, 1) := by decide +kernel
theorem dW_law_992 : decode code 992 = .ok (.iload 4, 2) := by decide +kernel
theorem dW_law_994 : decode code 994 = .ok (.iconst 1, 1) := by decide +kernel
theorem dW_law_995 : decode code 995 = .ok (.iadd, 1) := by decide +kernel
theorem dW_law_996 : decode code 996 = .ok (.iaload, 1) := by decide +kernel
theorem dW_law_997 : decode code 997 = .ok (.aload_n 0, 1) := by decide +kernel
theorem dW_law_998 : decode code 998 = .ok (.iload 4, 2) := by decide +kernel
theorem dW_law_1000 : decode code 1000 = .ok (.iconst 2, 1) := by decide +kernel
theorem dW_law_1001 : decode code 1001 = .ok (.iadd, 1) := by decide +kernel
theorem dW_law_1002 : decode code 1002 = .ok (.iaload, 1) := by decide +kernel
theorem dW_law_1003 : decode code 1003 = .ok (.aload_n 3, 1) := by decide +kernel
theorem dW_law_1004 : decode code 1004 = .ok (.invokestatic 125, 3) := by decide +kernel
theorem dW_law_1007 : decode code 1007 = .ok (.istore 5, 2) := by decide +kernel
theorem dW_law_1009 : decode code 1009 = .ok (.aload_n 2, 1) := by decide +kernel
theorem dW_law_1010 : decode code 1010 = .ok (.aload_n 0, 1) := by decide +kernel
theorem dW_law_1011 : decode code 1011 = .ok (.iload 4, 2) := by decide +kernel
theorem dW_law_1013 : decode code 1013 = .ok (.iconst 1, 1) := by decide +kernel
theorem dW_law_1014 : decode code 1014 = .ok (.iadd, 1) := by decide +kernel
theorem dW_law_1015 : decode code 1015 = .ok (.iaload, 1) := by decide +kernel
theorem dW_law_1016 : decode code 1016 = .ok (.aload_n 0, 1) := by decide +kernel
theorem dW_law_1017 : decode code 1017 = .ok (.iload 4, 2) := by decide +kernel
theorem dW_law_1019 : decode code 1019 = .ok (.iconst 2, 1) := by decide +kernel
theorem dW_law_1020 : decode code 1020 = .ok (.iadd, 1) := by decide +kernel
theorem dW_law_1021 : decode code 1021 = .ok (.iaload, 1) := by decide +kernel
theorem dW_law_1022 : decode code 1022 = .ok (.invokevirtual 127, 3) := by decide +kernel
theorem dW_law_1025 : decode code 1025 = .ok (.istore 6, 2) := by decide +kernel
theorem dW_law_1027 : decode code 1027 = .ok (.aload_n 2, 1) := by decide +kernel
theorem dW_law_1028 : decode code 1028 = .ok (.invokevirtual 78, 3) := by decide +kernel
theorem dW_law_1031 : decode code 1031 = .ok (.iload 5, 2) := by decide +kernel
theorem dW_law_1033 : decode code 1033 = .ok (.if_icmp .eq 5, 3) := by decide +kernel
theorem dW_law_1036 : decode code 1036 = .ok (.iconst 0, 1) := by decide +kernel
theorem dW_law_1037 : decode code 1037 = .ok (.ireturn, 1) := by decide +kernel
theorem dW_law_1038 : decode code 1038 = .ok (.iload 5, 2) := by decide +kernel
theorem dW_law_1040 : decode code 1040 = .ok (.ifCond .ne 22, 3) := by decide +kernel
theorem dW_law_1043 : decode code 1043 = .ok (.aload_n 3, 1) := by decide +kernel
theorem dW_law_1044 : decode code 1044 = .ok (.iconst 0, 1) := by decide +kernel
theorem dW_law_1045 : decode code 1045 = .ok (.laload, 1) := by decide +kernel
theorem dW_law_1046 : decode code 1046 = .ok (.iload 6, 2) := by decide +kernel
theorem dW_law_1048 : decode code 1048 = .ok (.ifCond .eq 7, 3) := by decide +kernel
theorem dW_law_1051 : decode code 1051 = .ok (.lconst 1, 1) := by decide +kernel
theorem dW_law_1052 : decode code 1052 = .ok (.goto 4, 3) := by decide +kernel
theorem dW_law_1055 : decode code 1055 = .ok (.lconst 0, 1) := by decide +kernel
theorem dW_law_1056 : decode code 1056 = .ok (.lcmp, 1) := by decide +kernel
theorem dW_law_1057 : decode code 1057 = .ok (.ifCond .eq 5, 3) := by decide +kernel
theorem dW_law_1060 : decode code 1060 = .ok (.iconst 0, 1) := by decide +kernel
theorem dW_law_1061 : decode code 1061 = .ok (.ireturn, 1) := by decide +kernel
theorem dW_law_1062 : decode code 1062 = .ok (.goto 139, 3) := by decide +kernel
theorem dW_law_1065 : decode code 1065 = .ok (.aload_n 1, 1) := by decide +kernel
theorem dW_law_1066 : decode code 1066 = .ok (.aload_n 0, 1) := by decide +kernel
theorem dW_law_1067 : decode code 1067 = .ok (.iload 4, 2) := by decide +kernel
theorem dW_law_1069 : decode code 1069 = .ok (.iconst 1, 1) := by decide +kernel
theorem dW_law_1070 : decode code 1070 = .ok (.iadd, 1) := by decide +kernel
theorem dW_law_1071 : decode code 1071 = .ok (.iaload, 1) := by decide +kernel
theorem dW_law_1072 : decode code 1072 = .ok (.aload_n 0, 1) := by decide +kernel
theorem dW_law_1073 : decode code 1073 = .ok (.iload 4, 2) := by decide +kernel
theorem dW_law_1075 : decode code 1075 = .ok (.iconst 2, 1) := by decide +kernel
theorem dW_law_1076 : decode code 1076 = .ok (.iadd, 1) := by decide +kernel
theorem dW_law_1077 : decode code 1077 = .ok (.iaload, 1) := by decide +kernel
theorem dW_law_1078 : decode code 1078 = .ok (.aload_n 3, 1) := by decide +kernel
theorem dW_law_1079 : decode code 1079 = .ok (.invokestatic 128, 3) := by decide +kernel
theorem dW_law_1082 : decode code 1082 = .ok (.istore 5, 2) := by decide +kernel
theorem dW_law_1084 : decode code 1084 = .ok (.aload_n 2, 1) := by decide +kernel
theorem dW_law_1085 : decode code 1085 = .ok (.aload_n 0, 1) := by decide +kernel
theorem dW_law_1086 : decode code 1086 = .ok (.iload 4, 2) := by decide +kernel
theorem dW_law_1088 : decode code 1088 = .ok (.iconst 1, 1) := by decide +kernel
theorem dW_law_1089 : decode code 1089 = .ok (.iadd, 1) := by decide +kernel
theorem dW_law_1090 : decode code 1090 = .ok (.iaload, 1) := by decide +kernel
theorem dW_law_1091 : decode code 1091 = .ok (.aload_n 0, 1) := by decide +kernel
theorem dW_law_1092 : decode code 1092 = .ok (.iload 4, 2) := by decide +kernel
theorem dW_law_1094 : decode code 1094 = .ok (.iconst 2, 1) := by decide +kernel
theorem dW_law_1095 : decode code 1095 = .ok (.iadd, 1) := by decide +kernel
theorem dW_law_1096 : decode code 1096 = .ok (.iaload, 1) := by decide +kernel
theorem dW_law_1097 : decode code 1097 = .ok (.invokevirtual 130, 3) := by decide +kernel
theorem dW_law_1100 : decode code 1100 = .ok (.istore 6, 2) := by decide +kernel
theorem dW_law_1102 : decode code 1102 = .ok (.aload_n 2, 1) := by decide +kernel
theorem dW_law_1103 : decode code 1103 = .ok (.invokevirtual 78, 3) := by decide +kernel
theorem dW_law_1106 : decode code 1106 = .ok (.iload 5, 2) := by decide +kernel
theorem dW_law_1108 : decode code 1108 = .ok (.if_icmp .eq 5, 3) := by decide +kernel
theorem dW_law_1111 : decode code 1111 = .ok (.iconst 0, 1) := by decide +kernel
theorem dW_law_1112 : decode code 1112 = .ok (.ireturn, 1) := by decide +kernel
theorem dW_law_1113 : decode code 1113 = .ok (.iload 5, 2) := by decide +kernel
theorem dW_law_1115 : decode code 1115 = .ok (.ifCond .ne 15, 3) := by decide +kernel
theorem dW_law_1118 : decode code 1118 = .ok (.aload_n 3, 1) := by decide +kernel
theorem dW_law_1119 : decode code 1119 = .ok (.iconst 0, 1) := by decide +kernel
theorem dW_law_1120 : decode code 1120 = .ok (.laload, 1) := by decide +kernel
theorem dW_law_1121 : decode code 1121 = .ok (.iload 6, 2) := by decide +kernel
theorem dW_law_1123 : decode code 1123 = .ok (.i2l, 1) := by decide +kernel
theorem dW_law_1124 : decode code 1124 = .ok (.lcmp, 1) := by decide +kernel
theorem dW_law_1125 : decode code 1125 = .ok (.ifCond .eq 5, 3) := by decide +kernel
theorem dW_law_1128 : decode code 1128 = .ok (.iconst 0, 1) := by decide +kernel
theorem dW_law_1129 : decode code 1129 = .ok (.ireturn, 1) := by decide +kernel
theorem dW_law_1130 : decode code 1130 = .ok (.goto 71, 3) := by decide +kernel
theorem dW_law_1133 : decode code 1133 = .ok (.aload_n 1, 1) := by decide +kernel
theorem dW_law_1134 : decode code 1134 = .ok (.aload_n 0, 1) := by decide +kernel
theorem dW_law_1135 : decode code 1135 = .ok (.iload 4, 2) := by decide +kernel
theorem dW_law_1137 : decode code 1137 = .ok (.iconst 1, 1) := by decide +kernel
theorem dW_law_1138 : decode code 1138 = .ok (.iadd, 1) := by decide +kernel
theorem dW_law_1139 : decode code 1139 = .ok (.iaload, 1) := by decide +kernel
theorem dW_law_1140 : decode code 1140 = .ok (.aload_n 0, 1) := by decide +kernel
theorem dW_law_1141 : decode code 1141 = .ok (.iload 4, 2) := by decide +kernel
theorem dW_law_1143 : decode code 1143 = .ok (.iconst 2, 1) := by decide +kernel
theorem dW_law_1144 : decode code 1144 = .ok (.iadd, 1) := by decide +kernel
theorem dW_law_1145 : decode code 1145 = .ok (.iaload, 1) := by decide +kernel
theorem dW_law_1146 : decode code 1146 = .ok (.aload_n 3, 1) := by decide +kernel
theorem dW_law_1147 : decode code 1147 = .ok (.invokestatic 131, 3) := by decide +kernel
theorem dW_law_1150 : decode code 1150 = .ok (.istore 5, 2) := by decide +kernel
theorem dW_law_1152 : decode code 1152 = .ok (.aload_n 2, 1) := by decide +kernel
theorem dW_law_1153 : decode code 1153 = .ok (.aload_n 0, 1) := by decide +kernel
theorem dW_law_1154 : decode code 1154 = .ok (.iload 4, 2) := by decide +kernel
theorem dW_law_1156 : decode code 1156 = .ok (.iconst 1, 1) := by decide +kernel
theorem dW_law_1157 : decode code 1157 = .ok (.iadd, 1) := by decide +kernel
theorem dW_law_1158 : decode code 1158 = .ok (.iaload, 1) := by decide +kernel
theorem dW_law_1159 : decode code 1159 = .ok (.aload_n 0, 1) := by decide +kernel
theorem dW_law_1160 : decode code 1160 = .ok (.iload 4, 2) := by decide +kernel
theorem dW_law_1162 : decode code 1162 = .ok (.iconst 2, 1) := by decide +kernel
theorem dW_law_1163 : decode code 1163 = .ok (.iadd, 1) := by decide +kernel
theorem dW_law_1164 : decode code 1164 = .ok (.iaload, 1) := by decide +kernel
theorem dW_law_1165 : decode code 1165 = .ok (.invokevirtual 133, 3) := by decide +kernel
theorem dW_law_1168 : decode code 1168 = .ok (.istore 6, 2) := by decide +kernel
theorem dW_law_1170 : decode code 1170 = .ok (.aload_n 2, 1) := by decide +kernel
theorem dW_law_1171 : decode code 1171 = .ok (.invokevirtual 78, 3) := by decide +kernel
theorem dW_law_1174 : decode code 1174 = .ok (.iload 5, 2) := by decide +kernel
theorem dW_law_1176 : decode code 1176 = .ok (.if_icmp .eq 5, 3) := by decide +kernel
theorem dW_law_1179 : decode code 1179 = .ok (.iconst 0, 1) := by decide +kernel
theorem dW_law_1180 : decode code 1180 = .ok (.ireturn, 1) := by decide +kernel
theorem dW_law_1181 : decode code 1181 = .ok (.iload 5, 2) := by decide +kernel
theorem dW_law_1183 : decode code 1183 = .ok (.ifCond .ne 15, 3) := by decide +kernel
theorem dW_law_1186 : decode code 1186 = .ok (.aload_n 3, 1) := by decide +kernel
theorem dW_law_1187 : decode code 1187 = .ok (.iconst 0, 1) := by decide +kernel
theorem dW_law_1188 : decode code 1188 = .ok (.laload, 1) := by decide +kernel
theorem dW_law_1189 : decode code 1189 = .ok (.iload 6, 2) := by decide +kernel
theorem dW_law_1191 : decode code 1191 = .ok (.i2l, 1) := by decide +kernel
theorem dW_law_1192 : decode code 1192 = .ok (.lcmp, 1) := by decide +kernel
theorem dW_law_1193 : decode code 1193 = .ok (.ifCond .eq 5, 3) := by decide +kernel
theorem dW_law_1196 : decode code 1196 = .ok (.iconst 0, 1) := by decide +kernel
theorem dW_law_1197 : decode code 1197 = .ok (.ireturn, 1) := by decide +kernel
theorem dW_law_1198 : decode code 1198 = .ok (.goto 3, 3) := by decide +kernel
theorem dW_law_1201 : decode code 1201 = .ok (.iinc 4 7, 3) := by decide +kernel
theorem dW_law_1204 : decode code 1204 = .ok (.goto (-1181), 3) := by decide +kernel
theorem dW_law_1207 : decode code 1207 = .ok (.iconst 1, 1) := by decide +kernel
theorem dW_law_1208 : decode code 1208 = .ok (.ireturn, 1) := by decide +kernel
