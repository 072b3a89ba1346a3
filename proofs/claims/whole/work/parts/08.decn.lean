/-! each instruction, decoded: printed by program -/
theorem dA_init_0 : decode prog_2_method_1_code 0 = .ok (.aload_n 0, 1) := by decide +kernel
theorem dA_init_1 : decode prog_2_method_1_code 1 = .ok (.invokespecial 3, 3) := by decide +kernel
theorem dA_init_4 : decode prog_2_method_1_code 4 = .ok (.aload_n 0, 1) := by decide +kernel
theorem dA_init_5 : decode prog_2_method_1_code 5 = .ok (.bipush 8, 2) := by decide +kernel
theorem dA_init_7 : decode prog_2_method_1_code 7 = .ok (.anewarray 9, 3) := by decide +kernel
theorem dA_init_10 : decode prog_2_method_1_code 10 = .ok (.putfield 11, 3) := by decide +kernel
theorem dA_init_13 : decode prog_2_method_1_code 13 = .ok (.aload_n 0, 1) := by decide +kernel
theorem dA_init_14 : decode prog_2_method_1_code 14 = .ok (.iconst 4, 1) := by decide +kernel
theorem dA_init_15 : decode prog_2_method_1_code 15 = .ok (.anewarray 17, 3) := by decide +kernel
theorem dA_init_18 : decode prog_2_method_1_code 18 = .ok (.putfield 19, 3) := by decide +kernel
theorem dA_init_21 : decode prog_2_method_1_code 21 = .ok (.return_, 1) := by decide +kernel
theorem dA_fileOf_0 : decode prog_2_method_2_code 0 = .ok (.aload_n 0, 1) := by decide +kernel
theorem dA_fileOf_1 : decode prog_2_method_2_code 1 = .ok (.iload_n 1, 1) := by decide +kernel
theorem dA_fileOf_2 : decode prog_2_method_2_code 2 = .ok (.invokevirtual 23, 3) := by decide +kernel
theorem dA_fileOf_5 : decode prog_2_method_2_code 5 = .ok (.istore_n 2, 1) := by decide +kernel
theorem dA_fileOf_6 : decode prog_2_method_2_code 6 = .ok (.iload_n 2, 1) := by decide +kernel
theorem dA_fileOf_7 : decode prog_2_method_2_code 7 = .ok (.aload_n 0, 1) := by decide +kernel
theorem dA_fileOf_8 : decode prog_2_method_2_code 8 = .ok (.getfield 27, 3) := by decide +kernel
theorem dA_fileOf_11 : decode prog_2_method_2_code 11 = .ok (.if_icmp .ge 12, 3) := by decide +kernel
theorem dA_fileOf_14 : decode prog_2_method_2_code 14 = .ok (.aload_n 0, 1) := by decide +kernel
theorem dA_fileOf_15 : decode prog_2_method_2_code 15 = .ok (.getfield 11, 3) := by decide +kernel
theorem dA_fileOf_18 : decode prog_2_method_2_code 18 = .ok (.iload_n 2, 1) := by decide +kernel
theorem dA_fileOf_19 : decode prog_2_method_2_code 19 = .ok (.aaload, 1) := by decide +kernel
theorem dA_fileOf_20 : decode prog_2_method_2_code 20 = .ok (.goto 4, 3) := by decide +kernel
theorem dA_fileOf_23 : decode prog_2_method_2_code 23 = .ok (.aconst_null, 1) := by decide +kernel
theorem dA_fileOf_24 : decode prog_2_method_2_code 24 = .ok (.areturn, 1) := by decide +kernel
theorem dA_descriptorOf_0 : decode prog_2_method_3_code 0 = .ok (.aload_n 0, 1) := by decide +kernel
theorem dA_descriptorOf_1 : decode prog_2_method_3_code 1 = .ok (.iload_n 1, 1) := by decide +kernel
theorem dA_descriptorOf_2 : decode prog_2_method_3_code 2 = .ok (.invokevirtual 31, 3) := by decide +kernel
theorem dA_descriptorOf_5 : decode prog_2_method_3_code 5 = .ok (.istore_n 2, 1) := by decide +kernel
theorem dA_descriptorOf_6 : decode prog_2_method_3_code 6 = .ok (.iload_n 2, 1) := by decide +kernel
theorem dA_descriptorOf_7 : decode prog_2_method_3_code 7 = .ok (.aload_n 0, 1) := by decide +kernel
theorem dA_descriptorOf_8 : decode prog_2_method_3_code 8 = .ok (.getfield 34, 3) := by decide +kernel
theorem dA_descriptorOf_11 : decode prog_2_method_3_code 11 = .ok (.if_icmp .ge 12, 3) := by decide +kernel
theorem dA_descriptorOf_14 : decode prog_2_method_3_code 14 = .ok (.aload_n 0, 1) := by decide +kernel
theorem dA_descriptorOf_15 : decode prog_2_method_3_code 15 = .ok (.getfield 19, 3) := by decide +kernel
theorem dA_descriptorOf_18 : decode prog_2_method_3_code 18 = .ok (.iload_n 2, 1) := by decide +kernel
theorem dA_descriptorOf_19 : decode prog_2_method_3_code 19 = .ok (.aaload, 1) := by decide +kernel
theorem dA_descriptorOf_20 : decode prog_2_method_3_code 20 = .ok (.goto 4, 3) := by decide +kernel
theorem dA_descriptorOf_23 : decode prog_2_method_3_code 23 = .ok (.aconst_null, 1) := by decide +kernel
theorem dA_descriptorOf_24 : decode prog_2_method_3_code 24 = .ok (.areturn, 1) := by decide +kernel
theorem dA_putFile_0 : decode prog_2_method_4_code 0 = .ok (.aload_n 0, 1) := by decide +kernel
theorem dA_putFile_1 : decode prog_2_method_4_code 1 = .ok (.aload_n 1, 1) := by decide +kernel
theorem dA_putFile_2 : decode prog_2_method_4_code 2 = .ok (.getfield 37, 3) := by decide +kernel
theorem dA_putFile_5 : decode prog_2_method_4_code 5 = .ok (.invokevirtual 23, 3) := by decide +kernel
theorem dA_putFile_8 : decode prog_2_method_4_code 8 = .ok (.istore_n 2, 1) := by decide +kernel
theorem dA_putFile_9 : decode prog_2_method_4_code 9 = .ok (.iload_n 2, 1) := by decide +kernel
theorem dA_putFile_10 : decode prog_2_method_4_code 10 = .ok (.bipush 8, 2) := by decide +kernel
theorem dA_putFile_12 : decode prog_2_method_4_code 12 = .ok (.if_icmp .lt 5, 3) := by decide +kernel
theorem dA_putFile_15 : decode prog_2_method_4_code 15 = .ok (.iconst 0, 1) := by decide +kernel
theorem dA_putFile_16 : decode prog_2_method_4_code 16 = .ok (.ireturn, 1) := by decide +kernel
theorem dA_putFile_17 : decode prog_2_method_4_code 17 = .ok (.aload_n 0, 1) := by decide +kernel
theorem dA_putFile_18 : decode prog_2_method_4_code 18 = .ok (.getfield 11, 3) := by decide +kernel
theorem dA_putFile_21 : decode prog_2_method_4_code 21 = .ok (.iload_n 2, 1) := by decide +kernel
theorem dA_putFile_22 : decode prog_2_method_4_code 22 = .ok (.aload_n 1, 1) := by decide +kernel
theorem dA_putFile_23 : decode prog_2_method_4_code 23 = .ok (.aastore, 1) := by decide +kernel
theorem dA_putFile_24 : decode prog_2_method_4_code 24 = .ok (.aload_n 0, 1) := by decide +kernel
theorem dA_putFile_25 : decode prog_2_method_4_code 25 = .ok (.aload_n 0, 1) := by decide +kernel
theorem dA_putFile_26 : decode prog_2_method_4_code 26 = .ok (.getfield 27, 3) := by decide +kernel
theorem dA_putFile_29 : decode prog_2_method_4_code 29 = .ok (.iload_n 2, 1) := by decide +kernel
theorem dA_putFile_30 : decode prog_2_method_4_code 30 = .ok (.iconst 1, 1) := by decide +kernel
theorem dA_putFile_31 : decode prog_2_method_4_code 31 = .ok (.iadd, 1) := by decide +kernel
theorem dA_putFile_32 : decode prog_2_method_4_code 32 = .ok (.invokestatic 40, 3) := by decide +kernel
theorem dA_putFile_35 : decode prog_2_method_4_code 35 = .ok (.putfield 27, 3) := by decide +kernel
theorem dA_putFile_38 : decode prog_2_method_4_code 38 = .ok (.iconst 1, 1) := by decide +kernel
theorem dA_putFile_39 : decode prog_2_method_4_code 39 = .ok (.ireturn, 1) := by decide +kernel
theorem dA_putDescriptor_0 : decode prog_2_method_5_code 0 = .ok (.aload_n 0, 1) := by decide +kernel
theorem dA_putDescriptor_1 : decode prog_2_method_5_code 1 = .ok (.aload_n 1, 1) := by decide +kernel
theorem dA_putDescriptor_2 : decode prog_2_method_5_code 2 = .ok (.getfield 46, 3) := by decide +kernel
theorem dA_putDescriptor_5 : decode prog_2_method_5_code 5 = .ok (.invokevirtual 31, 3) := by decide +kernel
theorem dA_putDescriptor_8 : decode prog_2_method_5_code 8 = .ok (.istore_n 2, 1) := by decide +kernel
theorem dA_putDescriptor_9 : decode prog_2_method_5_code 9 = .ok (.iload_n 2, 1) := by decide +kernel
theorem dA_putDescriptor_10 : decode prog_2_method_5_code 10 = .ok (.iconst 4, 1) := by decide +kernel
theorem dA_putDescriptor_11 : decode prog_2_method_5_code 11 = .ok (.if_icmp .lt 5, 3) := by decide +kernel
theorem dA_putDescriptor_14 : decode prog_2_method_5_code 14 = .ok (.iconst 0, 1) := by decide +kernel
theorem dA_putDescriptor_15 : decode prog_2_method_5_code 15 = .ok (.ireturn, 1) := by decide +kernel
theorem dA_putDescriptor_16 : decode prog_2_method_5_code 16 = .ok (.aload_n 0, 1) := by decide +kernel
theorem dA_putDescriptor_17 : decode prog_2_method_5_code 17 = .ok (.getfield 19, 3) := by decide +kernel
theorem dA_putDescriptor_20 : decode prog_2_method_5_code 20 = .ok (.iload_n 2, 1) := by decide +kernel
theorem dA_putDescriptor_21 : decode prog_2_method_5_code 21 = .ok (.aload_n 1, 1) := by decide +kernel
theorem dA_putDescriptor_22 : decode prog_2_method_5_code 22 = .ok (.aastore, 1) := by decide +kernel
theorem dA_putDescriptor_23 : decode prog_2_method_5_code 23 = .ok (.aload_n 0, 1) := by decide +kernel
theorem dA_putDescriptor_24 : decode prog_2_method_5_code 24 = .ok (.aload_n 0, 1) := by decide +kernel
theorem dA_putDescriptor_25 : decode prog_2_method_5_code 25 = .ok (.getfield 34, 3) := by decide +kernel
theorem dA_putDescriptor_28 : decode prog_2_method_5_code 28 = .ok (.iload_n 2, 1) := by decide +kernel
theorem dA_putDescriptor_29 : decode prog_2_method_5_code 29 = .ok (.iconst 1, 1) := by decide +kernel
theorem dA_putDescriptor_30 : decode prog_2_method_5_code 30 = .ok (.iadd, 1) := by decide +kernel
theorem dA_putDescriptor_31 : decode prog_2_method_5_code 31 = .ok (.invokestatic 40, 3) := by decide +kernel
theorem dA_putDescriptor_34 : decode prog_2_method_5_code 34 = .ok (.putfield 34, 3) := by decide +kernel
theorem dA_putDescriptor_37 : decode prog_2_method_5_code 37 = .ok (.iconst 1, 1) := by decide +kernel
theorem dA_putDescriptor_38 : decode prog_2_method_5_code 38 = .ok (.ireturn, 1) := by decide +kernel
theorem dA_placeOfFile_0 : decode prog_2_method_6_code 0 = .ok (.iconst 0, 1) := by decide +kernel
theorem dA_placeOfFile_1 : decode prog_2_method_6_code 1 = .ok (.istore_n 2, 1) := by decide +kernel
theorem dA_placeOfFile_2 : decode prog_2_method_6_code 2 = .ok (.iload_n 2, 1) := by decide +kernel
theorem dA_placeOfFile_3 : decode prog_2_method_6_code 3 = .ok (.aload_n 0, 1) := by decide +kernel
theorem dA_placeOfFile_4 : decode prog_2_method_6_code 4 = .ok (.getfield 27, 3) := by decide +kernel
theorem dA_placeOfFile_7 : decode prog_2_method_6_code 7 = .ok (.if_icmp .ge 22, 3) := by decide +kernel
theorem dA_placeOfFile_10 : decode prog_2_method_6_code 10 = .ok (.aload_n 0, 1) := by decide +kernel
theorem dA_placeOfFile_11 : decode prog_2_method_6_code 11 = .ok (.getfield 11, 3) := by decide +kernel
theorem dA_placeOfFile_14 : decode prog_2_method_6_code 14 = .ok (.iload_n 2, 1) := by decide +kernel
theorem dA_placeOfFile_15 : decode prog_2_method_6_code 15 = .ok (.aaload, 1) := by decide +kernel
theorem dA_placeOfFile_16 : decode prog_2_method_6_code 16 = .ok (.getfield 37, 3) := by decide +kernel
theorem dA_placeOfFile_19 : decode prog_2_method_6_code 19 = .ok (.iload_n 1, 1) := by decide +kernel
theorem dA_placeOfFile_20 : decode prog_2_method_6_code 20 = .ok (.if_icmp .eq 9, 3) := by decide +kernel
theorem dA_placeOfFile_23 : decode prog_2_method_6_code 23 = .ok (.iinc 2 1, 3) := by decide +kernel
theorem dA_placeOfFile_26 : decode prog_2_method_6_code 26 = .ok (.goto (-24), 3) := by decide +kernel
theorem dA_placeOfFile_29 : decode prog_2_method_6_code 29 = .ok (.iload_n 2, 1) := by decide +kernel
theorem dA_placeOfFile_30 : decode prog_2_method_6_code 30 = .ok (.ireturn, 1) := by decide +kernel
theorem dA_placeOfDescriptor_0 : decode prog_2_method_7_code 0 = .ok (.iconst 0, 1) := by decide +kernel
theorem dA_placeOfDescriptor_1 : decode prog_2_method_7_code 1 = .ok (.istore_n 2, 1) := by decide +kernel
theorem dA_placeOfDescriptor_2 : decode prog_2_method_7_code 2 = .ok (.iload_n 2, 1) := by decide +kernel
theorem dA_placeOfDescriptor_3 : decode prog_2_method_7_code 3 = .ok (.aload_n 0, 1) := by decide +kernel
theorem dA_placeOfDescriptor_4 : decode prog_2_method_7_code 4 = .ok (.getfield 34, 3) := by decide +kernel
theorem dA_placeOfDescriptor_7 : decode prog_2_method_7_code 7 = .ok (.if_icmp .ge 22, 3) := by decide +kernel
theorem dA_placeOfDescriptor_10 : decode prog_2_method_7_code 10 = .ok (.aload_n 0, 1) := by decide +kernel
theorem dA_placeOfDescriptor_11 : decode prog_2_method_7_code 11 = .ok (.getfield 19, 3) := by decide +kernel
theorem dA_placeOfDescriptor_14 : decode prog_2_method_7_code 14 = .ok (.iload_n 2, 1) := by decide +kernel
theorem dA_placeOfDescriptor_15 : decode prog_2_method_7_code 15 = .ok (.aaload, 1) := by decide +kernel
theorem dA_placeOfDescriptor_16 : decode prog_2_method_7_code 16 = .ok (.getfield 46, 3) := by decide +kernel
theorem dA_placeOfDescriptor_19 : decode prog_2_method_7_code 19 = .ok (.iload_n 1, 1) := by decide +kernel
theorem dA_placeOfDescriptor_20 : decode prog_2_method_7_code 20 = .ok (.if_icmp .eq 9, 3) := by decide +kernel
theorem dA_placeOfDescriptor_23 : decode prog_2_method_7_code 23 = .ok (.iinc 2 1, 3) := by decide +kernel
theorem dA_placeOfDescriptor_26 : decode prog_2_method_7_code 26 = .ok (.goto (-24), 3) := by decide +kernel
theorem dA_placeOfDescriptor_29 : decode prog_2_method_7_code 29 = .ok (.iload_n 2, 1) := by decide +kernel
theorem dA_placeOfDescriptor_30 : decode prog_2_method_7_code 30 = .ok (.ireturn, 1) := by decide +kernel
theorem dA_copy_0 : decode prog_2_method_8_code 0 = .ok (.new 12, 3) := by decide +kernel
theorem dA_copy_3 : decode prog_2_method_8_code 3 = .ok (.dup, 1) := by decide +kernel
theorem dA_copy_4 : decode prog_2_method_8_code 4 = .ok (.invokespecial 49, 3) := by decide +kernel
theorem dA_copy_7 : decode prog_2_method_8_code 7 = .ok (.astore_n 1, 1) := by decide +kernel
theorem dA_copy_8 : decode prog_2_method_8_code 8 = .ok (.iconst 0, 1) := by decide +kernel
theorem dA_copy_9 : decode prog_2_method_8_code 9 = .ok (.istore_n 2, 1) := by decide +kernel
theorem dA_copy_10 : decode prog_2_method_8_code 10 = .ok (.iload_n 2, 1) := by decide +kernel
theorem dA_copy_11 : decode prog_2_method_8_code 11 = .ok (.aload_n 0, 1) := by decide +kernel
theorem dA_copy_12 : decode prog_2_method_8_code 12 = .ok (.getfield 27, 3) := by decide +kernel
theorem dA_copy_15 : decode prog_2_method_8_code 15 = .ok (.if_icmp .ge 21, 3) := by decide +kernel
theorem dA_copy_18 : decode prog_2_method_8_code 18 = .ok (.aload_n 1, 1) := by decide +kernel
theorem dA_copy_19 : decode prog_2_method_8_code 19 = .ok (.getfield 11, 3) := by decide +kernel
theorem dA_copy_22 : decode prog_2_method_8_code 22 = .ok (.iload_n 2, 1) := by decide +kernel
theorem dA_copy_23 : decode prog_2_method_8_code 23 = .ok (.aload_n 0, 1) := by decide +kernel
theorem dA_copy_24 : decode prog_2_method_8_code 24 = .ok (.getfield 11, 3) := by decide +kernel
theorem dA_copy_27 : decode prog_2_method_8_code 27 = .ok (.iload_n 2, 1) := by decide +kernel
theorem dA_copy_28 : decode prog_2_method_8_code 28 = .ok (.aaload, 1) := by decide +kernel
theorem dA_copy_29 : decode prog_2_method_8_code 29 = .ok (.aastore, 1) := by decide +kernel
theorem dA_copy_30 : decode prog_2_method_8_code 30 = .ok (.iinc 2 1, 3) := by decide +kernel
theorem dA_copy_33 : decode prog_2_method_8_code 33 = .ok (.goto (-23), 3) := by decide +kernel
theorem dA_copy_36 : decode prog_2_method_8_code 36 = .ok (.iconst 0, 1) := by decide +kernel
theorem dA_copy_37 : decode prog_2_method_8_code 37 = .ok (.istore_n 2, 1) := by decide +kernel
theorem dA_copy_38 : decode prog_2_method_8_code 38 = .ok (.iload_n 2, 1) := by decide +kernel
theorem dA_copy_39 : decode prog_2_method_8_code 39 = .ok (.aload_n 0, 1) := by decide +kernel
theorem dA_copy_40 : decode prog_2_method_8_code 40 = .ok (.getfield 34, 3) := by decide +kernel
theorem dA_copy_43 : decode prog_2_method_8_code 43 = .ok (.if_icmp .ge 21, 3) := by decide +kernel
theorem dA_copy_46 : decode prog_2_method_8_code 46 = .ok (.aload_n 1, 1) := by decide +kernel
theorem dA_copy_47 : decode prog_2_method_8_code 47 = .ok (.getfield 19, 3) := by decide +kernel
theorem dA_copy_50 : decode prog_2_method_8_code 50 = .ok (.iload_n 2, 1) := by decide +kernel
theorem dA_copy_51 : decode prog_2_method_8_code 51 = .ok (.aload_n 0, 1) := by decide +kernel
theorem dA_copy_52 : decode prog_2_method_8_code 52 = .ok (.getfield 19, 3) := by decide +kernel
theorem dA_copy_55 : decode prog_2_method_8_code 55 = .ok (.iload_n 2, 1) := by decide +kernel
theorem dA_copy_56 : decode prog_2_method_8_code 56 = .ok (.aaload, 1) := by decide +kernel
theorem dA_copy_57 : decode prog_2_method_8_code 57 = .ok (.aastore, 1) := by decide +kernel
theorem dA_copy_58 : decode prog_2_method_8_code 58 = .ok (.iinc 2 1, 3) := by decide +kernel
theorem dA_copy_61 : decode prog_2_method_8_code 61 = .ok (.goto (-23), 3) := by decide +kernel
theorem dA_copy_64 : decode prog_2_method_8_code 64 = .ok (.aload_n 1, 1) := by decide +kernel
theorem dA_copy_65 : decode prog_2_method_8_code 65 = .ok (.aload_n 0, 1) := by decide +kernel
theorem dA_copy_66 : decode prog_2_method_8_code 66 = .ok (.getfield 27, 3) := by decide +kernel
theorem dA_copy_69 : decode prog_2_method_8_code 69 = .ok (.putfield 27, 3) := by decide +kernel
theorem dA_copy_72 : decode prog_2_method_8_code 72 = .ok (.aload_n 1, 1) := by decide +kernel
theorem dA_copy_73 : decode prog_2_method_8_code 73 = .ok (.aload_n 0, 1) := by decide +kernel
theorem dA_copy_74 : decode prog_2_method_8_code 74 = .ok (.getfield 34, 3) := by decide +kernel
theorem dA_copy_77 : decode prog_2_method_8_code 77 = .ok (.putfield 34, 3) := by decide +kernel
theorem dA_copy_80 : decode prog_2_method_8_code 80 = .ok (.aload_n 1, 1) := by decide +kernel
theorem dA_copy_81 : decode prog_2_method_8_code 81 = .ok (.areturn, 1) := by decide +kernel
theorem dA_isLike_0 : decode prog_2_method_9_code 0 = .ok (.aload_n 0, 1) := by decide +kernel
theorem dA_isLike_1 : decode prog_2_method_9_code 1 = .ok (.getfield 27, 3) := by decide +kernel
theorem dA_isLike_4 : decode prog_2_method_9_code 4 = .ok (.aload_n 1, 1) := by decide +kernel
theorem dA_isLike_5 : decode prog_2_method_9_code 5 = .ok (.getfield 27, 3) := by decide +kernel
theorem dA_isLike_8 : decode prog_2_method_9_code 8 = .ok (.if_icmp .ne 14, 3) := by decide +kernel
theorem dA_isLike_11 : decode prog_2_method_9_code 11 = .ok (.aload_n 0, 1) := by decide +kernel
theorem dA_isLike_12 : decode prog_2_method_9_code 12 = .ok (.getfield 34, 3) := by decide +kernel
theorem dA_isLike_15 : decode prog_2_method_9_code 15 = .ok (.aload_n 1, 1) := by decide +kernel
theorem dA_isLike_16 : decode prog_2_method_9_code 16 = .ok (.getfield 34, 3) := by decide +kernel
theorem dA_isLike_19 : decode prog_2_method_9_code 19 = .ok (.if_icmp .eq 5, 3) := by decide +kernel
theorem dA_isLike_22 : decode prog_2_method_9_code 22 = .ok (.iconst 0, 1) := by decide +kernel
theorem dA_isLike_23 : decode prog_2_method_9_code 23 = .ok (.ireturn, 1) := by decide +kernel
theorem dA_isLike_24 : decode prog_2_method_9_code 24 = .ok (.iconst 0, 1) := by decide +kernel
theorem dA_isLike_25 : decode prog_2_method_9_code 25 = .ok (.istore_n 2, 1) := by decide +kernel
theorem dA_isLike_26 : decode prog_2_method_9_code 26 = .ok (.iload_n 2, 1) := by decide +kernel
theorem dA_isLike_27 : decode prog_2_method_9_code 27 = .ok (.aload_n 0, 1) := by decide +kernel
theorem dA_isLike_28 : decode prog_2_method_9_code 28 = .ok (.getfield 27, 3) := by decide +kernel
theorem dA_isLike_31 : decode prog_2_method_9_code 31 = .ok (.if_icmp .ge 36, 3) := by decide +kernel
theorem dA_isLike_34 : decode prog_2_method_9_code 34 = .ok (.aload_n 0, 1) := by decide +kernel
theorem dA_isLike_35 : decode prog_2_method_9_code 35 = .ok (.getfield 11, 3) := by decide +kernel
theorem dA_isLike_38 : decode prog_2_method_9_code 38 = .ok (.iload_n 2, 1) := by decide +kernel
theorem dA_isLike_39 : decode prog_2_method_9_code 39 = .ok (.aaload, 1) := by decide +kernel
theorem dA_isLike_40 : decode prog_2_method_9_code 40 = .ok (.aload_n 1, 1) := by decide +kernel
theorem dA_isLike_41 : decode prog_2_method_9_code 41 = .ok (.aload_n 0, 1) := by decide +kernel
theorem dA_isLike_42 : decode prog_2_method_9_code 42 = .ok (.getfield 11, 3) := by decide +kernel
theorem dA_isLike_45 : decode prog_2_method_9_code 45 = .ok (.iload_n 2, 1) := by decide +kernel
theorem dA_isLike_46 : decode prog_2_method_9_code 46 = .ok (.aaload, 1) := by decide +kernel
theorem dA_isLike_47 : decode prog_2_method_9_code 47 = .ok (.getfield 37, 3) := by decide +kernel
theorem dA_isLike_50 : decode prog_2_method_9_code 50 = .ok (.invokevirtual 50, 3) := by decide +kernel
theorem dA_isLike_53 : decode prog_2_method_9_code 53 = .ok (.invokevirtual 54, 3) := by decide +kernel
theorem dA_isLike_56 : decode prog_2_method_9_code 56 = .ok (.ifCond .ne 5, 3) := by decide +kernel
theorem dA_isLike_59 : decode prog_2_method_9_code 59 = .ok (.iconst 0, 1) := by decide +kernel
theorem dA_isLike_60 : decode prog_2_method_9_code 60 = .ok (.ireturn, 1) := by decide +kernel
theorem dA_isLike_61 : decode prog_2_method_9_code 61 = .ok (.iinc 2 1, 3) := by decide +kernel
theorem dA_isLike_64 : decode prog_2_method_9_code 64 = .ok (.goto (-38), 3) := by decide +kernel
theorem dA_isLike_67 : decode prog_2_method_9_code 67 = .ok (.iconst 0, 1) := by decide +kernel
theorem dA_isLike_68 : decode prog_2_method_9_code 68 = .ok (.istore_n 2, 1) := by decide +kernel
theorem dA_isLike_69 : decode prog_2_method_9_code 69 = .ok (.iload_n 2, 1) := by decide +kernel
theorem dA_isLike_70 : decode prog_2_method_9_code 70 = .ok (.aload_n 0, 1) := by decide +kernel
theorem dA_isLike_71 : decode prog_2_method_9_code 71 = .ok (.getfield 34, 3) := by decide +kernel
theorem dA_isLike_74 : decode prog_2_method_9_code 74 = .ok (.if_icmp .ge 36, 3) := by decide +kernel
theorem dA_isLike_77 : decode prog_2_method_9_code 77 = .ok (.aload_n 0, 1) := by decide +kernel
theorem dA_isLike_78 : decode prog_2_method_9_code 78 = .ok (.getfield 19, 3) := by decide +kernel
theorem dA_isLike_81 : decode prog_2_method_9_code 81 = .ok (.iload_n 2, 1) := by decide +kernel
theorem dA_isLike_82 : decode prog_2_method_9_code 82 = .ok (.aaload, 1) := by decide +kernel
theorem dA_isLike_83 : decode prog_2_method_9_code 83 = .ok (.aload_n 1, 1) := by decide +kernel
theorem dA_isLike_84 : decode prog_2_method_9_code 84 = .ok (.aload_n 0, 1) := by decide +kernel
theorem dA_isLike_85 : decode prog_2_method_9_code 85 = .ok (.getfield 19, 3) := by decide +kernel
theorem dA_isLike_88 : decode prog_2_method_9_code 88 = .ok (.iload_n 2, 1) := by decide +kernel
theorem dA_isLike_89 : decode prog_2_method_9_code 89 = .ok (.aaload, 1) := by decide +kernel
theorem dA_isLike_90 : decode prog_2_method_9_code 90 = .ok (.getfield 46, 3) := by decide +kernel
theorem dA_isLike_93 : decode prog_2_method_9_code 93 = .ok (.invokevirtual 58, 3) := by decide +kernel
theorem dA_isLike_96 : decode prog_2_method_9_code 96 = .ok (.invokevirtual 62, 3) := by decide +kernel
theorem dA_isLike_99 : decode prog_2_method_9_code 99 = .ok (.ifCond .ne 5, 3) := by decide +kernel
theorem dA_isLike_102 : decode prog_2_method_9_code 102 = .ok (.iconst 0, 1) := by decide +kernel
theorem dA_isLike_103 : decode prog_2_method_9_code 103 = .ok (.ireturn, 1) := by decide +kernel
theorem dA_isLike_104 : decode prog_2_method_9_code 104 = .ok (.iinc 2 1, 3) := by decide +kernel
theorem dA_isLike_107 : decode prog_2_method_9_code 107 = .ok (.goto (-38), 3) := by decide +kernel
theorem dA_isLike_110 : decode prog_2_method_9_code 110 = .ok (.iconst 1, 1) := by decide +kernel
theorem dA_isLike_111 : decode prog_2_method_9_code 111 = .ok (.ireturn, 1) := by decide +kernel
theorem dC_init_0 : decode prog_3_method_1_code 0 = .ok (.aload_n 0, 1) := by decide +kernel
theorem dC_init_1 : decode prog_3_method_1_code 1 = .ok (.invokespecial 1, 3) := by decide +kernel
theorem dC_init_4 : decode prog_3_method_1_code 4 = .ok (.aload_n 0, 1) := by decide +kernel
theorem dC_init_5 : decode prog_3_method_1_code 5 = .ok (.iload_n 1, 1) := by decide +kernel
theorem dC_init_6 : decode prog_3_method_1_code 6 = .ok (.putfield 7, 3) := by decide +kernel
theorem dC_init_9 : decode prog_3_method_1_code 9 = .ok (.aload_n 0, 1) := by decide +kernel
theorem dC_init_10 : decode prog_3_method_1_code 10 = .ok (.iload_n 2, 1) := by decide +kernel
theorem dC_init_11 : decode prog_3_method_1_code 11 = .ok (.putfield 13, 3) := by decide +kernel
theorem dC_init_14 : decode prog_3_method_1_code 14 = .ok (.aload_n 0, 1) := by decide +kernel
theorem dC_init_15 : decode prog_3_method_1_code 15 = .ok (.iload_n 3, 1) := by decide +kernel
theorem dC_init_16 : decode prog_3_method_1_code 16 = .ok (.putfield 16, 3) := by decide +kernel
theorem dC_init_19 : decode prog_3_method_1_code 19 = .ok (.return_, 1) := by decide +kernel
theorem dC_isSame_0 : decode prog_3_method_2_code 0 = .ok (.aload_n 1, 1) := by decide +kernel
theorem dC_isSame_1 : decode prog_3_method_2_code 1 = .ok (.ifnull 40, 3) := by decide +kernel
theorem dC_isSame_4 : decode prog_3_method_2_code 4 = .ok (.aload_n 0, 1) := by decide +kernel
theorem dC_isSame_5 : decode prog_3_method_2_code 5 = .ok (.getfield 7, 3) := by decide +kernel
theorem dC_isSame_8 : decode prog_3_method_2_code 8 = .ok (.aload_n 1, 1) := by decide +kernel
theorem dC_isSame_9 : decode prog_3_method_2_code 9 = .ok (.getfield 7, 3) := by decide +kernel
theorem dC_isSame_12 : decode prog_3_method_2_code 12 = .ok (.if_icmp .ne 29, 3) := by decide +kernel
theorem dC_isSame_15 : decode prog_3_method_2_code 15 = .ok (.aload_n 0, 1) := by decide +kernel
theorem dC_isSame_16 : decode prog_3_method_2_code 16 = .ok (.getfield 13, 3) := by decide +kernel
theorem dC_isSame_19 : decode prog_3_method_2_code 19 = .ok (.aload_n 1, 1) := by decide +kernel
theorem dC_isSame_20 : decode prog_3_method_2_code 20 = .ok (.getfield 13, 3) := by decide +kernel
theorem dC_isSame_23 : decode prog_3_method_2_code 23 = .ok (.if_icmp .ne 18, 3) := by decide +kernel
theorem dC_isSame_26 : decode prog_3_method_2_code 26 = .ok (.aload_n 0, 1) := by decide +kernel
theorem dC_isSame_27 : decode prog_3_method_2_code 27 = .ok (.getfield 16, 3) := by decide +kernel
theorem dC_isSame_30 : decode prog_3_method_2_code 30 = .ok (.aload_n 1, 1) := by decide +kernel
theorem dC_isSame_31 : decode prog_3_method_2_code 31 = .ok (.getfield 16, 3) := by decide +kernel
theorem dC_isSame_34 : decode prog_3_method_2_code 34 = .ok (.if_icmp .ne 7, 3) := by decide +kernel
theorem dC_isSame_37 : decode prog_3_method_2_code 37 = .ok (.iconst 1, 1) := by decide +kernel
theorem dC_isSame_38 : decode prog_3_method_2_code 38 = .ok (.goto 4, 3) := by decide +kernel
theorem dC_isSame_41 : decode prog_3_method_2_code 41 = .ok (.iconst 0, 1) := by decide +kernel
theorem dC_isSame_42 : decode prog_3_method_2_code 42 = .ok (.ireturn, 1) := by decide +kernel
theorem dD_init_0 : decode prog_4_method_1_code 0 = .ok (.aload_n 0, 1) := by decide +kernel
theorem dD_init_1 : decode prog_4_method_1_code 1 = .ok (.invokespecial 1, 3) := by decide +kernel
theorem dD_init_4 : decode prog_4_method_1_code 4 = .ok (.aload_n 0, 1) := by decide +kernel
theorem dD_init_5 : decode prog_4_method_1_code 5 = .ok (.iload_n 1, 1) := by decide +kernel
theorem dD_init_6 : decode prog_4_method_1_code 6 = .ok (.putfield 7, 3) := by decide +kernel
theorem dD_init_9 : decode prog_4_method_1_code 9 = .ok (.aload_n 0, 1) := by decide +kernel
theorem dD_init_10 : decode prog_4_method_1_code 10 = .ok (.iload_n 2, 1) := by decide +kernel
theorem dD_init_11 : decode prog_4_method_1_code 11 = .ok (.putfield 13, 3) := by decide +kernel
theorem dD_init_14 : decode prog_4_method_1_code 14 = .ok (.return_, 1) := by decide +kernel
theorem dD_isSame_0 : decode prog_4_method_2_code 0 = .ok (.aload_n 1, 1) := by decide +kernel
theorem dD_isSame_1 : decode prog_4_method_2_code 1 = .ok (.ifnull 29, 3) := by decide +kernel
theorem dD_isSame_4 : decode prog_4_method_2_code 4 = .ok (.aload_n 0, 1) := by decide +kernel
theorem dD_isSame_5 : decode prog_4_method_2_code 5 = .ok (.getfield 7, 3) := by decide +kernel
theorem dD_isSame_8 : decode prog_4_method_2_code 8 = .ok (.aload_n 1, 1) := by decide +kernel
theorem dD_isSame_9 : decode prog_4_method_2_code 9 = .ok (.getfield 7, 3) := by decide +kernel
theorem dD_isSame_12 : decode prog_4_method_2_code 12 = .ok (.if_icmp .ne 18, 3) := by decide +kernel
theorem dD_isSame_15 : decode prog_4_method_2_code 15 = .ok (.aload_n 0, 1) := by decide +kernel
theorem dD_isSame_16 : decode prog_4_method_2_code 16 = .ok (.getfield 13, 3) := by decide +kernel
theorem dD_isSame_19 : decode prog_4_method_2_code 19 = .ok (.aload_n 1, 1) := by decide +kernel
theorem dD_isSame_20 : decode prog_4_method_2_code 20 = .ok (.getfield 13, 3) := by decide +kernel
theorem dD_isSame_23 : decode prog_4_method_2_code 23 = .ok (.if_icmp .ne 7, 3) := by decide +kernel
theorem dD_isSame_26 : decode prog_4_method_2_code 26 = .ok (.iconst 1, 1) := by decide +kernel
theorem dD_isSame_27 : decode prog_4_method_2_code 27 = .ok (.goto 4, 3) := by decide +kernel
theorem dD_isSame_30 : decode prog_4_method_2_code 30 = .ok (.iconst 0, 1) := by decide +kernel
theorem dD_isSame_31 : decode prog_4_method_2_code 31 = .ok (.ireturn, 1) := by decide +kernel
theorem dF_init_0 : decode prog_5_method_1_code 0 = .ok (.aload_n 0, 1) := by decide +kernel
theorem dF_init_1 : decode prog_5_method_1_code 1 = .ok (.invokespecial 1, 3) := by decide +kernel
theorem dF_init_4 : decode prog_5_method_1_code 4 = .ok (.aload_n 0, 1) := by decide +kernel
theorem dF_init_5 : decode prog_5_method_1_code 5 = .ok (.iload_n 1, 1) := by decide +kernel
theorem dF_init_6 : decode prog_5_method_1_code 6 = .ok (.putfield 7, 3) := by decide +kernel
theorem dF_init_9 : decode prog_5_method_1_code 9 = .ok (.aload_n 0, 1) := by decide +kernel
theorem dF_init_10 : decode prog_5_method_1_code 10 = .ok (.lload_n 2, 1) := by decide +kernel
theorem dF_init_11 : decode prog_5_method_1_code 11 = .ok (.putfield 13, 3) := by decide +kernel
theorem dF_init_14 : decode prog_5_method_1_code 14 = .ok (.aload_n 0, 1) := by decide +kernel
theorem dF_init_15 : decode prog_5_method_1_code 15 = .ok (.lload 4, 2) := by decide +kernel
theorem dF_init_17 : decode prog_5_method_1_code 17 = .ok (.putfield 17, 3) := by decide +kernel
theorem dF_init_20 : decode prog_5_method_1_code 20 = .ok (.return_, 1) := by decide +kernel
theorem dF_admits_0 : decode prog_5_method_2_code 0 = .ok (.aload_n 0, 1) := by decide +kernel
theorem dF_admits_1 : decode prog_5_method_2_code 1 = .ok (.getfield 17, 3) := by decide +kernel
theorem dF_admits_4 : decode prog_5_method_2_code 4 = .ok (.iload_n 1, 1) := by decide +kernel
theorem dF_admits_5 : decode prog_5_method_2_code 5 = .ok (.lushr, 1) := by decide +kernel
theorem dF_admits_6 : decode prog_5_method_2_code 6 = .ok (.lconst 1, 1) := by decide +kernel
theorem dF_admits_7 : decode prog_5_method_2_code 7 = .ok (.land, 1) := by decide +kernel
theorem dF_admits_8 : decode prog_5_method_2_code 8 = .ok (.lconst 0, 1) := by decide +kernel
theorem dF_admits_9 : decode prog_5_method_2_code 9 = .ok (.lcmp, 1) := by decide +kernel
theorem dF_admits_10 : decode prog_5_method_2_code 10 = .ok (.ifCond .eq 5, 3) := by decide +kernel
theorem dF_admits_13 : decode prog_5_method_2_code 13 = .ok (.iconst 0, 1) := by decide +kernel
theorem dF_admits_14 : decode prog_5_method_2_code 14 = .ok (.ireturn, 1) := by decide +kernel
theorem dF_admits_15 : decode prog_5_method_2_code 15 = .ok (.aload_n 0, 1) := by decide +kernel
theorem dF_admits_16 : decode prog_5_method_2_code 16 = .ok (.getfield 13, 3) := by decide +kernel
theorem dF_admits_19 : decode prog_5_method_2_code 19 = .ok (.iload_n 1, 1) := by decide +kernel
theorem dF_admits_20 : decode prog_5_method_2_code 20 = .ok (.lushr, 1) := by decide +kernel
theorem dF_admits_21 : decode prog_5_method_2_code 21 = .ok (.lconst 1, 1) := by decide +kernel
theorem dF_admits_22 : decode prog_5_method_2_code 22 = .ok (.land, 1) := by decide +kernel
theorem dF_admits_23 : decode prog_5_method_2_code 23 = .ok (.lconst 0, 1) := by decide +kernel
theorem dF_admits_24 : decode prog_5_method_2_code 24 = .ok (.lcmp, 1) := by decide +kernel
theorem dF_admits_25 : decode prog_5_method_2_code 25 = .ok (.ifCond .ne 16, 3) := by decide +kernel
theorem dF_admits_28 : decode prog_5_method_2_code 28 = .ok (.aload_n 0, 1) := by decide +kernel
theorem dF_admits_29 : decode prog_5_method_2_code 29 = .ok (.getfield 7, 3) := by decide +kernel
theorem dF_admits_32 : decode prog_5_method_2_code 32 = .ok (.iload_n 1, 1) := by decide +kernel
theorem dF_admits_33 : decode prog_5_method_2_code 33 = .ok (.iconst 3, 1) := by decide +kernel
theorem dF_admits_34 : decode prog_5_method_2_code 34 = .ok (.ishr, 1) := by decide +kernel
theorem dF_admits_35 : decode prog_5_method_2_code 35 = .ok (.iushr, 1) := by decide +kernel
theorem dF_admits_36 : decode prog_5_method_2_code 36 = .ok (.iconst 1, 1) := by decide +kernel
theorem dF_admits_37 : decode prog_5_method_2_code 37 = .ok (.iand, 1) := by decide +kernel
theorem dF_admits_38 : decode prog_5_method_2_code 38 = .ok (.ifCond .eq 7, 3) := by decide +kernel
theorem dF_admits_41 : decode prog_5_method_2_code 41 = .ok (.iconst 1, 1) := by decide +kernel
theorem dF_admits_42 : decode prog_5_method_2_code 42 = .ok (.goto 4, 3) := by decide +kernel
theorem dF_admits_45 : decode prog_5_method_2_code 45 = .ok (.iconst 0, 1) := by decide +kernel
theorem dF_admits_46 : decode prog_5_method_2_code 46 = .ok (.ireturn, 1) := by decide +kernel
theorem dF_isSame_0 : decode prog_5_method_3_code 0 = .ok (.aload_n 1, 1) := by decide +kernel
theorem dF_isSame_1 : decode prog_5_method_3_code 1 = .ok (.ifnull 42, 3) := by decide +kernel
theorem dF_isSame_4 : decode prog_5_method_3_code 4 = .ok (.aload_n 0, 1) := by decide +kernel
theorem dF_isSame_5 : decode prog_5_method_3_code 5 = .ok (.getfield 7, 3) := by decide +kernel
theorem dF_isSame_8 : decode prog_5_method_3_code 8 = .ok (.aload_n 1, 1) := by decide +kernel
theorem dF_isSame_9 : decode prog_5_method_3_code 9 = .ok (.getfield 7, 3) := by decide +kernel
theorem dF_isSame_12 : decode prog_5_method_3_code 12 = .ok (.if_icmp .ne 31, 3) := by decide +kernel
theorem dF_isSame_15 : decode prog_5_method_3_code 15 = .ok (.aload_n 0, 1) := by decide +kernel
theorem dF_isSame_16 : decode prog_5_method_3_code 16 = .ok (.getfield 13, 3) := by decide +kernel
theorem dF_isSame_19 : decode prog_5_method_3_code 19 = .ok (.aload_n 1, 1) := by decide +kernel
theorem dF_isSame_20 : decode prog_5_method_3_code 20 = .ok (.getfield 13, 3) := by decide +kernel
theorem dF_isSame_23 : decode prog_5_method_3_code 23 = .ok (.lcmp, 1) := by decide +kernel
theorem dF_isSame_24 : decode prog_5_method_3_code 24 = .ok (.ifCond .ne 19, 3) := by decide +kernel
theorem dF_isSame_27 : decode prog_5_method_3_code 27 = .ok (.aload_n 0, 1) := by decide +kernel
theorem dF_isSame_28 : decode prog_5_method_3_code 28 = .ok (.getfield 17, 3) := by decide +kernel
theorem dF_isSame_31 : decode prog_5_method_3_code 31 = .ok (.aload_n 1, 1) := by decide +kernel
theorem dF_isSame_32 : decode prog_5_method_3_code 32 = .ok (.getfield 17, 3) := by decide +kernel
theorem dF_isSame_35 : decode prog_5_method_3_code 35 = .ok (.lcmp, 1) := by decide +kernel
theorem dF_isSame_36 : decode prog_5_method_3_code 36 = .ok (.ifCond .ne 7, 3) := by decide +kernel
theorem dF_isSame_39 : decode prog_5_method_3_code 39 = .ok (.iconst 1, 1) := by decide +kernel
theorem dF_isSame_40 : decode prog_5_method_3_code 40 = .ok (.goto 4, 3) := by decide +kernel
theorem dF_isSame_43 : decode prog_5_method_3_code 43 = .ok (.iconst 0, 1) := by decide +kernel
theorem dF_isSame_44 : decode prog_5_method_3_code 44 = .ok (.ireturn, 1) := by decide +kernel
theorem dL_init_0 : decode prog_6_method_1_code 0 = .ok (.aload_n 0, 1) := by decide +kernel
theorem dL_init_1 : decode prog_6_method_1_code 1 = .ok (.invokespecial 1, 3) := by decide +kernel
theorem dL_init_4 : decode prog_6_method_1_code 4 = .ok (.aload_n 0, 1) := by decide +kernel
theorem dL_init_5 : decode prog_6_method_1_code 5 = .ok (.iload_n 1, 1) := by decide +kernel
theorem dL_init_6 : decode prog_6_method_1_code 6 = .ok (.putfield 7, 3) := by decide +kernel
theorem dL_init_9 : decode prog_6_method_1_code 9 = .ok (.aload_n 0, 1) := by decide +kernel
theorem dL_init_10 : decode prog_6_method_1_code 10 = .ok (.iload_n 2, 1) := by decide +kernel
theorem dL_init_11 : decode prog_6_method_1_code 11 = .ok (.putfield 13, 3) := by decide +kernel
theorem dL_init_14 : decode prog_6_method_1_code 14 = .ok (.aload_n 0, 1) := by decide +kernel
theorem dL_init_15 : decode prog_6_method_1_code 15 = .ok (.aload_n 3, 1) := by decide +kernel
theorem dL_init_16 : decode prog_6_method_1_code 16 = .ok (.putfield 16, 3) := by decide +kernel
theorem dL_init_19 : decode prog_6_method_1_code 19 = .ok (.aload_n 0, 1) := by decide +kernel
theorem dL_init_20 : decode prog_6_method_1_code 20 = .ok (.aload 4, 2) := by decide +kernel
theorem dL_init_22 : decode prog_6_method_1_code 22 = .ok (.putfield 20, 3) := by decide +kernel
theorem dL_init_25 : decode prog_6_method_1_code 25 = .ok (.aload_n 0, 1) := by decide +kernel
theorem dL_init_26 : decode prog_6_method_1_code 26 = .ok (.aload 5, 2) := by decide +kernel
theorem dL_init_28 : decode prog_6_method_1_code 28 = .ok (.putfield 24, 3) := by decide +kernel
theorem dL_init_31 : decode prog_6_method_1_code 31 = .ok (.return_, 1) := by decide +kernel
theorem dL_fileOf_0 : decode prog_6_method_2_code 0 = .ok (.iconst 0, 1) := by decide +kernel
theorem dL_fileOf_1 : decode prog_6_method_2_code 1 = .ok (.istore_n 2, 1) := by decide +kernel
theorem dL_fileOf_2 : decode prog_6_method_2_code 2 = .ok (.iload_n 2, 1) := by decide +kernel
theorem dL_fileOf_3 : decode prog_6_method_2_code 3 = .ok (.aload_n 0, 1) := by decide +kernel
theorem dL_fileOf_4 : decode prog_6_method_2_code 4 = .ok (.getfield 20, 3) := by decide +kernel
theorem dL_fileOf_7 : decode prog_6_method_2_code 7 = .ok (.arraylength, 1) := by decide +kernel
theorem dL_fileOf_8 : decode prog_6_method_2_code 8 = .ok (.if_icmp .ge 26, 3) := by decide +kernel
theorem dL_fileOf_11 : decode prog_6_method_2_code 11 = .ok (.aload_n 0, 1) := by decide +kernel
theorem dL_fileOf_12 : decode prog_6_method_2_code 12 = .ok (.getfield 20, 3) := by decide +kernel
theorem dL_fileOf_15 : decode prog_6_method_2_code 15 = .ok (.iload_n 2, 1) := by decide +kernel
theorem dL_fileOf_16 : decode prog_6_method_2_code 16 = .ok (.aaload, 1) := by decide +kernel
theorem dL_fileOf_17 : decode prog_6_method_2_code 17 = .ok (.iload_n 1, 1) := by decide +kernel
theorem dL_fileOf_18 : decode prog_6_method_2_code 18 = .ok (.invokevirtual 28, 3) := by decide +kernel
theorem dL_fileOf_21 : decode prog_6_method_2_code 21 = .ok (.astore_n 3, 1) := by decide +kernel
theorem dL_fileOf_22 : decode prog_6_method_2_code 22 = .ok (.aload_n 3, 1) := by decide +kernel
theorem dL_fileOf_23 : decode prog_6_method_2_code 23 = .ok (.ifnull 5, 3) := by decide +kernel
theorem dL_fileOf_26 : decode prog_6_method_2_code 26 = .ok (.aload_n 3, 1) := by decide +kernel
theorem dL_fileOf_27 : decode prog_6_method_2_code 27 = .ok (.areturn, 1) := by decide +kernel
theorem dL_fileOf_28 : decode prog_6_method_2_code 28 = .ok (.iinc 2 1, 3) := by decide +kernel
theorem dL_fileOf_31 : decode prog_6_method_2_code 31 = .ok (.goto (-29), 3) := by decide +kernel
theorem dL_fileOf_34 : decode prog_6_method_2_code 34 = .ok (.aconst_null, 1) := by decide +kernel
theorem dL_fileOf_35 : decode prog_6_method_2_code 35 = .ok (.areturn, 1) := by decide +kernel
theorem dL_descriptorOf_0 : decode prog_6_method_3_code 0 = .ok (.iconst 0, 1) := by decide +kernel
theorem dL_descriptorOf_1 : decode prog_6_method_3_code 1 = .ok (.istore_n 2, 1) := by decide +kernel
theorem dL_descriptorOf_2 : decode prog_6_method_3_code 2 = .ok (.iload_n 2, 1) := by decide +kernel
theorem dL_descriptorOf_3 : decode prog_6_method_3_code 3 = .ok (.aload_n 0, 1) := by decide +kernel
theorem dL_descriptorOf_4 : decode prog_6_method_3_code 4 = .ok (.getfield 20, 3) := by decide +kernel
theorem dL_descriptorOf_7 : decode prog_6_method_3_code 7 = .ok (.arraylength, 1) := by decide +kernel
theorem dL_descriptorOf_8 : decode prog_6_method_3_code 8 = .ok (.if_icmp .ge 26, 3) := by decide +kernel
theorem dL_descriptorOf_11 : decode prog_6_method_3_code 11 = .ok (.aload_n 0, 1) := by decide +kernel
theorem dL_descriptorOf_12 : decode prog_6_method_3_code 12 = .ok (.getfield 20, 3) := by decide +kernel
theorem dL_descriptorOf_15 : decode prog_6_method_3_code 15 = .ok (.iload_n 2, 1) := by decide +kernel
theorem dL_descriptorOf_16 : decode prog_6_method_3_code 16 = .ok (.aaload, 1) := by decide +kernel
theorem dL_descriptorOf_17 : decode prog_6_method_3_code 17 = .ok (.iload_n 1, 1) := by decide +kernel
theorem dL_descriptorOf_18 : decode prog_6_method_3_code 18 = .ok (.invokevirtual 34, 3) := by decide +kernel
theorem dL_descriptorOf_21 : decode prog_6_method_3_code 21 = .ok (.astore_n 3, 1) := by decide +kernel
theorem dL_descriptorOf_22 : decode prog_6_method_3_code 22 = .ok (.aload_n 3, 1) := by decide +kernel
theorem dL_descriptorOf_23 : decode prog_6_method_3_code 23 = .ok (.ifnull 5, 3) := by decide +kernel
theorem dL_descriptorOf_26 : decode prog_6_method_3_code 26 = .ok (.aload_n 3, 1) := by decide +kernel
theorem dL_descriptorOf_27 : decode prog_6_method_3_code 27 = .ok (.areturn, 1) := by decide +kernel
theorem dL_descriptorOf_28 : decode prog_6_method_3_code 28 = .ok (.iinc 2 1, 3) := by decide +kernel
theorem dL_descriptorOf_31 : decode prog_6_method_3_code 31 = .ok (.goto (-29), 3) := by decide +kernel
theorem dL_descriptorOf_34 : decode prog_6_method_3_code 34 = .ok (.aconst_null, 1) := by decide +kernel
theorem dL_descriptorOf_35 : decode prog_6_method_3_code 35 = .ok (.areturn, 1) := by decide +kernel
theorem dL_hasPathLike_0 : decode prog_6_method_4_code 0 = .ok (.aload_n 0, 1) := by decide +kernel
theorem dL_hasPathLike_1 : decode prog_6_method_4_code 1 = .ok (.getfield 20, 3) := by decide +kernel
theorem dL_hasPathLike_4 : decode prog_6_method_4_code 4 = .ok (.arraylength, 1) := by decide +kernel
theorem dL_hasPathLike_5 : decode prog_6_method_4_code 5 = .ok (.aload_n 1, 1) := by decide +kernel
theorem dL_hasPathLike_6 : decode prog_6_method_4_code 6 = .ok (.arraylength, 1) := by decide +kernel
theorem dL_hasPathLike_7 : decode prog_6_method_4_code 7 = .ok (.if_icmp .eq 5, 3) := by decide +kernel
theorem dL_hasPathLike_10 : decode prog_6_method_4_code 10 = .ok (.iconst 0, 1) := by decide +kernel
theorem dL_hasPathLike_11 : decode prog_6_method_4_code 11 = .ok (.ireturn, 1) := by decide +kernel
theorem dL_hasPathLike_12 : decode prog_6_method_4_code 12 = .ok (.iconst 0, 1) := by decide +kernel
theorem dL_hasPathLike_13 : decode prog_6_method_4_code 13 = .ok (.istore_n 2, 1) := by decide +kernel
theorem dL_hasPathLike_14 : decode prog_6_method_4_code 14 = .ok (.iload_n 2, 1) := by decide +kernel
theorem dL_hasPathLike_15 : decode prog_6_method_4_code 15 = .ok (.aload_n 0, 1) := by decide +kernel
theorem dL_hasPathLike_16 : decode prog_6_method_4_code 16 = .ok (.getfield 20, 3) := by decide +kernel
theorem dL_hasPathLike_19 : decode prog_6_method_4_code 19 = .ok (.arraylength, 1) := by decide +kernel
theorem dL_hasPathLike_20 : decode prog_6_method_4_code 20 = .ok (.if_icmp .ge 26, 3) := by decide +kernel
theorem dL_hasPathLike_23 : decode prog_6_method_4_code 23 = .ok (.aload_n 0, 1) := by decide +kernel
theorem dL_hasPathLike_24 : decode prog_6_method_4_code 24 = .ok (.getfield 20, 3) := by decide +kernel
theorem dL_hasPathLike_27 : decode prog_6_method_4_code 27 = .ok (.iload_n 2, 1) := by decide +kernel
theorem dL_hasPathLike_28 : decode prog_6_method_4_code 28 = .ok (.aaload, 1) := by decide +kernel
theorem dL_hasPathLike_29 : decode prog_6_method_4_code 29 = .ok (.aload_n 1, 1) := by decide +kernel
theorem dL_hasPathLike_30 : decode prog_6_method_4_code 30 = .ok (.iload_n 2, 1) := by decide +kernel
theorem dL_hasPathLike_31 : decode prog_6_method_4_code 31 = .ok (.aaload, 1) := by decide +kernel
theorem dL_hasPathLike_32 : decode prog_6_method_4_code 32 = .ok (.invokevirtual 38, 3) := by decide +kernel
theorem dL_hasPathLike_35 : decode prog_6_method_4_code 35 = .ok (.ifCond .ne 5, 3) := by decide +kernel
theorem dL_hasPathLike_38 : decode prog_6_method_4_code 38 = .ok (.iconst 0, 1) := by decide +kernel
theorem dL_hasPathLike_39 : decode prog_6_method_4_code 39 = .ok (.ireturn, 1) := by decide +kernel
theorem dL_hasPathLike_40 : decode prog_6_method_4_code 40 = .ok (.iinc 2 1, 3) := by decide +kernel
theorem dL_hasPathLike_43 : decode prog_6_method_4_code 43 = .ok (.goto (-29), 3) := by decide +kernel
theorem dL_hasPathLike_46 : decode prog_6_method_4_code 46 = .ok (.iconst 1, 1) := by decide +kernel
theorem dL_hasPathLike_47 : decode prog_6_method_4_code 47 = .ok (.ireturn, 1) := by decide +kernel
theorem dP_init_0 : decode prog_7_method_1_code 0 = .ok (.aload_n 0, 1) := by decide +kernel
theorem dP_init_1 : decode prog_7_method_1_code 1 = .ok (.invokespecial 3, 3) := by decide +kernel
theorem dP_init_4 : decode prog_7_method_1_code 4 = .ok (.aload_n 0, 1) := by decide +kernel
theorem dP_init_5 : decode prog_7_method_1_code 5 = .ok (.iconst 4, 1) := by decide +kernel
theorem dP_init_6 : decode prog_7_method_1_code 6 = .ok (.newarray .int, 2) := by decide +kernel
theorem dP_init_8 : decode prog_7_method_1_code 8 = .ok (.putfield 9, 3) := by decide +kernel
theorem dP_init_11 : decode prog_7_method_1_code 11 = .ok (.return_, 1) := by decide +kernel
theorem dP_append_0 : decode prog_7_method_2_code 0 = .ok (.aload_n 0, 1) := by decide +kernel
theorem dP_append_1 : decode prog_7_method_2_code 1 = .ok (.getfield 15, 3) := by decide +kernel
theorem dP_append_4 : decode prog_7_method_2_code 4 = .ok (.iconst 4, 1) := by decide +kernel
theorem dP_append_5 : decode prog_7_method_2_code 5 = .ok (.if_icmp .ge 11, 3) := by decide +kernel
theorem dP_append_8 : decode prog_7_method_2_code 8 = .ok (.aload_n 0, 1) := by decide +kernel
theorem dP_append_9 : decode prog_7_method_2_code 9 = .ok (.iload_n 1, 1) := by decide +kernel
theorem dP_append_10 : decode prog_7_method_2_code 10 = .ok (.invokevirtual 19, 3) := by decide +kernel
theorem dP_append_13 : decode prog_7_method_2_code 13 = .ok (.ifCond .eq 5, 3) := by decide +kernel
theorem dP_append_16 : decode prog_7_method_2_code 16 = .ok (.iconst 0, 1) := by decide +kernel
theorem dP_append_17 : decode prog_7_method_2_code 17 = .ok (.ireturn, 1) := by decide +kernel
theorem dP_append_18 : decode prog_7_method_2_code 18 = .ok (.aload_n 0, 1) := by decide +kernel
theorem dP_append_19 : decode prog_7_method_2_code 19 = .ok (.getfield 9, 3) := by decide +kernel
theorem dP_append_22 : decode prog_7_method_2_code 22 = .ok (.aload_n 0, 1) := by decide +kernel
theorem dP_append_23 : decode prog_7_method_2_code 23 = .ok (.getfield 15, 3) := by decide +kernel
theorem dP_append_26 : decode prog_7_method_2_code 26 = .ok (.iload_n 1, 1) := by decide +kernel
theorem dP_append_27 : decode prog_7_method_2_code 27 = .ok (.iastore, 1) := by decide +kernel
theorem dP_append_28 : decode prog_7_method_2_code 28 = .ok (.aload_n 0, 1) := by decide +kernel
theorem dP_append_29 : decode prog_7_method_2_code 29 = .ok (.dup, 1) := by decide +kernel
theorem dP_append_30 : decode prog_7_method_2_code 30 = .ok (.getfield 15, 3) := by decide +kernel
theorem dP_append_33 : decode prog_7_method_2_code 33 = .ok (.iconst 1, 1) := by decide +kernel
theorem dP_append_34 : decode prog_7_method_2_code 34 = .ok (.iadd, 1) := by decide +kernel
theorem dP_append_35 : decode prog_7_method_2_code 35 = .ok (.putfield 15, 3) := by decide +kernel
theorem dP_append_38 : decode prog_7_method_2_code 38 = .ok (.iconst 1, 1) := by decide +kernel
theorem dP_append_39 : decode prog_7_method_2_code 39 = .ok (.ireturn, 1) := by decide +kernel
theorem dP_contains_0 : decode prog_7_method_3_code 0 = .ok (.iconst 0, 1) := by decide +kernel
theorem dP_contains_1 : decode prog_7_method_3_code 1 = .ok (.istore_n 2, 1) := by decide +kernel
theorem dP_contains_2 : decode prog_7_method_3_code 2 = .ok (.iload_n 2, 1) := by decide +kernel
theorem dP_contains_3 : decode prog_7_method_3_code 3 = .ok (.aload_n 0, 1) := by decide +kernel
theorem dP_contains_4 : decode prog_7_method_3_code 4 = .ok (.getfield 15, 3) := by decide +kernel
theorem dP_contains_7 : decode prog_7_method_3_code 7 = .ok (.if_icmp .ge 21, 3) := by decide +kernel
theorem dP_contains_10 : decode prog_7_method_3_code 10 = .ok (.aload_n 0, 1) := by decide +kernel
theorem dP_contains_11 : decode prog_7_method_3_code 11 = .ok (.getfield 9, 3) := by decide +kernel
theorem dP_contains_14 : decode prog_7_method_3_code 14 = .ok (.iload_n 2, 1) := by decide +kernel
theorem dP_contains_15 : decode prog_7_method_3_code 15 = .ok (.iaload, 1) := by decide +kernel
theorem dP_contains_16 : decode prog_7_method_3_code 16 = .ok (.iload_n 1, 1) := by decide +kernel
theorem dP_contains_17 : decode prog_7_method_3_code 17 = .ok (.if_icmp .ne 5, 3) := by decide +kernel
theorem dP_contains_20 : decode prog_7_method_3_code 20 = .ok (.iconst 1, 1) := by decide +kernel
theorem dP_contains_21 : decode prog_7_method_3_code 21 = .ok (.ireturn, 1) := by decide +kernel
theorem dP_contains_22 : decode prog_7_method_3_code 22 = .ok (.iinc 2 1, 3) := by decide +kernel
theorem dP_contains_25 : decode prog_7_method_3_code 25 = .ok (.goto (-23), 3) := by decide +kernel
theorem dP_contains_28 : decode prog_7_method_3_code 28 = .ok (.iconst 0, 1) := by decide +kernel
theorem dP_contains_29 : decode prog_7_method_3_code 29 = .ok (.ireturn, 1) := by decide +kernel
theorem dS_init_0 : decode prog_8_method_1_code 0 = .ok (.aload_n 0, 1) := by decide +kernel
theorem dS_init_1 : decode prog_8_method_1_code 1 = .ok (.invokespecial 3, 3) := by decide +kernel
theorem dS_init_4 : decode prog_8_method_1_code 4 = .ok (.aload_n 0, 1) := by decide +kernel
theorem dS_init_5 : decode prog_8_method_1_code 5 = .ok (.new 9, 3) := by decide +kernel
theorem dS_init_8 : decode prog_8_method_1_code 8 = .ok (.dup, 1) := by decide +kernel
theorem dS_init_9 : decode prog_8_method_1_code 9 = .ok (.invokespecial 11, 3) := by decide +kernel
theorem dS_init_12 : decode prog_8_method_1_code 12 = .ok (.putfield 12, 3) := by decide +kernel
theorem dS_init_15 : decode prog_8_method_1_code 15 = .ok (.aload_n 0, 1) := by decide +kernel
theorem dS_init_16 : decode prog_8_method_1_code 16 = .ok (.new 9, 3) := by decide +kernel
theorem dS_init_19 : decode prog_8_method_1_code 19 = .ok (.dup, 1) := by decide +kernel
theorem dS_init_20 : decode prog_8_method_1_code 20 = .ok (.invokespecial 11, 3) := by decide +kernel
theorem dS_init_23 : decode prog_8_method_1_code 23 = .ok (.putfield 18, 3) := by decide +kernel
theorem dS_init_26 : decode prog_8_method_1_code 26 = .ok (.aload_n 0, 1) := by decide +kernel
theorem dS_init_27 : decode prog_8_method_1_code 27 = .ok (.getstatic 21, 3) := by decide +kernel
theorem dS_init_30 : decode prog_8_method_1_code 30 = .ok (.putfield 27, 3) := by decide +kernel
theorem dS_init_33 : decode prog_8_method_1_code 33 = .ok (.aload_n 0, 1) := by decide +kernel
theorem dS_init_34 : decode prog_8_method_1_code 34 = .ok (.bipush 8, 2) := by decide +kernel
theorem dS_init_36 : decode prog_8_method_1_code 36 = .ok (.anewarray 30, 3) := by decide +kernel
theorem dS_init_39 : decode prog_8_method_1_code 39 = .ok (.putfield 32, 3) := by decide +kernel
theorem dS_init_42 : decode prog_8_method_1_code 42 = .ok (.aload_n 0, 1) := by decide +kernel
theorem dS_init_43 : decode prog_8_method_1_code 43 = .ok (.aload_n 1, 1) := by decide +kernel
theorem dS_init_44 : decode prog_8_method_1_code 44 = .ok (.putfield 36, 3) := by decide +kernel
theorem dS_init_47 : decode prog_8_method_1_code 47 = .ok (.return_, 1) := by decide +kernel
theorem dS_hasApplied_0 : decode prog_8_method_2_code 0 = .ok (.iconst 0, 1) := by decide +kernel
theorem dS_hasApplied_1 : decode prog_8_method_2_code 1 = .ok (.istore_n 2, 1) := by decide +kernel
theorem dS_hasApplied_2 : decode prog_8_method_2_code 2 = .ok (.iload_n 2, 1) := by decide +kernel
theorem dS_hasApplied_3 : decode prog_8_method_2_code 3 = .ok (.aload_n 0, 1) := by decide +kernel
theorem dS_hasApplied_4 : decode prog_8_method_2_code 4 = .ok (.getfield 40, 3) := by decide +kernel
theorem dS_hasApplied_7 : decode prog_8_method_2_code 7 = .ok (.if_icmp .ge 21, 3) := by decide +kernel
theorem dS_hasApplied_10 : decode prog_8_method_2_code 10 = .ok (.aload_n 0, 1) := by decide +kernel
theorem dS_hasApplied_11 : decode prog_8_method_2_code 11 = .ok (.getfield 32, 3) := by decide +kernel
theorem dS_hasApplied_14 : decode prog_8_method_2_code 14 = .ok (.iload_n 2, 1) := by decide +kernel
theorem dS_hasApplied_15 : decode prog_8_method_2_code 15 = .ok (.aaload, 1) := by decide +kernel
theorem dS_hasApplied_16 : decode prog_8_method_2_code 16 = .ok (.aload_n 1, 1) := by decide +kernel
theorem dS_hasApplied_17 : decode prog_8_method_2_code 17 = .ok (.if_acmp .ne 5, 3) := by decide +kernel
theorem dS_hasApplied_20 : decode prog_8_method_2_code 20 = .ok (.iconst 1, 1) := by decide +kernel
theorem dS_hasApplied_21 : decode prog_8_method_2_code 21 = .ok (.ireturn, 1) := by decide +kernel
theorem dS_hasApplied_22 : decode prog_8_method_2_code 22 = .ok (.iinc 2 1, 3) := by decide +kernel
theorem dS_hasApplied_25 : decode prog_8_method_2_code 25 = .ok (.goto (-23), 3) := by decide +kernel
theorem dS_hasApplied_28 : decode prog_8_method_2_code 28 = .ok (.iconst 0, 1) := by decide +kernel
theorem dS_hasApplied_29 : decode prog_8_method_2_code 29 = .ok (.ireturn, 1) := by decide +kernel
theorem dS_appendApplied_0 : decode prog_8_method_3_code 0 = .ok (.aload_n 0, 1) := by decide +kernel
theorem dS_appendApplied_1 : decode prog_8_method_3_code 1 = .ok (.getfield 40, 3) := by decide +kernel
theorem dS_appendApplied_4 : decode prog_8_method_3_code 4 = .ok (.bipush 8, 2) := by decide +kernel
theorem dS_appendApplied_6 : decode prog_8_method_3_code 6 = .ok (.if_icmp .lt 5, 3) := by decide +kernel
theorem dS_appendApplied_9 : decode prog_8_method_3_code 9 = .ok (.iconst 0, 1) := by decide +kernel
theorem dS_appendApplied_10 : decode prog_8_method_3_code 10 = .ok (.ireturn, 1) := by decide +kernel
theorem dS_appendApplied_11 : decode prog_8_method_3_code 11 = .ok (.aload_n 0, 1) := by decide +kernel
theorem dS_appendApplied_12 : decode prog_8_method_3_code 12 = .ok (.getfield 32, 3) := by decide +kernel
theorem dS_appendApplied_15 : decode prog_8_method_3_code 15 = .ok (.aload_n 0, 1) := by decide +kernel
theorem dS_appendApplied_16 : decode prog_8_method_3_code 16 = .ok (.getfield 40, 3) := by decide +kernel
theorem dS_appendApplied_19 : decode prog_8_method_3_code 19 = .ok (.aload_n 1, 1) := by decide +kernel
theorem dS_appendApplied_20 : decode prog_8_method_3_code 20 = .ok (.aastore, 1) := by decide +kernel
theorem dS_appendApplied_21 : decode prog_8_method_3_code 21 = .ok (.aload_n 0, 1) := by decide +kernel
theorem dS_appendApplied_22 : decode prog_8_method_3_code 22 = .ok (.dup, 1) := by decide +kernel
theorem dS_appendApplied_23 : decode prog_8_method_3_code 23 = .ok (.getfield 40, 3) := by decide +kernel
theorem dS_appendApplied_26 : decode prog_8_method_3_code 26 = .ok (.iconst 1, 1) := by decide +kernel
theorem dS_appendApplied_27 : decode prog_8_method_3_code 27 = .ok (.iadd, 1) := by decide +kernel
theorem dS_appendApplied_28 : decode prog_8_method_3_code 28 = .ok (.putfield 40, 3) := by decide +kernel
theorem dS_appendApplied_31 : decode prog_8_method_3_code 31 = .ok (.iconst 1, 1) := by decide +kernel
theorem dS_appendApplied_32 : decode prog_8_method_3_code 32 = .ok (.ireturn, 1) := by decide +kernel
theorem dY_init_0 : decode prog_10_method_1_code 0 = .ok (.aload_n 0, 1) := by decide +kernel
theorem dY_init_1 : decode prog_10_method_1_code 1 = .ok (.invokespecial 1, 3) := by decide +kernel
theorem dY_init_4 : decode prog_10_method_1_code 4 = .ok (.aload_n 0, 1) := by decide +kernel
theorem dY_init_5 : decode prog_10_method_1_code 5 = .ok (.iload_n 1, 1) := by decide +kernel
theorem dY_init_6 : decode prog_10_method_1_code 6 = .ok (.putfield 7, 3) := by decide +kernel
theorem dY_init_9 : decode prog_10_method_1_code 9 = .ok (.aload_n 0, 1) := by decide +kernel
theorem dY_init_10 : decode prog_10_method_1_code 10 = .ok (.iload_n 2, 1) := by decide +kernel
theorem dY_init_11 : decode prog_10_method_1_code 11 = .ok (.putfield 13, 3) := by decide +kernel
theorem dY_init_14 : decode prog_10_method_1_code 14 = .ok (.aload_n 0, 1) := by decide +kernel
theorem dY_init_15 : decode prog_10_method_1_code 15 = .ok (.iload_n 3, 1) := by decide +kernel
theorem dY_init_16 : decode prog_10_method_1_code 16 = .ok (.putfield 16, 3) := by decide +kernel
theorem dY_init_19 : decode prog_10_method_1_code 19 = .ok (.aload_n 0, 1) := by decide +kernel
theorem dY_init_20 : decode prog_10_method_1_code 20 = .ok (.aload 4, 2) := by decide +kernel
theorem dY_init_22 : decode prog_10_method_1_code 22 = .ok (.putfield 19, 3) := by decide +kernel
theorem dY_init_25 : decode prog_10_method_1_code 25 = .ok (.aload_n 0, 1) := by decide +kernel
theorem dY_init_26 : decode prog_10_method_1_code 26 = .ok (.aload 5, 2) := by decide +kernel
theorem dY_init_28 : decode prog_10_method_1_code 28 = .ok (.putfield 23, 3) := by decide +kernel
theorem dY_init_31 : decode prog_10_method_1_code 31 = .ok (.return_, 1) := by decide +kernel
