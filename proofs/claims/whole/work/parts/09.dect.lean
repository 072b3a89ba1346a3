/-! each instruction, decoded: printed by program -/
theorem dT_init_0 : decode prog_1_method_1_code 0 = .ok (.aload_n 0, 1) := by decide +kernel
theorem dT_init_1 : decode prog_1_method_1_code 1 = .ok (.invokespecial 1, 3) := by decide +kernel
theorem dT_init_4 : decode prog_1_method_1_code 4 = .ok (.aload_n 0, 1) := by decide +kernel
theorem dT_init_5 : decode prog_1_method_1_code 5 = .ok (.bipush 10, 2) := by decide +kernel
theorem dT_init_7 : decode prog_1_method_1_code 7 = .ok (.anewarray 9, 3) := by decide +kernel
theorem dT_init_10 : decode prog_1_method_1_code 10 = .ok (.putfield 11, 3) := by decide +kernel
theorem dT_init_13 : decode prog_1_method_1_code 13 = .ok (.aload_n 0, 1) := by decide +kernel
theorem dT_init_14 : decode prog_1_method_1_code 14 = .ok (.bipush 12, 2) := by decide +kernel
theorem dT_init_16 : decode prog_1_method_1_code 16 = .ok (.anewarray 15, 3) := by decide +kernel
theorem dT_init_19 : decode prog_1_method_1_code 19 = .ok (.putfield 17, 3) := by decide +kernel
theorem dT_init_22 : decode prog_1_method_1_code 22 = .ok (.aload_n 0, 1) := by decide +kernel
theorem dT_init_23 : decode prog_1_method_1_code 23 = .ok (.bipush 41, 2) := by decide +kernel
theorem dT_init_25 : decode prog_1_method_1_code 25 = .ok (.anewarray 21, 3) := by decide +kernel
theorem dT_init_28 : decode prog_1_method_1_code 28 = .ok (.putfield 23, 3) := by decide +kernel
theorem dT_init_31 : decode prog_1_method_1_code 31 = .ok (.aload_n 0, 1) := by decide +kernel
theorem dT_init_32 : decode prog_1_method_1_code 32 = .ok (.bipush 120, 2) := by decide +kernel
theorem dT_init_34 : decode prog_1_method_1_code 34 = .ok (.anewarray 27, 3) := by decide +kernel
theorem dT_init_37 : decode prog_1_method_1_code 37 = .ok (.putfield 29, 3) := by decide +kernel
theorem dT_init_40 : decode prog_1_method_1_code 40 = .ok (.aload_n 0, 1) := by decide +kernel
theorem dT_init_41 : decode prog_1_method_1_code 41 = .ok (.bipush 8, 2) := by decide +kernel
theorem dT_init_43 : decode prog_1_method_1_code 43 = .ok (.anewarray 21, 3) := by decide +kernel
theorem dT_init_46 : decode prog_1_method_1_code 46 = .ok (.putfield 33, 3) := by decide +kernel
theorem dT_init_49 : decode prog_1_method_1_code 49 = .ok (.aload_n 0, 1) := by decide +kernel
theorem dT_init_50 : decode prog_1_method_1_code 50 = .ok (.bipush 8, 2) := by decide +kernel
theorem dT_init_52 : decode prog_1_method_1_code 52 = .ok (.newarray .int, 2) := by decide +kernel
theorem dT_init_54 : decode prog_1_method_1_code 54 = .ok (.putfield 36, 3) := by decide +kernel
theorem dT_init_57 : decode prog_1_method_1_code 57 = .ok (.iconst 0, 1) := by decide +kernel
theorem dT_init_58 : decode prog_1_method_1_code 58 = .ok (.istore_n 1, 1) := by decide +kernel
theorem dT_init_59 : decode prog_1_method_1_code 59 = .ok (.iload_n 1, 1) := by decide +kernel
theorem dT_init_60 : decode prog_1_method_1_code 60 = .ok (.bipush 10, 2) := by decide +kernel
theorem dT_init_62 : decode prog_1_method_1_code 62 = .ok (.if_icmp .ge 22, 3) := by decide +kernel
theorem dT_init_65 : decode prog_1_method_1_code 65 = .ok (.aload_n 0, 1) := by decide +kernel
theorem dT_init_66 : decode prog_1_method_1_code 66 = .ok (.getfield 11, 3) := by decide +kernel
theorem dT_init_69 : decode prog_1_method_1_code 69 = .ok (.iload_n 1, 1) := by decide +kernel
theorem dT_init_70 : decode prog_1_method_1_code 70 = .ok (.new 9, 3) := by decide +kernel
theorem dT_init_73 : decode prog_1_method_1_code 73 = .ok (.dup, 1) := by decide +kernel
theorem dT_init_74 : decode prog_1_method_1_code 74 = .ok (.invokespecial 40, 3) := by decide +kernel
theorem dT_init_77 : decode prog_1_method_1_code 77 = .ok (.aastore, 1) := by decide +kernel
theorem dT_init_78 : decode prog_1_method_1_code 78 = .ok (.iinc 1 1, 3) := by decide +kernel
theorem dT_init_81 : decode prog_1_method_1_code 81 = .ok (.goto (-22), 3) := by decide +kernel
theorem dT_init_84 : decode prog_1_method_1_code 84 = .ok (.new 21, 3) := by decide +kernel
theorem dT_init_87 : decode prog_1_method_1_code 87 = .ok (.dup, 1) := by decide +kernel
theorem dT_init_88 : decode prog_1_method_1_code 88 = .ok (.iconst 0, 1) := by decide +kernel
theorem dT_init_89 : decode prog_1_method_1_code 89 = .ok (.iconst 0, 1) := by decide +kernel
theorem dT_init_90 : decode prog_1_method_1_code 90 = .ok (.aconst_null, 1) := by decide +kernel
theorem dT_init_91 : decode prog_1_method_1_code 91 = .ok (.iconst 0, 1) := by decide +kernel
theorem dT_init_92 : decode prog_1_method_1_code 92 = .ok (.anewarray 9, 3) := by decide +kernel
theorem dT_init_95 : decode prog_1_method_1_code 95 = .ok (.aconst_null, 1) := by decide +kernel
theorem dT_init_96 : decode prog_1_method_1_code 96 = .ok (.invokespecial 41, 3) := by decide +kernel
theorem dT_init_99 : decode prog_1_method_1_code 99 = .ok (.astore_n 1, 1) := by decide +kernel
theorem dT_init_100 : decode prog_1_method_1_code 100 = .ok (.aload_n 0, 1) := by decide +kernel
theorem dT_init_101 : decode prog_1_method_1_code 101 = .ok (.getfield 23, 3) := by decide +kernel
theorem dT_init_104 : decode prog_1_method_1_code 104 = .ok (.iconst 0, 1) := by decide +kernel
theorem dT_init_105 : decode prog_1_method_1_code 105 = .ok (.aload_n 1, 1) := by decide +kernel
theorem dT_init_106 : decode prog_1_method_1_code 106 = .ok (.aastore, 1) := by decide +kernel
theorem dT_init_107 : decode prog_1_method_1_code 107 = .ok (.iconst 0, 1) := by decide +kernel
theorem dT_init_108 : decode prog_1_method_1_code 108 = .ok (.istore_n 2, 1) := by decide +kernel
theorem dT_init_109 : decode prog_1_method_1_code 109 = .ok (.iload_n 2, 1) := by decide +kernel
theorem dT_init_110 : decode prog_1_method_1_code 110 = .ok (.bipush 8, 2) := by decide +kernel
theorem dT_init_112 : decode prog_1_method_1_code 112 = .ok (.if_icmp .ge 27, 3) := by decide +kernel
theorem dT_init_115 : decode prog_1_method_1_code 115 = .ok (.aload_n 0, 1) := by decide +kernel
theorem dT_init_116 : decode prog_1_method_1_code 116 = .ok (.getfield 29, 3) := by decide +kernel
theorem dT_init_119 : decode prog_1_method_1_code 119 = .ok (.iload_n 2, 1) := by decide +kernel
theorem dT_init_120 : decode prog_1_method_1_code 120 = .ok (.new 27, 3) := by decide +kernel
theorem dT_init_123 : decode prog_1_method_1_code 123 = .ok (.dup, 1) := by decide +kernel
theorem dT_init_124 : decode prog_1_method_1_code 124 = .ok (.iload_n 2, 1) := by decide +kernel
theorem dT_init_125 : decode prog_1_method_1_code 125 = .ok (.iload_n 2, 1) := by decide +kernel
theorem dT_init_126 : decode prog_1_method_1_code 126 = .ok (.iconst 0, 1) := by decide +kernel
theorem dT_init_127 : decode prog_1_method_1_code 127 = .ok (.aload_n 1, 1) := by decide +kernel
theorem dT_init_128 : decode prog_1_method_1_code 128 = .ok (.aconst_null, 1) := by decide +kernel
theorem dT_init_129 : decode prog_1_method_1_code 129 = .ok (.invokespecial 44, 3) := by decide +kernel
theorem dT_init_132 : decode prog_1_method_1_code 132 = .ok (.aastore, 1) := by decide +kernel
theorem dT_init_133 : decode prog_1_method_1_code 133 = .ok (.iinc 2 1, 3) := by decide +kernel
theorem dT_init_136 : decode prog_1_method_1_code 136 = .ok (.goto (-27), 3) := by decide +kernel
theorem dT_init_139 : decode prog_1_method_1_code 139 = .ok (.aload_n 0, 1) := by decide +kernel
theorem dT_init_140 : decode prog_1_method_1_code 140 = .ok (.bipush 8, 2) := by decide +kernel
theorem dT_init_142 : decode prog_1_method_1_code 142 = .ok (.putfield 47, 3) := by decide +kernel
theorem dT_init_145 : decode prog_1_method_1_code 145 = .ok (.new 15, 3) := by decide +kernel
theorem dT_init_148 : decode prog_1_method_1_code 148 = .ok (.dup, 1) := by decide +kernel
theorem dT_init_149 : decode prog_1_method_1_code 149 = .ok (.aconst_null, 1) := by decide +kernel
theorem dT_init_150 : decode prog_1_method_1_code 150 = .ok (.invokespecial 51, 3) := by decide +kernel
theorem dT_init_153 : decode prog_1_method_1_code 153 = .ok (.astore_n 2, 1) := by decide +kernel
theorem dT_init_154 : decode prog_1_method_1_code 154 = .ok (.aload_n 2, 1) := by decide +kernel
theorem dT_init_155 : decode prog_1_method_1_code 155 = .ok (.getstatic 54, 3) := by decide +kernel
theorem dT_init_158 : decode prog_1_method_1_code 158 = .ok (.putfield 60, 3) := by decide +kernel
theorem dT_init_161 : decode prog_1_method_1_code 161 = .ok (.aload_n 2, 1) := by decide +kernel
theorem dT_init_162 : decode prog_1_method_1_code 162 = .ok (.aload_n 1, 1) := by decide +kernel
theorem dT_init_163 : decode prog_1_method_1_code 163 = .ok (.putfield 63, 3) := by decide +kernel
theorem dT_init_166 : decode prog_1_method_1_code 166 = .ok (.aload_n 2, 1) := by decide +kernel
theorem dT_init_167 : decode prog_1_method_1_code 167 = .ok (.aload_n 1, 1) := by decide +kernel
theorem dT_init_168 : decode prog_1_method_1_code 168 = .ok (.putfield 67, 3) := by decide +kernel
theorem dT_init_171 : decode prog_1_method_1_code 171 = .ok (.aload_n 1, 1) := by decide +kernel
theorem dT_init_172 : decode prog_1_method_1_code 172 = .ok (.iconst 2, 1) := by decide +kernel
theorem dT_init_173 : decode prog_1_method_1_code 173 = .ok (.putfield 70, 3) := by decide +kernel
theorem dT_init_176 : decode prog_1_method_1_code 176 = .ok (.aload_n 0, 1) := by decide +kernel
theorem dT_init_177 : decode prog_1_method_1_code 177 = .ok (.getfield 17, 3) := by decide +kernel
theorem dT_init_180 : decode prog_1_method_1_code 180 = .ok (.iconst 0, 1) := by decide +kernel
theorem dT_init_181 : decode prog_1_method_1_code 181 = .ok (.aload_n 2, 1) := by decide +kernel
theorem dT_init_182 : decode prog_1_method_1_code 182 = .ok (.aastore, 1) := by decide +kernel
theorem dT_init_183 : decode prog_1_method_1_code 183 = .ok (.aload_n 0, 1) := by decide +kernel
theorem dT_init_184 : decode prog_1_method_1_code 184 = .ok (.iconst 1, 1) := by decide +kernel
theorem dT_init_185 : decode prog_1_method_1_code 185 = .ok (.putfield 73, 3) := by decide +kernel
theorem dT_init_188 : decode prog_1_method_1_code 188 = .ok (.return_, 1) := by decide +kernel
theorem dT_file_0 : decode prog_1_method_2_code 0 = .ok (.aload_n 0, 1) := by decide +kernel
theorem dT_file_1 : decode prog_1_method_2_code 1 = .ok (.iload_n 1, 1) := by decide +kernel
theorem dT_file_2 : decode prog_1_method_2_code 2 = .ok (.invokevirtual 76, 3) := by decide +kernel
theorem dT_file_5 : decode prog_1_method_2_code 5 = .ok (.astore 5, 2) := by decide +kernel
theorem dT_file_7 : decode prog_1_method_2_code 7 = .ok (.iload_n 2, 1) := by decide +kernel
theorem dT_file_8 : decode prog_1_method_2_code 8 = .ok (.bipush 64, 2) := by decide +kernel
theorem dT_file_10 : decode prog_1_method_2_code 10 = .ok (.invokestatic 80, 3) := by decide +kernel
theorem dT_file_13 : decode prog_1_method_2_code 13 = .ok (.ifCond .eq 9, 3) := by decide +kernel
theorem dT_file_16 : decode prog_1_method_2_code 16 = .ok (.iload_n 2, 1) := by decide +kernel
theorem dT_file_17 : decode prog_1_method_2_code 17 = .ok (.bipush 8, 2) := by decide +kernel
theorem dT_file_19 : decode prog_1_method_2_code 19 = .ok (.if_icmp .ge 13, 3) := by decide +kernel
theorem dT_file_22 : decode prog_1_method_2_code 22 = .ok (.new 84, 3) := by decide +kernel
theorem dT_file_25 : decode prog_1_method_2_code 25 = .ok (.dup, 1) := by decide +kernel
theorem dT_file_26 : decode prog_1_method_2_code 26 = .ok (.ldc 86, 2) := by decide +kernel
theorem dT_file_28 : decode prog_1_method_2_code 28 = .ok (.invokespecial 88, 3) := by decide +kernel
theorem dT_file_31 : decode prog_1_method_2_code 31 = .ok (.athrow, 1) := by decide +kernel
theorem dT_file_32 : decode prog_1_method_2_code 32 = .ok (.iload_n 3, 1) := by decide +kernel
theorem dT_file_33 : decode prog_1_method_2_code 33 = .ok (.bipush 64, 2) := by decide +kernel
theorem dT_file_35 : decode prog_1_method_2_code 35 = .ok (.invokestatic 80, 3) := by decide +kernel
theorem dT_file_38 : decode prog_1_method_2_code 38 = .ok (.ifCond .eq 13, 3) := by decide +kernel
theorem dT_file_41 : decode prog_1_method_2_code 41 = .ok (.iload 4, 2) := by decide +kernel
theorem dT_file_43 : decode prog_1_method_2_code 43 = .ok (.bipush 10, 2) := by decide +kernel
theorem dT_file_45 : decode prog_1_method_2_code 45 = .ok (.invokestatic 80, 3) := by decide +kernel
theorem dT_file_48 : decode prog_1_method_2_code 48 = .ok (.ifCond .ne 13, 3) := by decide +kernel
theorem dT_file_51 : decode prog_1_method_2_code 51 = .ok (.new 84, 3) := by decide +kernel
theorem dT_file_54 : decode prog_1_method_2_code 54 = .ok (.dup, 1) := by decide +kernel
theorem dT_file_55 : decode prog_1_method_2_code 55 = .ok (.ldc 91, 2) := by decide +kernel
theorem dT_file_57 : decode prog_1_method_2_code 57 = .ok (.invokespecial 88, 3) := by decide +kernel
theorem dT_file_60 : decode prog_1_method_2_code 60 = .ok (.athrow, 1) := by decide +kernel
theorem dT_file_61 : decode prog_1_method_2_code 61 = .ok (.aload 5, 2) := by decide +kernel
theorem dT_file_63 : decode prog_1_method_2_code 63 = .ok (.new 93, 3) := by decide +kernel
theorem dT_file_66 : decode prog_1_method_2_code 66 = .ok (.dup, 1) := by decide +kernel
theorem dT_file_67 : decode prog_1_method_2_code 67 = .ok (.iload_n 2, 1) := by decide +kernel
theorem dT_file_68 : decode prog_1_method_2_code 68 = .ok (.iload_n 3, 1) := by decide +kernel
theorem dT_file_69 : decode prog_1_method_2_code 69 = .ok (.iload 4, 2) := by decide +kernel
theorem dT_file_71 : decode prog_1_method_2_code 71 = .ok (.invokespecial 95, 3) := by decide +kernel
theorem dT_file_74 : decode prog_1_method_2_code 74 = .ok (.invokevirtual 98, 3) := by decide +kernel
theorem dT_file_77 : decode prog_1_method_2_code 77 = .ok (.ifCond .ne 13, 3) := by decide +kernel
theorem dT_file_80 : decode prog_1_method_2_code 80 = .ok (.new 102, 3) := by decide +kernel
theorem dT_file_83 : decode prog_1_method_2_code 83 = .ok (.dup, 1) := by decide +kernel
theorem dT_file_84 : decode prog_1_method_2_code 84 = .ok (.ldc 104, 2) := by decide +kernel
theorem dT_file_86 : decode prog_1_method_2_code 86 = .ok (.invokespecial 106, 3) := by decide +kernel
theorem dT_file_89 : decode prog_1_method_2_code 89 = .ok (.athrow, 1) := by decide +kernel
theorem dT_file_90 : decode prog_1_method_2_code 90 = .ok (.aload 5, 2) := by decide +kernel
theorem dT_file_92 : decode prog_1_method_2_code 92 = .ok (.getfield 107, 3) := by decide +kernel
theorem dT_file_95 : decode prog_1_method_2_code 95 = .ok (.ireturn, 1) := by decide +kernel
theorem dT_descriptor_0 : decode prog_1_method_3_code 0 = .ok (.aload_n 0, 1) := by decide +kernel
theorem dT_descriptor_1 : decode prog_1_method_3_code 1 = .ok (.iload_n 1, 1) := by decide +kernel
theorem dT_descriptor_2 : decode prog_1_method_3_code 2 = .ok (.invokevirtual 76, 3) := by decide +kernel
theorem dT_descriptor_5 : decode prog_1_method_3_code 5 = .ok (.astore 4, 2) := by decide +kernel
theorem dT_descriptor_7 : decode prog_1_method_3_code 7 = .ok (.iload_n 2, 1) := by decide +kernel
theorem dT_descriptor_8 : decode prog_1_method_3_code 8 = .ok (.bipush 10, 2) := by decide +kernel
theorem dT_descriptor_10 : decode prog_1_method_3_code 10 = .ok (.invokestatic 80, 3) := by decide +kernel
theorem dT_descriptor_13 : decode prog_1_method_3_code 13 = .ok (.ifCond .eq 12, 3) := by decide +kernel
theorem dT_descriptor_16 : decode prog_1_method_3_code 16 = .ok (.iload_n 3, 1) := by decide +kernel
theorem dT_descriptor_17 : decode prog_1_method_3_code 17 = .ok (.bipush 64, 2) := by decide +kernel
theorem dT_descriptor_19 : decode prog_1_method_3_code 19 = .ok (.invokestatic 80, 3) := by decide +kernel
theorem dT_descriptor_22 : decode prog_1_method_3_code 22 = .ok (.ifCond .ne 13, 3) := by decide +kernel
theorem dT_descriptor_25 : decode prog_1_method_3_code 25 = .ok (.new 84, 3) := by decide +kernel
theorem dT_descriptor_28 : decode prog_1_method_3_code 28 = .ok (.dup, 1) := by decide +kernel
theorem dT_descriptor_29 : decode prog_1_method_3_code 29 = .ok (.ldc 110, 2) := by decide +kernel
theorem dT_descriptor_31 : decode prog_1_method_3_code 31 = .ok (.invokespecial 88, 3) := by decide +kernel
theorem dT_descriptor_34 : decode prog_1_method_3_code 34 = .ok (.athrow, 1) := by decide +kernel
theorem dT_descriptor_35 : decode prog_1_method_3_code 35 = .ok (.aload 4, 2) := by decide +kernel
theorem dT_descriptor_37 : decode prog_1_method_3_code 37 = .ok (.new 112, 3) := by decide +kernel
theorem dT_descriptor_40 : decode prog_1_method_3_code 40 = .ok (.dup, 1) := by decide +kernel
theorem dT_descriptor_41 : decode prog_1_method_3_code 41 = .ok (.iload_n 2, 1) := by decide +kernel
theorem dT_descriptor_42 : decode prog_1_method_3_code 42 = .ok (.iload_n 3, 1) := by decide +kernel
theorem dT_descriptor_43 : decode prog_1_method_3_code 43 = .ok (.invokespecial 114, 3) := by decide +kernel
theorem dT_descriptor_46 : decode prog_1_method_3_code 46 = .ok (.invokevirtual 117, 3) := by decide +kernel
theorem dT_descriptor_49 : decode prog_1_method_3_code 49 = .ok (.ifCond .ne 13, 3) := by decide +kernel
theorem dT_descriptor_52 : decode prog_1_method_3_code 52 = .ok (.new 102, 3) := by decide +kernel
theorem dT_descriptor_55 : decode prog_1_method_3_code 55 = .ok (.dup, 1) := by decide +kernel
theorem dT_descriptor_56 : decode prog_1_method_3_code 56 = .ok (.ldc 121, 2) := by decide +kernel
theorem dT_descriptor_58 : decode prog_1_method_3_code 58 = .ok (.invokespecial 106, 3) := by decide +kernel
theorem dT_descriptor_61 : decode prog_1_method_3_code 61 = .ok (.athrow, 1) := by decide +kernel
theorem dT_descriptor_62 : decode prog_1_method_3_code 62 = .ok (.aload 4, 2) := by decide +kernel
theorem dT_descriptor_64 : decode prog_1_method_3_code 64 = .ok (.getfield 123, 3) := by decide +kernel
theorem dT_descriptor_67 : decode prog_1_method_3_code 67 = .ok (.ireturn, 1) := by decide +kernel
theorem dT_wipe_0 : decode prog_1_method_4_code 0 = .ok (.aload_n 0, 1) := by decide +kernel
theorem dT_wipe_1 : decode prog_1_method_4_code 1 = .ok (.iload_n 1, 1) := by decide +kernel
theorem dT_wipe_2 : decode prog_1_method_4_code 2 = .ok (.invokevirtual 76, 3) := by decide +kernel
theorem dT_wipe_5 : decode prog_1_method_4_code 5 = .ok (.astore_n 2, 1) := by decide +kernel
theorem dT_wipe_6 : decode prog_1_method_4_code 6 = .ok (.aload_n 2, 1) := by decide +kernel
theorem dT_wipe_7 : decode prog_1_method_4_code 7 = .ok (.iconst 0, 1) := by decide +kernel
theorem dT_wipe_8 : decode prog_1_method_4_code 8 = .ok (.putfield 107, 3) := by decide +kernel
theorem dT_wipe_11 : decode prog_1_method_4_code 11 = .ok (.aload_n 2, 1) := by decide +kernel
theorem dT_wipe_12 : decode prog_1_method_4_code 12 = .ok (.iconst 0, 1) := by decide +kernel
theorem dT_wipe_13 : decode prog_1_method_4_code 13 = .ok (.putfield 123, 3) := by decide +kernel
theorem dT_wipe_16 : decode prog_1_method_4_code 16 = .ok (.return_, 1) := by decide +kernel
theorem dT_child_0 : decode prog_1_method_5_code 0 = .ok (.aload_n 0, 1) := by decide +kernel
theorem dT_child_1 : decode prog_1_method_5_code 1 = .ok (.iload_n 1, 1) := by decide +kernel
theorem dT_child_2 : decode prog_1_method_5_code 2 = .ok (.invokevirtual 126, 3) := by decide +kernel
theorem dT_child_5 : decode prog_1_method_5_code 5 = .ok (.astore_n 2, 1) := by decide +kernel
theorem dT_child_6 : decode prog_1_method_5_code 6 = .ok (.aload_n 2, 1) := by decide +kernel
theorem dT_child_7 : decode prog_1_method_5_code 7 = .ok (.getfield 60, 3) := by decide +kernel
theorem dT_child_10 : decode prog_1_method_5_code 10 = .ok (.getstatic 130, 3) := by decide +kernel
theorem dT_child_13 : decode prog_1_method_5_code 13 = .ok (.if_acmp .ne 13, 3) := by decide +kernel
theorem dT_child_16 : decode prog_1_method_5_code 16 = .ok (.new 84, 3) := by decide +kernel
theorem dT_child_19 : decode prog_1_method_5_code 19 = .ok (.dup, 1) := by decide +kernel
theorem dT_child_20 : decode prog_1_method_5_code 20 = .ok (.ldc 133, 2) := by decide +kernel
theorem dT_child_22 : decode prog_1_method_5_code 22 = .ok (.invokespecial 88, 3) := by decide +kernel
theorem dT_child_25 : decode prog_1_method_5_code 25 = .ok (.athrow, 1) := by decide +kernel
theorem dT_child_26 : decode prog_1_method_5_code 26 = .ok (.aload_n 0, 1) := by decide +kernel
theorem dT_child_27 : decode prog_1_method_5_code 27 = .ok (.getfield 73, 3) := by decide +kernel
theorem dT_child_30 : decode prog_1_method_5_code 30 = .ok (.bipush 12, 2) := by decide +kernel
theorem dT_child_32 : decode prog_1_method_5_code 32 = .ok (.if_icmp .lt 13, 3) := by decide +kernel
theorem dT_child_35 : decode prog_1_method_5_code 35 = .ok (.new 102, 3) := by decide +kernel
theorem dT_child_38 : decode prog_1_method_5_code 38 = .ok (.dup, 1) := by decide +kernel
theorem dT_child_39 : decode prog_1_method_5_code 39 = .ok (.ldc 135, 2) := by decide +kernel
theorem dT_child_41 : decode prog_1_method_5_code 41 = .ok (.invokespecial 106, 3) := by decide +kernel
theorem dT_child_44 : decode prog_1_method_5_code 44 = .ok (.athrow, 1) := by decide +kernel
theorem dT_child_45 : decode prog_1_method_5_code 45 = .ok (.aload_n 0, 1) := by decide +kernel
theorem dT_child_46 : decode prog_1_method_5_code 46 = .ok (.getfield 17, 3) := by decide +kernel
theorem dT_child_49 : decode prog_1_method_5_code 49 = .ok (.aload_n 0, 1) := by decide +kernel
theorem dT_child_50 : decode prog_1_method_5_code 50 = .ok (.getfield 73, 3) := by decide +kernel
theorem dT_child_53 : decode prog_1_method_5_code 53 = .ok (.new 15, 3) := by decide +kernel
theorem dT_child_56 : decode prog_1_method_5_code 56 = .ok (.dup, 1) := by decide +kernel
theorem dT_child_57 : decode prog_1_method_5_code 57 = .ok (.aload_n 2, 1) := by decide +kernel
theorem dT_child_58 : decode prog_1_method_5_code 58 = .ok (.invokespecial 51, 3) := by decide +kernel
theorem dT_child_61 : decode prog_1_method_5_code 61 = .ok (.aastore, 1) := by decide +kernel
theorem dT_child_62 : decode prog_1_method_5_code 62 = .ok (.aload_n 0, 1) := by decide +kernel
theorem dT_child_63 : decode prog_1_method_5_code 63 = .ok (.dup, 1) := by decide +kernel
theorem dT_child_64 : decode prog_1_method_5_code 64 = .ok (.getfield 73, 3) := by decide +kernel
theorem dT_child_67 : decode prog_1_method_5_code 67 = .ok (.iconst 1, 1) := by decide +kernel
theorem dT_child_68 : decode prog_1_method_5_code 68 = .ok (.iadd, 1) := by decide +kernel
theorem dT_child_69 : decode prog_1_method_5_code 69 = .ok (.putfield 73, 3) := by decide +kernel
theorem dT_child_72 : decode prog_1_method_5_code 72 = .ok (.aload_n 0, 1) := by decide +kernel
theorem dT_child_73 : decode prog_1_method_5_code 73 = .ok (.getfield 73, 3) := by decide +kernel
theorem dT_child_76 : decode prog_1_method_5_code 76 = .ok (.iconst 1, 1) := by decide +kernel
theorem dT_child_77 : decode prog_1_method_5_code 77 = .ok (.isub, 1) := by decide +kernel
theorem dT_child_78 : decode prog_1_method_5_code 78 = .ok (.ireturn, 1) := by decide +kernel
theorem dT_add_0 : decode prog_1_method_6_code 0 = .ok (.aload_n 0, 1) := by decide +kernel
theorem dT_add_1 : decode prog_1_method_6_code 1 = .ok (.iload_n 1, 1) := by decide +kernel
theorem dT_add_2 : decode prog_1_method_6_code 2 = .ok (.invokevirtual 126, 3) := by decide +kernel
theorem dT_add_5 : decode prog_1_method_6_code 5 = .ok (.astore 4, 2) := by decide +kernel
theorem dT_add_7 : decode prog_1_method_6_code 7 = .ok (.iload_n 2, 1) := by decide +kernel
theorem dT_add_8 : decode prog_1_method_6_code 8 = .ok (.bipush 10, 2) := by decide +kernel
theorem dT_add_10 : decode prog_1_method_6_code 10 = .ok (.invokestatic 80, 3) := by decide +kernel
theorem dT_add_13 : decode prog_1_method_6_code 13 = .ok (.ifCond .ne 13, 3) := by decide +kernel
theorem dT_add_16 : decode prog_1_method_6_code 16 = .ok (.new 84, 3) := by decide +kernel
theorem dT_add_19 : decode prog_1_method_6_code 19 = .ok (.dup, 1) := by decide +kernel
theorem dT_add_20 : decode prog_1_method_6_code 20 = .ok (.ldc 137, 2) := by decide +kernel
theorem dT_add_22 : decode prog_1_method_6_code 22 = .ok (.invokespecial 88, 3) := by decide +kernel
theorem dT_add_25 : decode prog_1_method_6_code 25 = .ok (.athrow, 1) := by decide +kernel
theorem dT_add_26 : decode prog_1_method_6_code 26 = .ok (.aload 4, 2) := by decide +kernel
theorem dT_add_28 : decode prog_1_method_6_code 28 = .ok (.invokestatic 139, 3) := by decide +kernel
theorem dT_add_31 : decode prog_1_method_6_code 31 = .ok (.iload_n 3, 1) := by decide +kernel
theorem dT_add_32 : decode prog_1_method_6_code 32 = .ok (.ifCond .eq 15, 3) := by decide +kernel
theorem dT_add_35 : decode prog_1_method_6_code 35 = .ok (.aload 4, 2) := by decide +kernel
theorem dT_add_37 : decode prog_1_method_6_code 37 = .ok (.getfield 142, 3) := by decide +kernel
theorem dT_add_40 : decode prog_1_method_6_code 40 = .ok (.iload_n 2, 1) := by decide +kernel
theorem dT_add_41 : decode prog_1_method_6_code 41 = .ok (.invokevirtual 146, 3) := by decide +kernel
theorem dT_add_44 : decode prog_1_method_6_code 44 = .ok (.goto 12, 3) := by decide +kernel
theorem dT_add_47 : decode prog_1_method_6_code 47 = .ok (.aload 4, 2) := by decide +kernel
theorem dT_add_49 : decode prog_1_method_6_code 49 = .ok (.getfield 152, 3) := by decide +kernel
theorem dT_add_52 : decode prog_1_method_6_code 52 = .ok (.iload_n 2, 1) := by decide +kernel
theorem dT_add_53 : decode prog_1_method_6_code 53 = .ok (.invokevirtual 146, 3) := by decide +kernel
theorem dT_add_56 : decode prog_1_method_6_code 56 = .ok (.ireturn, 1) := by decide +kernel
theorem dT_filter_0 : decode prog_1_method_7_code 0 = .ok (.aload_n 0, 1) := by decide +kernel
theorem dT_filter_1 : decode prog_1_method_7_code 1 = .ok (.iload_n 1, 1) := by decide +kernel
theorem dT_filter_2 : decode prog_1_method_7_code 2 = .ok (.invokevirtual 126, 3) := by decide +kernel
theorem dT_filter_5 : decode prog_1_method_7_code 5 = .ok (.astore 7, 2) := by decide +kernel
theorem dT_filter_7 : decode prog_1_method_7_code 7 = .ok (.iload_n 2, 1) := by decide +kernel
theorem dT_filter_8 : decode prog_1_method_7_code 8 = .ok (.sipush 256, 3) := by decide +kernel
theorem dT_filter_11 : decode prog_1_method_7_code 11 = .ok (.invokestatic 80, 3) := by decide +kernel
theorem dT_filter_14 : decode prog_1_method_7_code 14 = .ok (.ifCond .ne 13, 3) := by decide +kernel
theorem dT_filter_17 : decode prog_1_method_7_code 17 = .ok (.new 84, 3) := by decide +kernel
theorem dT_filter_20 : decode prog_1_method_7_code 20 = .ok (.dup, 1) := by decide +kernel
theorem dT_filter_21 : decode prog_1_method_7_code 21 = .ok (.ldc 155, 2) := by decide +kernel
theorem dT_filter_23 : decode prog_1_method_7_code 23 = .ok (.invokespecial 88, 3) := by decide +kernel
theorem dT_filter_26 : decode prog_1_method_7_code 26 = .ok (.athrow, 1) := by decide +kernel
theorem dT_filter_27 : decode prog_1_method_7_code 27 = .ok (.aload 7, 2) := by decide +kernel
theorem dT_filter_29 : decode prog_1_method_7_code 29 = .ok (.invokestatic 139, 3) := by decide +kernel
theorem dT_filter_32 : decode prog_1_method_7_code 32 = .ok (.aload 7, 2) := by decide +kernel
theorem dT_filter_34 : decode prog_1_method_7_code 34 = .ok (.new 157, 3) := by decide +kernel
theorem dT_filter_37 : decode prog_1_method_7_code 37 = .ok (.dup, 1) := by decide +kernel
theorem dT_filter_38 : decode prog_1_method_7_code 38 = .ok (.iload_n 2, 1) := by decide +kernel
theorem dT_filter_39 : decode prog_1_method_7_code 39 = .ok (.lload_n 3, 1) := by decide +kernel
theorem dT_filter_40 : decode prog_1_method_7_code 40 = .ok (.lload 5, 2) := by decide +kernel
theorem dT_filter_42 : decode prog_1_method_7_code 42 = .ok (.invokespecial 159, 3) := by decide +kernel
theorem dT_filter_45 : decode prog_1_method_7_code 45 = .ok (.putfield 162, 3) := by decide +kernel
theorem dT_filter_48 : decode prog_1_method_7_code 48 = .ok (.return_, 1) := by decide +kernel
theorem dT_lock_0 : decode prog_1_method_8_code 0 = .ok (.aload_n 0, 1) := by decide +kernel
theorem dT_lock_1 : decode prog_1_method_8_code 1 = .ok (.iload_n 1, 1) := by decide +kernel
theorem dT_lock_2 : decode prog_1_method_8_code 2 = .ok (.invokevirtual 126, 3) := by decide +kernel
theorem dT_lock_5 : decode prog_1_method_8_code 5 = .ok (.astore_n 2, 1) := by decide +kernel
theorem dT_lock_6 : decode prog_1_method_8_code 6 = .ok (.aload_n 2, 1) := by decide +kernel
theorem dT_lock_7 : decode prog_1_method_8_code 7 = .ok (.invokestatic 139, 3) := by decide +kernel
theorem dT_lock_10 : decode prog_1_method_8_code 10 = .ok (.aload_n 2, 1) := by decide +kernel
theorem dT_lock_11 : decode prog_1_method_8_code 11 = .ok (.getfield 166, 3) := by decide +kernel
theorem dT_lock_14 : decode prog_1_method_8_code 14 = .ok (.astore_n 3, 1) := by decide +kernel
theorem dT_lock_15 : decode prog_1_method_8_code 15 = .ok (.aload_n 3, 1) := by decide +kernel
theorem dT_lock_16 : decode prog_1_method_8_code 16 = .ok (.ifnull 13, 3) := by decide +kernel
theorem dT_lock_19 : decode prog_1_method_8_code 19 = .ok (.aload_n 3, 1) := by decide +kernel
theorem dT_lock_20 : decode prog_1_method_8_code 20 = .ok (.getfield 60, 3) := by decide +kernel
theorem dT_lock_23 : decode prog_1_method_8_code 23 = .ok (.getstatic 54, 3) := by decide +kernel
theorem dT_lock_26 : decode prog_1_method_8_code 26 = .ok (.if_acmp .eq 13, 3) := by decide +kernel
theorem dT_lock_29 : decode prog_1_method_8_code 29 = .ok (.new 102, 3) := by decide +kernel
theorem dT_lock_32 : decode prog_1_method_8_code 32 = .ok (.dup, 1) := by decide +kernel
theorem dT_lock_33 : decode prog_1_method_8_code 33 = .ok (.ldc 170, 2) := by decide +kernel
theorem dT_lock_35 : decode prog_1_method_8_code 35 = .ok (.invokespecial 106, 3) := by decide +kernel
theorem dT_lock_38 : decode prog_1_method_8_code 38 = .ok (.athrow, 1) := by decide +kernel
theorem dT_lock_39 : decode prog_1_method_8_code 39 = .ok (.aload_n 0, 1) := by decide +kernel
theorem dT_lock_40 : decode prog_1_method_8_code 40 = .ok (.invokevirtual 172, 3) := by decide +kernel
theorem dT_lock_43 : decode prog_1_method_8_code 43 = .ok (.iconst 3, 1) := by decide +kernel
theorem dT_lock_44 : decode prog_1_method_8_code 44 = .ok (.if_icmp .ge 13, 3) := by decide +kernel
theorem dT_lock_47 : decode prog_1_method_8_code 47 = .ok (.new 176, 3) := by decide +kernel
theorem dT_lock_50 : decode prog_1_method_8_code 50 = .ok (.dup, 1) := by decide +kernel
theorem dT_lock_51 : decode prog_1_method_8_code 51 = .ok (.ldc 178, 2) := by decide +kernel
theorem dT_lock_53 : decode prog_1_method_8_code 53 = .ok (.invokespecial 180, 3) := by decide +kernel
theorem dT_lock_56 : decode prog_1_method_8_code 56 = .ok (.athrow, 1) := by decide +kernel
theorem dT_lock_57 : decode prog_1_method_8_code 57 = .ok (.aload_n 2, 1) := by decide +kernel
theorem dT_lock_58 : decode prog_1_method_8_code 58 = .ok (.aload_n 0, 1) := by decide +kernel
theorem dT_lock_59 : decode prog_1_method_8_code 59 = .ok (.aload_n 2, 1) := by decide +kernel
theorem dT_lock_60 : decode prog_1_method_8_code 60 = .ok (.getfield 142, 3) := by decide +kernel
theorem dT_lock_63 : decode prog_1_method_8_code 63 = .ok (.aload_n 3, 1) := by decide +kernel
theorem dT_lock_64 : decode prog_1_method_8_code 64 = .ok (.getfield 63, 3) := by decide +kernel
theorem dT_lock_67 : decode prog_1_method_8_code 67 = .ok (.invokevirtual 181, 3) := by decide +kernel
theorem dT_lock_70 : decode prog_1_method_8_code 70 = .ok (.putfield 185, 3) := by decide +kernel
theorem dT_lock_73 : decode prog_1_method_8_code 73 = .ok (.aload_n 2, 1) := by decide +kernel
theorem dT_lock_74 : decode prog_1_method_8_code 74 = .ok (.aload_n 0, 1) := by decide +kernel
theorem dT_lock_75 : decode prog_1_method_8_code 75 = .ok (.aload_n 2, 1) := by decide +kernel
theorem dT_lock_76 : decode prog_1_method_8_code 76 = .ok (.getfield 162, 3) := by decide +kernel
theorem dT_lock_79 : decode prog_1_method_8_code 79 = .ok (.aload_n 2, 1) := by decide +kernel
theorem dT_lock_80 : decode prog_1_method_8_code 80 = .ok (.getfield 185, 3) := by decide +kernel
theorem dT_lock_83 : decode prog_1_method_8_code 83 = .ok (.invokevirtual 188, 3) := by decide +kernel
theorem dT_lock_86 : decode prog_1_method_8_code 86 = .ok (.putfield 63, 3) := by decide +kernel
theorem dT_lock_89 : decode prog_1_method_8_code 89 = .ok (.aload_n 2, 1) := by decide +kernel
theorem dT_lock_90 : decode prog_1_method_8_code 90 = .ok (.aload_n 0, 1) := by decide +kernel
theorem dT_lock_91 : decode prog_1_method_8_code 91 = .ok (.aload_n 2, 1) := by decide +kernel
theorem dT_lock_92 : decode prog_1_method_8_code 92 = .ok (.getfield 152, 3) := by decide +kernel
theorem dT_lock_95 : decode prog_1_method_8_code 95 = .ok (.aload_n 2, 1) := by decide +kernel
theorem dT_lock_96 : decode prog_1_method_8_code 96 = .ok (.getfield 185, 3) := by decide +kernel
theorem dT_lock_99 : decode prog_1_method_8_code 99 = .ok (.invokevirtual 181, 3) := by decide +kernel
theorem dT_lock_102 : decode prog_1_method_8_code 102 = .ok (.putfield 67, 3) := by decide +kernel
theorem dT_lock_105 : decode prog_1_method_8_code 105 = .ok (.aload_n 2, 1) := by decide +kernel
theorem dT_lock_106 : decode prog_1_method_8_code 106 = .ok (.getfield 185, 3) := by decide +kernel
theorem dT_lock_109 : decode prog_1_method_8_code 109 = .ok (.dup, 1) := by decide +kernel
theorem dT_lock_110 : decode prog_1_method_8_code 110 = .ok (.getfield 70, 3) := by decide +kernel
theorem dT_lock_113 : decode prog_1_method_8_code 113 = .ok (.iconst 1, 1) := by decide +kernel
theorem dT_lock_114 : decode prog_1_method_8_code 114 = .ok (.iadd, 1) := by decide +kernel
theorem dT_lock_115 : decode prog_1_method_8_code 115 = .ok (.putfield 70, 3) := by decide +kernel
theorem dT_lock_118 : decode prog_1_method_8_code 118 = .ok (.aload_n 2, 1) := by decide +kernel
theorem dT_lock_119 : decode prog_1_method_8_code 119 = .ok (.getfield 63, 3) := by decide +kernel
theorem dT_lock_122 : decode prog_1_method_8_code 122 = .ok (.dup, 1) := by decide +kernel
theorem dT_lock_123 : decode prog_1_method_8_code 123 = .ok (.getfield 70, 3) := by decide +kernel
theorem dT_lock_126 : decode prog_1_method_8_code 126 = .ok (.iconst 1, 1) := by decide +kernel
theorem dT_lock_127 : decode prog_1_method_8_code 127 = .ok (.iadd, 1) := by decide +kernel
theorem dT_lock_128 : decode prog_1_method_8_code 128 = .ok (.putfield 70, 3) := by decide +kernel
theorem dT_lock_131 : decode prog_1_method_8_code 131 = .ok (.aload_n 2, 1) := by decide +kernel
theorem dT_lock_132 : decode prog_1_method_8_code 132 = .ok (.getfield 67, 3) := by decide +kernel
theorem dT_lock_135 : decode prog_1_method_8_code 135 = .ok (.dup, 1) := by decide +kernel
theorem dT_lock_136 : decode prog_1_method_8_code 136 = .ok (.getfield 70, 3) := by decide +kernel
theorem dT_lock_139 : decode prog_1_method_8_code 139 = .ok (.iconst 1, 1) := by decide +kernel
theorem dT_lock_140 : decode prog_1_method_8_code 140 = .ok (.iadd, 1) := by decide +kernel
theorem dT_lock_141 : decode prog_1_method_8_code 141 = .ok (.putfield 70, 3) := by decide +kernel
theorem dT_lock_144 : decode prog_1_method_8_code 144 = .ok (.aload_n 2, 1) := by decide +kernel
theorem dT_lock_145 : decode prog_1_method_8_code 145 = .ok (.getstatic 54, 3) := by decide +kernel
theorem dT_lock_148 : decode prog_1_method_8_code 148 = .ok (.putfield 60, 3) := by decide +kernel
theorem dT_lock_151 : decode prog_1_method_8_code 151 = .ok (.aload_n 2, 1) := by decide +kernel
theorem dT_lock_152 : decode prog_1_method_8_code 152 = .ok (.getfield 67, 3) := by decide +kernel
theorem dT_lock_155 : decode prog_1_method_8_code 155 = .ok (.getfield 192, 3) := by decide +kernel
theorem dT_lock_158 : decode prog_1_method_8_code 158 = .ok (.ireturn, 1) := by decide +kernel
theorem dT_release_0 : decode prog_1_method_9_code 0 = .ok (.aload_n 0, 1) := by decide +kernel
theorem dT_release_1 : decode prog_1_method_9_code 1 = .ok (.iload_n 1, 1) := by decide +kernel
theorem dT_release_2 : decode prog_1_method_9_code 2 = .ok (.invokevirtual 126, 3) := by decide +kernel
theorem dT_release_5 : decode prog_1_method_9_code 5 = .ok (.astore_n 2, 1) := by decide +kernel
theorem dT_release_6 : decode prog_1_method_9_code 6 = .ok (.aload_n 2, 1) := by decide +kernel
theorem dT_release_7 : decode prog_1_method_9_code 7 = .ok (.getfield 166, 3) := by decide +kernel
theorem dT_release_10 : decode prog_1_method_9_code 10 = .ok (.ifnonnull 13, 3) := by decide +kernel
theorem dT_release_13 : decode prog_1_method_9_code 13 = .ok (.new 84, 3) := by decide +kernel
theorem dT_release_16 : decode prog_1_method_9_code 16 = .ok (.dup, 1) := by decide +kernel
theorem dT_release_17 : decode prog_1_method_9_code 17 = .ok (.ldc 195, 2) := by decide +kernel
theorem dT_release_19 : decode prog_1_method_9_code 19 = .ok (.invokespecial 88, 3) := by decide +kernel
theorem dT_release_22 : decode prog_1_method_9_code 22 = .ok (.athrow, 1) := by decide +kernel
theorem dT_release_23 : decode prog_1_method_9_code 23 = .ok (.aload_n 2, 1) := by decide +kernel
theorem dT_release_24 : decode prog_1_method_9_code 24 = .ok (.getfield 60, 3) := by decide +kernel
theorem dT_release_27 : decode prog_1_method_9_code 27 = .ok (.getstatic 130, 3) := by decide +kernel
theorem dT_release_30 : decode prog_1_method_9_code 30 = .ok (.if_acmp .eq 11, 3) := by decide +kernel
theorem dT_release_33 : decode prog_1_method_9_code 33 = .ok (.aload_n 0, 1) := by decide +kernel
theorem dT_release_34 : decode prog_1_method_9_code 34 = .ok (.aload_n 2, 1) := by decide +kernel
theorem dT_release_35 : decode prog_1_method_9_code 35 = .ok (.invokevirtual 197, 3) := by decide +kernel
theorem dT_release_38 : decode prog_1_method_9_code 38 = .ok (.ifCond .eq 13, 3) := by decide +kernel
theorem dT_release_41 : decode prog_1_method_9_code 41 = .ok (.new 102, 3) := by decide +kernel
theorem dT_release_44 : decode prog_1_method_9_code 44 = .ok (.dup, 1) := by decide +kernel
theorem dT_release_45 : decode prog_1_method_9_code 45 = .ok (.ldc 201, 2) := by decide +kernel
theorem dT_release_47 : decode prog_1_method_9_code 47 = .ok (.invokespecial 106, 3) := by decide +kernel
theorem dT_release_50 : decode prog_1_method_9_code 50 = .ok (.athrow, 1) := by decide +kernel
theorem dT_release_51 : decode prog_1_method_9_code 51 = .ok (.aload_n 2, 1) := by decide +kernel
theorem dT_release_52 : decode prog_1_method_9_code 52 = .ok (.getfield 60, 3) := by decide +kernel
theorem dT_release_55 : decode prog_1_method_9_code 55 = .ok (.getstatic 54, 3) := by decide +kernel
theorem dT_release_58 : decode prog_1_method_9_code 58 = .ok (.if_acmp .ne 7, 3) := by decide +kernel
theorem dT_release_61 : decode prog_1_method_9_code 61 = .ok (.iconst 1, 1) := by decide +kernel
theorem dT_release_62 : decode prog_1_method_9_code 62 = .ok (.goto 4, 3) := by decide +kernel
theorem dT_release_65 : decode prog_1_method_9_code 65 = .ok (.iconst 0, 1) := by decide +kernel
theorem dT_release_66 : decode prog_1_method_9_code 66 = .ok (.istore_n 3, 1) := by decide +kernel
theorem dT_release_67 : decode prog_1_method_9_code 67 = .ok (.aload_n 2, 1) := by decide +kernel
theorem dT_release_68 : decode prog_1_method_9_code 68 = .ok (.getstatic 130, 3) := by decide +kernel
theorem dT_release_71 : decode prog_1_method_9_code 71 = .ok (.putfield 60, 3) := by decide +kernel
theorem dT_release_74 : decode prog_1_method_9_code 74 = .ok (.iload_n 3, 1) := by decide +kernel
theorem dT_release_75 : decode prog_1_method_9_code 75 = .ok (.ifCond .ne 5, 3) := by decide +kernel
theorem dT_release_78 : decode prog_1_method_9_code 78 = .ok (.iconst 0, 1) := by decide +kernel
theorem dT_release_79 : decode prog_1_method_9_code 79 = .ok (.ireturn, 1) := by decide +kernel
theorem dT_release_80 : decode prog_1_method_9_code 80 = .ok (.aload_n 0, 1) := by decide +kernel
theorem dT_release_81 : decode prog_1_method_9_code 81 = .ok (.aload_n 2, 1) := by decide +kernel
theorem dT_release_82 : decode prog_1_method_9_code 82 = .ok (.getfield 67, 3) := by decide +kernel
theorem dT_release_85 : decode prog_1_method_9_code 85 = .ok (.invokevirtual 203, 3) := by decide +kernel
theorem dT_release_88 : decode prog_1_method_9_code 88 = .ok (.aload_n 0, 1) := by decide +kernel
theorem dT_release_89 : decode prog_1_method_9_code 89 = .ok (.aload_n 2, 1) := by decide +kernel
theorem dT_release_90 : decode prog_1_method_9_code 90 = .ok (.getfield 63, 3) := by decide +kernel
theorem dT_release_93 : decode prog_1_method_9_code 93 = .ok (.invokevirtual 203, 3) := by decide +kernel
theorem dT_release_96 : decode prog_1_method_9_code 96 = .ok (.iadd, 1) := by decide +kernel
theorem dT_release_97 : decode prog_1_method_9_code 97 = .ok (.aload_n 0, 1) := by decide +kernel
theorem dT_release_98 : decode prog_1_method_9_code 98 = .ok (.aload_n 2, 1) := by decide +kernel
theorem dT_release_99 : decode prog_1_method_9_code 99 = .ok (.getfield 185, 3) := by decide +kernel
theorem dT_release_102 : decode prog_1_method_9_code 102 = .ok (.invokevirtual 203, 3) := by decide +kernel
theorem dT_release_105 : decode prog_1_method_9_code 105 = .ok (.iadd, 1) := by decide +kernel
theorem dT_release_106 : decode prog_1_method_9_code 106 = .ok (.ireturn, 1) := by decide +kernel
theorem dT_loader_0 : decode prog_1_method_10_code 0 = .ok (.aload_n 0, 1) := by decide +kernel
theorem dT_loader_1 : decode prog_1_method_10_code 1 = .ok (.iload_n 1, 1) := by decide +kernel
theorem dT_loader_2 : decode prog_1_method_10_code 2 = .ok (.invokevirtual 126, 3) := by decide +kernel
theorem dT_loader_5 : decode prog_1_method_10_code 5 = .ok (.astore_n 3, 1) := by decide +kernel
theorem dT_loader_6 : decode prog_1_method_10_code 6 = .ok (.aload_n 3, 1) := by decide +kernel
theorem dT_loader_7 : decode prog_1_method_10_code 7 = .ok (.getfield 60, 3) := by decide +kernel
theorem dT_loader_10 : decode prog_1_method_10_code 10 = .ok (.getstatic 54, 3) := by decide +kernel
theorem dT_loader_13 : decode prog_1_method_10_code 13 = .ok (.if_acmp .eq 5, 3) := by decide +kernel
theorem dT_loader_16 : decode prog_1_method_10_code 16 = .ok (.iconst (-1), 1) := by decide +kernel
theorem dT_loader_17 : decode prog_1_method_10_code 17 = .ok (.ireturn, 1) := by decide +kernel
theorem dT_loader_18 : decode prog_1_method_10_code 18 = .ok (.iload_n 2, 1) := by decide +kernel
theorem dT_loader_19 : decode prog_1_method_10_code 19 = .ok (.ifCond .eq 13, 3) := by decide +kernel
theorem dT_loader_22 : decode prog_1_method_10_code 22 = .ok (.aload_n 3, 1) := by decide +kernel
theorem dT_loader_23 : decode prog_1_method_10_code 23 = .ok (.getfield 63, 3) := by decide +kernel
theorem dT_loader_26 : decode prog_1_method_10_code 26 = .ok (.getfield 192, 3) := by decide +kernel
theorem dT_loader_29 : decode prog_1_method_10_code 29 = .ok (.goto 10, 3) := by decide +kernel
theorem dT_loader_32 : decode prog_1_method_10_code 32 = .ok (.aload_n 3, 1) := by decide +kernel
theorem dT_loader_33 : decode prog_1_method_10_code 33 = .ok (.getfield 67, 3) := by decide +kernel
theorem dT_loader_36 : decode prog_1_method_10_code 36 = .ok (.getfield 192, 3) := by decide +kernel
theorem dT_loader_39 : decode prog_1_method_10_code 39 = .ok (.ireturn, 1) := by decide +kernel
theorem dT_look_0 : decode prog_1_method_11_code 0 = .ok (.iload_n 1, 1) := by decide +kernel
theorem dT_look_1 : decode prog_1_method_11_code 1 = .ok (.bipush 41, 2) := by decide +kernel
theorem dT_look_3 : decode prog_1_method_11_code 3 = .ok (.invokestatic 80, 3) := by decide +kernel
theorem dT_look_6 : decode prog_1_method_11_code 6 = .ok (.ifCond .eq 12, 3) := by decide +kernel
theorem dT_look_9 : decode prog_1_method_11_code 9 = .ok (.aload_n 0, 1) := by decide +kernel
theorem dT_look_10 : decode prog_1_method_11_code 10 = .ok (.getfield 23, 3) := by decide +kernel
theorem dT_look_13 : decode prog_1_method_11_code 13 = .ok (.iload_n 1, 1) := by decide +kernel
theorem dT_look_14 : decode prog_1_method_11_code 14 = .ok (.aaload, 1) := by decide +kernel
theorem dT_look_15 : decode prog_1_method_11_code 15 = .ok (.ifnonnull 5, 3) := by decide +kernel
theorem dT_look_18 : decode prog_1_method_11_code 18 = .ok (.iconst (-1), 1) := by decide +kernel
theorem dT_look_19 : decode prog_1_method_11_code 19 = .ok (.ireturn, 1) := by decide +kernel
theorem dT_look_20 : decode prog_1_method_11_code 20 = .ok (.aload_n 0, 1) := by decide +kernel
theorem dT_look_21 : decode prog_1_method_11_code 21 = .ok (.getfield 23, 3) := by decide +kernel
theorem dT_look_24 : decode prog_1_method_11_code 24 = .ok (.iload_n 1, 1) := by decide +kernel
theorem dT_look_25 : decode prog_1_method_11_code 25 = .ok (.aaload, 1) := by decide +kernel
theorem dT_look_26 : decode prog_1_method_11_code 26 = .ok (.astore_n 3, 1) := by decide +kernel
theorem dT_look_27 : decode prog_1_method_11_code 27 = .ok (.iload_n 2, 1) := by decide +kernel
theorem dT_look_28 : decode prog_1_method_11_code 28 = .ok (.tableswitch 66 0 3 #[32, 37, 56, 61], 32) := by decide +kernel
theorem dT_look_60 : decode prog_1_method_11_code 60 = .ok (.aload_n 3, 1) := by decide +kernel
theorem dT_look_61 : decode prog_1_method_11_code 61 = .ok (.getfield 207, 3) := by decide +kernel
theorem dT_look_64 : decode prog_1_method_11_code 64 = .ok (.ireturn, 1) := by decide +kernel
theorem dT_look_65 : decode prog_1_method_11_code 65 = .ok (.aload_n 3, 1) := by decide +kernel
theorem dT_look_66 : decode prog_1_method_11_code 66 = .ok (.getfield 210, 3) := by decide +kernel
theorem dT_look_69 : decode prog_1_method_11_code 69 = .ok (.ifnonnull 7, 3) := by decide +kernel
theorem dT_look_72 : decode prog_1_method_11_code 72 = .ok (.iconst (-1), 1) := by decide +kernel
theorem dT_look_73 : decode prog_1_method_11_code 73 = .ok (.goto 10, 3) := by decide +kernel
theorem dT_look_76 : decode prog_1_method_11_code 76 = .ok (.aload_n 3, 1) := by decide +kernel
theorem dT_look_77 : decode prog_1_method_11_code 77 = .ok (.getfield 210, 3) := by decide +kernel
theorem dT_look_80 : decode prog_1_method_11_code 80 = .ok (.getfield 192, 3) := by decide +kernel
theorem dT_look_83 : decode prog_1_method_11_code 83 = .ok (.ireturn, 1) := by decide +kernel
theorem dT_look_84 : decode prog_1_method_11_code 84 = .ok (.aload_n 3, 1) := by decide +kernel
theorem dT_look_85 : decode prog_1_method_11_code 85 = .ok (.getfield 70, 3) := by decide +kernel
theorem dT_look_88 : decode prog_1_method_11_code 88 = .ok (.ireturn, 1) := by decide +kernel
theorem dT_look_89 : decode prog_1_method_11_code 89 = .ok (.aload_n 3, 1) := by decide +kernel
theorem dT_look_90 : decode prog_1_method_11_code 90 = .ok (.getfield 212, 3) := by decide +kernel
theorem dT_look_93 : decode prog_1_method_11_code 93 = .ok (.ireturn, 1) := by decide +kernel
theorem dT_look_94 : decode prog_1_method_11_code 94 = .ok (.iconst (-1), 1) := by decide +kernel
theorem dT_look_95 : decode prog_1_method_11_code 95 = .ok (.ireturn, 1) := by decide +kernel
theorem dT_load_0 : decode prog_1_method_12_code 0 = .ok (.aload_n 0, 1) := by decide +kernel
theorem dT_load_1 : decode prog_1_method_12_code 1 = .ok (.iload_n 1, 1) := by decide +kernel
theorem dT_load_2 : decode prog_1_method_12_code 2 = .ok (.invokevirtual 126, 3) := by decide +kernel
theorem dT_load_5 : decode prog_1_method_12_code 5 = .ok (.astore_n 3, 1) := by decide +kernel
theorem dT_load_6 : decode prog_1_method_12_code 6 = .ok (.iload_n 2, 1) := by decide +kernel
theorem dT_load_7 : decode prog_1_method_12_code 7 = .ok (.bipush 64, 2) := by decide +kernel
theorem dT_load_9 : decode prog_1_method_12_code 9 = .ok (.invokestatic 80, 3) := by decide +kernel
theorem dT_load_12 : decode prog_1_method_12_code 12 = .ok (.ifCond .ne 13, 3) := by decide +kernel
theorem dT_load_15 : decode prog_1_method_12_code 15 = .ok (.new 84, 3) := by decide +kernel
theorem dT_load_18 : decode prog_1_method_12_code 18 = .ok (.dup, 1) := by decide +kernel
theorem dT_load_19 : decode prog_1_method_12_code 19 = .ok (.ldc 215, 2) := by decide +kernel
theorem dT_load_21 : decode prog_1_method_12_code 21 = .ok (.invokespecial 88, 3) := by decide +kernel
theorem dT_load_24 : decode prog_1_method_12_code 24 = .ok (.athrow, 1) := by decide +kernel
theorem dT_load_25 : decode prog_1_method_12_code 25 = .ok (.aload_n 3, 1) := by decide +kernel
theorem dT_load_26 : decode prog_1_method_12_code 26 = .ok (.invokestatic 217, 3) := by decide +kernel
theorem dT_load_29 : decode prog_1_method_12_code 29 = .ok (.aload_n 0, 1) := by decide +kernel
theorem dT_load_30 : decode prog_1_method_12_code 30 = .ok (.aload_n 3, 1) := by decide +kernel
theorem dT_load_31 : decode prog_1_method_12_code 31 = .ok (.iload_n 2, 1) := by decide +kernel
theorem dT_load_32 : decode prog_1_method_12_code 32 = .ok (.invokevirtual 220, 3) := by decide +kernel
theorem dT_load_35 : decode prog_1_method_12_code 35 = .ok (.getfield 224, 3) := by decide +kernel
theorem dT_load_38 : decode prog_1_method_12_code 38 = .ok (.ireturn, 1) := by decide +kernel
theorem dT_info_0 : decode prog_1_method_13_code 0 = .ok (.aload_n 0, 1) := by decide +kernel
theorem dT_info_1 : decode prog_1_method_13_code 1 = .ok (.iload_n 1, 1) := by decide +kernel
theorem dT_info_2 : decode prog_1_method_13_code 2 = .ok (.invokevirtual 225, 3) := by decide +kernel
theorem dT_info_5 : decode prog_1_method_13_code 5 = .ok (.astore_n 3, 1) := by decide +kernel
theorem dT_info_6 : decode prog_1_method_13_code 6 = .ok (.iload_n 2, 1) := by decide +kernel
theorem dT_info_7 : decode prog_1_method_13_code 7 = .ok (.tableswitch 80 0 3 #[29, 34, 56, 61], 29) := by decide +kernel
theorem dT_info_36 : decode prog_1_method_13_code 36 = .ok (.aload_n 3, 1) := by decide +kernel
theorem dT_info_37 : decode prog_1_method_13_code 37 = .ok (.getfield 229, 3) := by decide +kernel
theorem dT_info_40 : decode prog_1_method_13_code 40 = .ok (.ireturn, 1) := by decide +kernel
theorem dT_info_41 : decode prog_1_method_13_code 41 = .ok (.aload_n 3, 1) := by decide +kernel
theorem dT_info_42 : decode prog_1_method_13_code 42 = .ok (.getfield 232, 3) := by decide +kernel
theorem dT_info_45 : decode prog_1_method_13_code 45 = .ok (.getfield 235, 3) := by decide +kernel
theorem dT_info_48 : decode prog_1_method_13_code 48 = .ok (.ifCond .eq 7, 3) := by decide +kernel
theorem dT_info_51 : decode prog_1_method_13_code 51 = .ok (.iconst (-1), 1) := by decide +kernel
theorem dT_info_52 : decode prog_1_method_13_code 52 = .ok (.goto 10, 3) := by decide +kernel
theorem dT_info_55 : decode prog_1_method_13_code 55 = .ok (.aload_n 3, 1) := by decide +kernel
theorem dT_info_56 : decode prog_1_method_13_code 56 = .ok (.getfield 232, 3) := by decide +kernel
theorem dT_info_59 : decode prog_1_method_13_code 59 = .ok (.getfield 192, 3) := by decide +kernel
theorem dT_info_62 : decode prog_1_method_13_code 62 = .ok (.ireturn, 1) := by decide +kernel
theorem dT_info_63 : decode prog_1_method_13_code 63 = .ok (.aload_n 3, 1) := by decide +kernel
theorem dT_info_64 : decode prog_1_method_13_code 64 = .ok (.getfield 239, 3) := by decide +kernel
theorem dT_info_67 : decode prog_1_method_13_code 67 = .ok (.ireturn, 1) := by decide +kernel
theorem dT_info_68 : decode prog_1_method_13_code 68 = .ok (.aload_n 3, 1) := by decide +kernel
theorem dT_info_69 : decode prog_1_method_13_code 69 = .ok (.getfield 242, 3) := by decide +kernel
theorem dT_info_72 : decode prog_1_method_13_code 72 = .ok (.ifnonnull 7, 3) := by decide +kernel
theorem dT_info_75 : decode prog_1_method_13_code 75 = .ok (.iconst (-1), 1) := by decide +kernel
theorem dT_info_76 : decode prog_1_method_13_code 76 = .ok (.goto 10, 3) := by decide +kernel
theorem dT_info_79 : decode prog_1_method_13_code 79 = .ok (.aload_n 3, 1) := by decide +kernel
theorem dT_info_80 : decode prog_1_method_13_code 80 = .ok (.getfield 242, 3) := by decide +kernel
theorem dT_info_83 : decode prog_1_method_13_code 83 = .ok (.getfield 224, 3) := by decide +kernel
theorem dT_info_86 : decode prog_1_method_13_code 86 = .ok (.ireturn, 1) := by decide +kernel
theorem dT_info_87 : decode prog_1_method_13_code 87 = .ok (.new 246, 3) := by decide +kernel
theorem dT_info_90 : decode prog_1_method_13_code 90 = .ok (.dup, 1) := by decide +kernel
theorem dT_info_91 : decode prog_1_method_13_code 91 = .ok (.ldc 248, 2) := by decide +kernel
theorem dT_info_93 : decode prog_1_method_13_code 93 = .ok (.invokespecial 250, 3) := by decide +kernel
theorem dT_info_96 : decode prog_1_method_13_code 96 = .ok (.athrow, 1) := by decide +kernel
theorem dT_isA_0 : decode prog_1_method_14_code 0 = .ok (.aload_n 0, 1) := by decide +kernel
theorem dT_isA_1 : decode prog_1_method_14_code 1 = .ok (.iload_n 1, 1) := by decide +kernel
theorem dT_isA_2 : decode prog_1_method_14_code 2 = .ok (.invokevirtual 225, 3) := by decide +kernel
theorem dT_isA_5 : decode prog_1_method_14_code 5 = .ok (.aload_n 0, 1) := by decide +kernel
theorem dT_isA_6 : decode prog_1_method_14_code 6 = .ok (.iload_n 2, 1) := by decide +kernel
theorem dT_isA_7 : decode prog_1_method_14_code 7 = .ok (.invokevirtual 225, 3) := by decide +kernel
theorem dT_isA_10 : decode prog_1_method_14_code 10 = .ok (.invokestatic 251, 3) := by decide +kernel
theorem dT_isA_13 : decode prog_1_method_14_code 13 = .ok (.ireturn, 1) := by decide +kernel
theorem dT_apply_0 : decode prog_1_method_15_code 0 = .ok (.aload_n 0, 1) := by decide +kernel
theorem dT_apply_1 : decode prog_1_method_15_code 1 = .ok (.iload_n 1, 1) := by decide +kernel
theorem dT_apply_2 : decode prog_1_method_15_code 2 = .ok (.invokevirtual 126, 3) := by decide +kernel
theorem dT_apply_5 : decode prog_1_method_15_code 5 = .ok (.astore_n 3, 1) := by decide +kernel
theorem dT_apply_6 : decode prog_1_method_15_code 6 = .ok (.iload_n 2, 1) := by decide +kernel
theorem dT_apply_7 : decode prog_1_method_15_code 7 = .ok (.bipush 10, 2) := by decide +kernel
theorem dT_apply_9 : decode prog_1_method_15_code 9 = .ok (.invokestatic 80, 3) := by decide +kernel
theorem dT_apply_12 : decode prog_1_method_15_code 12 = .ok (.ifCond .ne 13, 3) := by decide +kernel
theorem dT_apply_15 : decode prog_1_method_15_code 15 = .ok (.new 84, 3) := by decide +kernel
theorem dT_apply_18 : decode prog_1_method_15_code 18 = .ok (.dup, 1) := by decide +kernel
theorem dT_apply_19 : decode prog_1_method_15_code 19 = .ok (.ldc 255, 2) := by decide +kernel
theorem dT_apply_21 : decode prog_1_method_15_code 21 = .ok (.invokespecial 88, 3) := by decide +kernel
theorem dT_apply_24 : decode prog_1_method_15_code 24 = .ok (.athrow, 1) := by decide +kernel
theorem dT_apply_25 : decode prog_1_method_15_code 25 = .ok (.aload_n 3, 1) := by decide +kernel
theorem dT_apply_26 : decode prog_1_method_15_code 26 = .ok (.invokestatic 217, 3) := by decide +kernel
theorem dT_apply_29 : decode prog_1_method_15_code 29 = .ok (.aload_n 3, 1) := by decide +kernel
theorem dT_apply_30 : decode prog_1_method_15_code 30 = .ok (.getfield 67, 3) := by decide +kernel
theorem dT_apply_33 : decode prog_1_method_15_code 33 = .ok (.iload_n 2, 1) := by decide +kernel
theorem dT_apply_34 : decode prog_1_method_15_code 34 = .ok (.invokestatic 257, 3) := by decide +kernel
theorem dT_apply_37 : decode prog_1_method_15_code 37 = .ok (.astore 4, 2) := by decide +kernel
theorem dT_apply_39 : decode prog_1_method_15_code 39 = .ok (.aload 4, 2) := by decide +kernel
theorem dT_apply_41 : decode prog_1_method_15_code 41 = .ok (.ifnonnull 5, 3) := by decide +kernel
theorem dT_apply_44 : decode prog_1_method_15_code 44 = .ok (.iconst (-1), 1) := by decide +kernel
theorem dT_apply_45 : decode prog_1_method_15_code 45 = .ok (.ireturn, 1) := by decide +kernel
theorem dT_apply_46 : decode prog_1_method_15_code 46 = .ok (.aload_n 0, 1) := by decide +kernel
theorem dT_apply_47 : decode prog_1_method_15_code 47 = .ok (.aload_n 3, 1) := by decide +kernel
theorem dT_apply_48 : decode prog_1_method_15_code 48 = .ok (.aload 4, 2) := by decide +kernel
theorem dT_apply_50 : decode prog_1_method_15_code 50 = .ok (.getfield 261, 3) := by decide +kernel
theorem dT_apply_53 : decode prog_1_method_15_code 53 = .ok (.invokevirtual 220, 3) := by decide +kernel
theorem dT_apply_56 : decode prog_1_method_15_code 56 = .ok (.astore 5, 2) := by decide +kernel
theorem dT_apply_58 : decode prog_1_method_15_code 58 = .ok (.aload_n 3, 1) := by decide +kernel
theorem dT_apply_59 : decode prog_1_method_15_code 59 = .ok (.aload 5, 2) := by decide +kernel
theorem dT_apply_61 : decode prog_1_method_15_code 61 = .ok (.invokevirtual 262, 3) := by decide +kernel
theorem dT_apply_64 : decode prog_1_method_15_code 64 = .ok (.ifCond .eq 5, 3) := by decide +kernel
theorem dT_apply_67 : decode prog_1_method_15_code 67 = .ok (.iconst 0, 1) := by decide +kernel
theorem dT_apply_68 : decode prog_1_method_15_code 68 = .ok (.ireturn, 1) := by decide +kernel
theorem dT_apply_69 : decode prog_1_method_15_code 69 = .ok (.aload 5, 2) := by decide +kernel
theorem dT_apply_71 : decode prog_1_method_15_code 71 = .ok (.aload_n 0, 1) := by decide +kernel
theorem dT_apply_72 : decode prog_1_method_15_code 72 = .ok (.getfield 29, 3) := by decide +kernel
theorem dT_apply_75 : decode prog_1_method_15_code 75 = .ok (.iconst 1, 1) := by decide +kernel
theorem dT_apply_76 : decode prog_1_method_15_code 76 = .ok (.aaload, 1) := by decide +kernel
theorem dT_apply_77 : decode prog_1_method_15_code 77 = .ok (.invokestatic 251, 3) := by decide +kernel
theorem dT_apply_80 : decode prog_1_method_15_code 80 = .ok (.ifCond .ne 6, 3) := by decide +kernel
theorem dT_apply_83 : decode prog_1_method_15_code 83 = .ok (.bipush (-2), 2) := by decide +kernel
theorem dT_apply_85 : decode prog_1_method_15_code 85 = .ok (.ireturn, 1) := by decide +kernel
theorem dT_apply_86 : decode prog_1_method_15_code 86 = .ok (.aload_n 3, 1) := by decide +kernel
theorem dT_apply_87 : decode prog_1_method_15_code 87 = .ok (.aload 5, 2) := by decide +kernel
theorem dT_apply_89 : decode prog_1_method_15_code 89 = .ok (.invokevirtual 266, 3) := by decide +kernel
theorem dT_apply_92 : decode prog_1_method_15_code 92 = .ok (.ifCond .eq 7, 3) := by decide +kernel
theorem dT_apply_95 : decode prog_1_method_15_code 95 = .ok (.iconst 1, 1) := by decide +kernel
theorem dT_apply_96 : decode prog_1_method_15_code 96 = .ok (.goto 5, 3) := by decide +kernel
theorem dT_apply_99 : decode prog_1_method_15_code 99 = .ok (.bipush (-3), 2) := by decide +kernel
theorem dT_apply_101 : decode prog_1_method_15_code 101 = .ok (.ireturn, 1) := by decide +kernel
theorem dT_applied_0 : decode prog_1_method_16_code 0 = .ok (.aload_n 0, 1) := by decide +kernel
theorem dT_applied_1 : decode prog_1_method_16_code 1 = .ok (.iload_n 1, 1) := by decide +kernel
theorem dT_applied_2 : decode prog_1_method_16_code 2 = .ok (.invokevirtual 126, 3) := by decide +kernel
theorem dT_applied_5 : decode prog_1_method_16_code 5 = .ok (.astore_n 3, 1) := by decide +kernel
theorem dT_applied_6 : decode prog_1_method_16_code 6 = .ok (.iload_n 2, 1) := by decide +kernel
theorem dT_applied_7 : decode prog_1_method_16_code 7 = .ok (.aload_n 3, 1) := by decide +kernel
theorem dT_applied_8 : decode prog_1_method_16_code 8 = .ok (.getfield 269, 3) := by decide +kernel
theorem dT_applied_11 : decode prog_1_method_16_code 11 = .ok (.invokestatic 80, 3) := by decide +kernel
theorem dT_applied_14 : decode prog_1_method_16_code 14 = .ok (.ifCond .eq 15, 3) := by decide +kernel
theorem dT_applied_17 : decode prog_1_method_16_code 17 = .ok (.aload_n 3, 1) := by decide +kernel
theorem dT_applied_18 : decode prog_1_method_16_code 18 = .ok (.getfield 272, 3) := by decide +kernel
theorem dT_applied_21 : decode prog_1_method_16_code 21 = .ok (.iload_n 2, 1) := by decide +kernel
theorem dT_applied_22 : decode prog_1_method_16_code 22 = .ok (.aaload, 1) := by decide +kernel
theorem dT_applied_23 : decode prog_1_method_16_code 23 = .ok (.getfield 224, 3) := by decide +kernel
theorem dT_applied_26 : decode prog_1_method_16_code 26 = .ok (.goto 4, 3) := by decide +kernel
theorem dT_applied_29 : decode prog_1_method_16_code 29 = .ok (.iconst (-1), 1) := by decide +kernel
theorem dT_applied_30 : decode prog_1_method_16_code 30 = .ok (.ireturn, 1) := by decide +kernel
theorem dT_isBelow_0 : decode prog_1_method_17_code 0 = .ok (.iload_n 0, 1) := by decide +kernel
theorem dT_isBelow_1 : decode prog_1_method_17_code 1 = .ok (.ifCond .lt 12, 3) := by decide +kernel
theorem dT_isBelow_4 : decode prog_1_method_17_code 4 = .ok (.iload_n 0, 1) := by decide +kernel
theorem dT_isBelow_5 : decode prog_1_method_17_code 5 = .ok (.iload_n 1, 1) := by decide +kernel
theorem dT_isBelow_6 : decode prog_1_method_17_code 6 = .ok (.if_icmp .ge 7, 3) := by decide +kernel
theorem dT_isBelow_9 : decode prog_1_method_17_code 9 = .ok (.iconst 1, 1) := by decide +kernel
theorem dT_isBelow_10 : decode prog_1_method_17_code 10 = .ok (.goto 4, 3) := by decide +kernel
theorem dT_isBelow_13 : decode prog_1_method_17_code 13 = .ok (.iconst 0, 1) := by decide +kernel
theorem dT_isBelow_14 : decode prog_1_method_17_code 14 = .ok (.ireturn, 1) := by decide +kernel
theorem dT_archiveAt_0 : decode prog_1_method_18_code 0 = .ok (.iload_n 1, 1) := by decide +kernel
theorem dT_archiveAt_1 : decode prog_1_method_18_code 1 = .ok (.bipush 10, 2) := by decide +kernel
theorem dT_archiveAt_3 : decode prog_1_method_18_code 3 = .ok (.invokestatic 80, 3) := by decide +kernel
theorem dT_archiveAt_6 : decode prog_1_method_18_code 6 = .ok (.ifCond .ne 13, 3) := by decide +kernel
theorem dT_archiveAt_9 : decode prog_1_method_18_code 9 = .ok (.new 84, 3) := by decide +kernel
theorem dT_archiveAt_12 : decode prog_1_method_18_code 12 = .ok (.dup, 1) := by decide +kernel
theorem dT_archiveAt_13 : decode prog_1_method_18_code 13 = .ok (.ldc 137, 2) := by decide +kernel
theorem dT_archiveAt_15 : decode prog_1_method_18_code 15 = .ok (.invokespecial 88, 3) := by decide +kernel
theorem dT_archiveAt_18 : decode prog_1_method_18_code 18 = .ok (.athrow, 1) := by decide +kernel
theorem dT_archiveAt_19 : decode prog_1_method_18_code 19 = .ok (.aload_n 0, 1) := by decide +kernel
theorem dT_archiveAt_20 : decode prog_1_method_18_code 20 = .ok (.getfield 11, 3) := by decide +kernel
theorem dT_archiveAt_23 : decode prog_1_method_18_code 23 = .ok (.iload_n 1, 1) := by decide +kernel
theorem dT_archiveAt_24 : decode prog_1_method_18_code 24 = .ok (.aaload, 1) := by decide +kernel
theorem dT_archiveAt_25 : decode prog_1_method_18_code 25 = .ok (.areturn, 1) := by decide +kernel
theorem dT_scopeAt_0 : decode prog_1_method_19_code 0 = .ok (.iload_n 1, 1) := by decide +kernel
theorem dT_scopeAt_1 : decode prog_1_method_19_code 1 = .ok (.aload_n 0, 1) := by decide +kernel
theorem dT_scopeAt_2 : decode prog_1_method_19_code 2 = .ok (.getfield 73, 3) := by decide +kernel
theorem dT_scopeAt_5 : decode prog_1_method_19_code 5 = .ok (.invokestatic 80, 3) := by decide +kernel
theorem dT_scopeAt_8 : decode prog_1_method_19_code 8 = .ok (.ifCond .ne 14, 3) := by decide +kernel
theorem dT_scopeAt_11 : decode prog_1_method_19_code 11 = .ok (.new 84, 3) := by decide +kernel
theorem dT_scopeAt_14 : decode prog_1_method_19_code 14 = .ok (.dup, 1) := by decide +kernel
theorem dT_scopeAt_15 : decode prog_1_method_19_code 15 = .ok (.ldc_w 275, 3) := by decide +kernel
theorem dT_scopeAt_18 : decode prog_1_method_19_code 18 = .ok (.invokespecial 88, 3) := by decide +kernel
theorem dT_scopeAt_21 : decode prog_1_method_19_code 21 = .ok (.athrow, 1) := by decide +kernel
theorem dT_scopeAt_22 : decode prog_1_method_19_code 22 = .ok (.aload_n 0, 1) := by decide +kernel
theorem dT_scopeAt_23 : decode prog_1_method_19_code 23 = .ok (.getfield 17, 3) := by decide +kernel
theorem dT_scopeAt_26 : decode prog_1_method_19_code 26 = .ok (.iload_n 1, 1) := by decide +kernel
theorem dT_scopeAt_27 : decode prog_1_method_19_code 27 = .ok (.aaload, 1) := by decide +kernel
theorem dT_scopeAt_28 : decode prog_1_method_19_code 28 = .ok (.areturn, 1) := by decide +kernel
theorem dT_typeAt_0 : decode prog_1_method_20_code 0 = .ok (.iload_n 1, 1) := by decide +kernel
theorem dT_typeAt_1 : decode prog_1_method_20_code 1 = .ok (.aload_n 0, 1) := by decide +kernel
theorem dT_typeAt_2 : decode prog_1_method_20_code 2 = .ok (.getfield 47, 3) := by decide +kernel
theorem dT_typeAt_5 : decode prog_1_method_20_code 5 = .ok (.invokestatic 80, 3) := by decide +kernel
theorem dT_typeAt_8 : decode prog_1_method_20_code 8 = .ok (.ifCond .ne 14, 3) := by decide +kernel
theorem dT_typeAt_11 : decode prog_1_method_20_code 11 = .ok (.new 246, 3) := by decide +kernel
theorem dT_typeAt_14 : decode prog_1_method_20_code 14 = .ok (.dup, 1) := by decide +kernel
theorem dT_typeAt_15 : decode prog_1_method_20_code 15 = .ok (.ldc_w 277, 3) := by decide +kernel
theorem dT_typeAt_18 : decode prog_1_method_20_code 18 = .ok (.invokespecial 250, 3) := by decide +kernel
theorem dT_typeAt_21 : decode prog_1_method_20_code 21 = .ok (.athrow, 1) := by decide +kernel
theorem dT_typeAt_22 : decode prog_1_method_20_code 22 = .ok (.aload_n 0, 1) := by decide +kernel
theorem dT_typeAt_23 : decode prog_1_method_20_code 23 = .ok (.getfield 29, 3) := by decide +kernel
theorem dT_typeAt_26 : decode prog_1_method_20_code 26 = .ok (.iload_n 1, 1) := by decide +kernel
theorem dT_typeAt_27 : decode prog_1_method_20_code 27 = .ok (.aaload, 1) := by decide +kernel
theorem dT_typeAt_28 : decode prog_1_method_20_code 28 = .ok (.areturn, 1) := by decide +kernel
theorem dT_requireOpen_0 : decode prog_1_method_21_code 0 = .ok (.aload_n 0, 1) := by decide +kernel
theorem dT_requireOpen_1 : decode prog_1_method_21_code 1 = .ok (.getfield 60, 3) := by decide +kernel
theorem dT_requireOpen_4 : decode prog_1_method_21_code 4 = .ok (.getstatic 279, 3) := by decide +kernel
theorem dT_requireOpen_7 : decode prog_1_method_21_code 7 = .ok (.if_acmp .eq 14, 3) := by decide +kernel
theorem dT_requireOpen_10 : decode prog_1_method_21_code 10 = .ok (.new 102, 3) := by decide +kernel
theorem dT_requireOpen_13 : decode prog_1_method_21_code 13 = .ok (.dup, 1) := by decide +kernel
theorem dT_requireOpen_14 : decode prog_1_method_21_code 14 = .ok (.ldc_w 282, 3) := by decide +kernel
theorem dT_requireOpen_17 : decode prog_1_method_21_code 17 = .ok (.invokespecial 106, 3) := by decide +kernel
theorem dT_requireOpen_20 : decode prog_1_method_21_code 20 = .ok (.athrow, 1) := by decide +kernel
theorem dT_requireOpen_21 : decode prog_1_method_21_code 21 = .ok (.return_, 1) := by decide +kernel
theorem dT_requireLocked_0 : decode prog_1_method_22_code 0 = .ok (.aload_n 0, 1) := by decide +kernel
theorem dT_requireLocked_1 : decode prog_1_method_22_code 1 = .ok (.getfield 60, 3) := by decide +kernel
theorem dT_requireLocked_4 : decode prog_1_method_22_code 4 = .ok (.getstatic 54, 3) := by decide +kernel
theorem dT_requireLocked_7 : decode prog_1_method_22_code 7 = .ok (.if_acmp .eq 14, 3) := by decide +kernel
theorem dT_requireLocked_10 : decode prog_1_method_22_code 10 = .ok (.new 102, 3) := by decide +kernel
theorem dT_requireLocked_13 : decode prog_1_method_22_code 13 = .ok (.dup, 1) := by decide +kernel
theorem dT_requireLocked_14 : decode prog_1_method_22_code 14 = .ok (.ldc_w 284, 3) := by decide +kernel
theorem dT_requireLocked_17 : decode prog_1_method_22_code 17 = .ok (.invokespecial 106, 3) := by decide +kernel
theorem dT_requireLocked_20 : decode prog_1_method_22_code 20 = .ok (.athrow, 1) := by decide +kernel
theorem dT_requireLocked_21 : decode prog_1_method_22_code 21 = .ok (.return_, 1) := by decide +kernel
theorem dT_hasChildLeft_0 : decode prog_1_method_23_code 0 = .ok (.iconst 0, 1) := by decide +kernel
theorem dT_hasChildLeft_1 : decode prog_1_method_23_code 1 = .ok (.istore_n 2, 1) := by decide +kernel
theorem dT_hasChildLeft_2 : decode prog_1_method_23_code 2 = .ok (.iload_n 2, 1) := by decide +kernel
theorem dT_hasChildLeft_3 : decode prog_1_method_23_code 3 = .ok (.aload_n 0, 1) := by decide +kernel
theorem dT_hasChildLeft_4 : decode prog_1_method_23_code 4 = .ok (.getfield 73, 3) := by decide +kernel
theorem dT_hasChildLeft_7 : decode prog_1_method_23_code 7 = .ok (.if_icmp .ge 39, 3) := by decide +kernel
theorem dT_hasChildLeft_10 : decode prog_1_method_23_code 10 = .ok (.aload_n 0, 1) := by decide +kernel
theorem dT_hasChildLeft_11 : decode prog_1_method_23_code 11 = .ok (.getfield 17, 3) := by decide +kernel
theorem dT_hasChildLeft_14 : decode prog_1_method_23_code 14 = .ok (.iload_n 2, 1) := by decide +kernel
theorem dT_hasChildLeft_15 : decode prog_1_method_23_code 15 = .ok (.aaload, 1) := by decide +kernel
theorem dT_hasChildLeft_16 : decode prog_1_method_23_code 16 = .ok (.getfield 166, 3) := by decide +kernel
theorem dT_hasChildLeft_19 : decode prog_1_method_23_code 19 = .ok (.aload_n 1, 1) := by decide +kernel
theorem dT_hasChildLeft_20 : decode prog_1_method_23_code 20 = .ok (.if_acmp .ne 20, 3) := by decide +kernel
theorem dT_hasChildLeft_23 : decode prog_1_method_23_code 23 = .ok (.aload_n 0, 1) := by decide +kernel
theorem dT_hasChildLeft_24 : decode prog_1_method_23_code 24 = .ok (.getfield 17, 3) := by decide +kernel
theorem dT_hasChildLeft_27 : decode prog_1_method_23_code 27 = .ok (.iload_n 2, 1) := by decide +kernel
theorem dT_hasChildLeft_28 : decode prog_1_method_23_code 28 = .ok (.aaload, 1) := by decide +kernel
theorem dT_hasChildLeft_29 : decode prog_1_method_23_code 29 = .ok (.getfield 60, 3) := by decide +kernel
theorem dT_hasChildLeft_32 : decode prog_1_method_23_code 32 = .ok (.getstatic 130, 3) := by decide +kernel
theorem dT_hasChildLeft_35 : decode prog_1_method_23_code 35 = .ok (.if_acmp .eq 5, 3) := by decide +kernel
theorem dT_hasChildLeft_38 : decode prog_1_method_23_code 38 = .ok (.iconst 1, 1) := by decide +kernel
theorem dT_hasChildLeft_39 : decode prog_1_method_23_code 39 = .ok (.ireturn, 1) := by decide +kernel
theorem dT_hasChildLeft_40 : decode prog_1_method_23_code 40 = .ok (.iinc 2 1, 3) := by decide +kernel
theorem dT_hasChildLeft_43 : decode prog_1_method_23_code 43 = .ok (.goto (-41), 3) := by decide +kernel
theorem dT_hasChildLeft_46 : decode prog_1_method_23_code 46 = .ok (.iconst 0, 1) := by decide +kernel
theorem dT_hasChildLeft_47 : decode prog_1_method_23_code 47 = .ok (.ireturn, 1) := by decide +kernel
theorem dT_freeLoaderNumbers_0 : decode prog_1_method_24_code 0 = .ok (.iconst 0, 1) := by decide +kernel
theorem dT_freeLoaderNumbers_1 : decode prog_1_method_24_code 1 = .ok (.istore_n 1, 1) := by decide +kernel
theorem dT_freeLoaderNumbers_2 : decode prog_1_method_24_code 2 = .ok (.iconst 1, 1) := by decide +kernel
theorem dT_freeLoaderNumbers_3 : decode prog_1_method_24_code 3 = .ok (.istore_n 2, 1) := by decide +kernel
theorem dT_freeLoaderNumbers_4 : decode prog_1_method_24_code 4 = .ok (.iload_n 2, 1) := by decide +kernel
theorem dT_freeLoaderNumbers_5 : decode prog_1_method_24_code 5 = .ok (.bipush 41, 2) := by decide +kernel
theorem dT_freeLoaderNumbers_7 : decode prog_1_method_24_code 7 = .ok (.if_icmp .ge 21, 3) := by decide +kernel
theorem dT_freeLoaderNumbers_10 : decode prog_1_method_24_code 10 = .ok (.aload_n 0, 1) := by decide +kernel
theorem dT_freeLoaderNumbers_11 : decode prog_1_method_24_code 11 = .ok (.getfield 23, 3) := by decide +kernel
theorem dT_freeLoaderNumbers_14 : decode prog_1_method_24_code 14 = .ok (.iload_n 2, 1) := by decide +kernel
theorem dT_freeLoaderNumbers_15 : decode prog_1_method_24_code 15 = .ok (.aaload, 1) := by decide +kernel
theorem dT_freeLoaderNumbers_16 : decode prog_1_method_24_code 16 = .ok (.ifnonnull 6, 3) := by decide +kernel
theorem dT_freeLoaderNumbers_19 : decode prog_1_method_24_code 19 = .ok (.iinc 1 1, 3) := by decide +kernel
theorem dT_freeLoaderNumbers_22 : decode prog_1_method_24_code 22 = .ok (.iinc 2 1, 3) := by decide +kernel
theorem dT_freeLoaderNumbers_25 : decode prog_1_method_24_code 25 = .ok (.goto (-21), 3) := by decide +kernel
theorem dT_freeLoaderNumbers_28 : decode prog_1_method_24_code 28 = .ok (.iload_n 1, 1) := by decide +kernel
theorem dT_freeLoaderNumbers_29 : decode prog_1_method_24_code 29 = .ok (.ireturn, 1) := by decide +kernel
theorem dT_wantedDefining_0 : decode prog_1_method_25_code 0 = .ok (.aload_n 1, 1) := by decide +kernel
theorem dT_wantedDefining_1 : decode prog_1_method_25_code 1 = .ok (.getfield 286, 3) := by decide +kernel
theorem dT_wantedDefining_4 : decode prog_1_method_25_code 4 = .ok (.ifCond .ne 5, 3) := by decide +kernel
theorem dT_wantedDefining_7 : decode prog_1_method_25_code 7 = .ok (.aload_n 2, 1) := by decide +kernel
theorem dT_wantedDefining_8 : decode prog_1_method_25_code 8 = .ok (.areturn, 1) := by decide +kernel
theorem dT_wantedDefining_9 : decode prog_1_method_25_code 9 = .ok (.aload_n 0, 1) := by decide +kernel
theorem dT_wantedDefining_10 : decode prog_1_method_25_code 10 = .ok (.aload_n 1, 1) := by decide +kernel
theorem dT_wantedDefining_11 : decode prog_1_method_25_code 11 = .ok (.invokevirtual 289, 3) := by decide +kernel
theorem dT_wantedDefining_14 : decode prog_1_method_25_code 14 = .ok (.astore_n 3, 1) := by decide +kernel
theorem dT_wantedDefining_15 : decode prog_1_method_25_code 15 = .ok (.iconst 1, 1) := by decide +kernel
theorem dT_wantedDefining_16 : decode prog_1_method_25_code 16 = .ok (.istore 4, 2) := by decide +kernel
theorem dT_wantedDefining_18 : decode prog_1_method_25_code 18 = .ok (.iload 4, 2) := by decide +kernel
theorem dT_wantedDefining_20 : decode prog_1_method_25_code 20 = .ok (.bipush 41, 2) := by decide +kernel
theorem dT_wantedDefining_22 : decode prog_1_method_25_code 22 = .ok (.if_icmp .ge 44, 3) := by decide +kernel
theorem dT_wantedDefining_25 : decode prog_1_method_25_code 25 = .ok (.aload_n 0, 1) := by decide +kernel
theorem dT_wantedDefining_26 : decode prog_1_method_25_code 26 = .ok (.getfield 23, 3) := by decide +kernel
theorem dT_wantedDefining_29 : decode prog_1_method_25_code 29 = .ok (.iload 4, 2) := by decide +kernel
theorem dT_wantedDefining_31 : decode prog_1_method_25_code 31 = .ok (.aaload, 1) := by decide +kernel
theorem dT_wantedDefining_32 : decode prog_1_method_25_code 32 = .ok (.astore 5, 2) := by decide +kernel
theorem dT_wantedDefining_34 : decode prog_1_method_25_code 34 = .ok (.aload 5, 2) := by decide +kernel
theorem dT_wantedDefining_36 : decode prog_1_method_25_code 36 = .ok (.ifnull 24, 3) := by decide +kernel
theorem dT_wantedDefining_39 : decode prog_1_method_25_code 39 = .ok (.aload 5, 2) := by decide +kernel
theorem dT_wantedDefining_41 : decode prog_1_method_25_code 41 = .ok (.getfield 210, 3) := by decide +kernel
theorem dT_wantedDefining_44 : decode prog_1_method_25_code 44 = .ok (.aload_n 2, 1) := by decide +kernel
theorem dT_wantedDefining_45 : decode prog_1_method_25_code 45 = .ok (.if_acmp .ne 15, 3) := by decide +kernel
theorem dT_wantedDefining_48 : decode prog_1_method_25_code 48 = .ok (.aload 5, 2) := by decide +kernel
theorem dT_wantedDefining_50 : decode prog_1_method_25_code 50 = .ok (.aload_n 3, 1) := by decide +kernel
theorem dT_wantedDefining_51 : decode prog_1_method_25_code 51 = .ok (.invokevirtual 293, 3) := by decide +kernel
theorem dT_wantedDefining_54 : decode prog_1_method_25_code 54 = .ok (.ifCond .eq 6, 3) := by decide +kernel
theorem dT_wantedDefining_57 : decode prog_1_method_25_code 57 = .ok (.aload 5, 2) := by decide +kernel
theorem dT_wantedDefining_59 : decode prog_1_method_25_code 59 = .ok (.areturn, 1) := by decide +kernel
theorem dT_wantedDefining_60 : decode prog_1_method_25_code 60 = .ok (.iinc 4 1, 3) := by decide +kernel
theorem dT_wantedDefining_63 : decode prog_1_method_25_code 63 = .ok (.goto (-45), 3) := by decide +kernel
theorem dT_wantedDefining_66 : decode prog_1_method_25_code 66 = .ok (.aload_n 0, 1) := by decide +kernel
theorem dT_wantedDefining_67 : decode prog_1_method_25_code 67 = .ok (.iconst 1, 1) := by decide +kernel
theorem dT_wantedDefining_68 : decode prog_1_method_25_code 68 = .ok (.aload_n 2, 1) := by decide +kernel
theorem dT_wantedDefining_69 : decode prog_1_method_25_code 69 = .ok (.aload_n 3, 1) := by decide +kernel
theorem dT_wantedDefining_70 : decode prog_1_method_25_code 70 = .ok (.aconst_null, 1) := by decide +kernel
theorem dT_wantedDefining_71 : decode prog_1_method_25_code 71 = .ok (.invokevirtual 297, 3) := by decide +kernel
theorem dT_wantedDefining_74 : decode prog_1_method_25_code 74 = .ok (.areturn, 1) := by decide +kernel
theorem dT_wantedFiltering_0 : decode prog_1_method_26_code 0 = .ok (.aload_n 1, 1) := by decide +kernel
theorem dT_wantedFiltering_1 : decode prog_1_method_26_code 1 = .ok (.ifnonnull 5, 3) := by decide +kernel
theorem dT_wantedFiltering_4 : decode prog_1_method_26_code 4 = .ok (.aload_n 2, 1) := by decide +kernel
theorem dT_wantedFiltering_5 : decode prog_1_method_26_code 5 = .ok (.areturn, 1) := by decide +kernel
theorem dT_wantedFiltering_6 : decode prog_1_method_26_code 6 = .ok (.iconst 1, 1) := by decide +kernel
theorem dT_wantedFiltering_7 : decode prog_1_method_26_code 7 = .ok (.istore_n 3, 1) := by decide +kernel
theorem dT_wantedFiltering_8 : decode prog_1_method_26_code 8 = .ok (.iload_n 3, 1) := by decide +kernel
theorem dT_wantedFiltering_9 : decode prog_1_method_26_code 9 = .ok (.bipush 41, 2) := by decide +kernel
theorem dT_wantedFiltering_11 : decode prog_1_method_26_code 11 = .ok (.if_icmp .ge 46, 3) := by decide +kernel
theorem dT_wantedFiltering_14 : decode prog_1_method_26_code 14 = .ok (.aload_n 0, 1) := by decide +kernel
theorem dT_wantedFiltering_15 : decode prog_1_method_26_code 15 = .ok (.getfield 23, 3) := by decide +kernel
theorem dT_wantedFiltering_18 : decode prog_1_method_26_code 18 = .ok (.iload_n 3, 1) := by decide +kernel
theorem dT_wantedFiltering_19 : decode prog_1_method_26_code 19 = .ok (.aaload, 1) := by decide +kernel
theorem dT_wantedFiltering_20 : decode prog_1_method_26_code 20 = .ok (.astore 4, 2) := by decide +kernel
theorem dT_wantedFiltering_22 : decode prog_1_method_26_code 22 = .ok (.aload 4, 2) := by decide +kernel
theorem dT_wantedFiltering_24 : decode prog_1_method_26_code 24 = .ok (.ifnull 27, 3) := by decide +kernel
theorem dT_wantedFiltering_27 : decode prog_1_method_26_code 27 = .ok (.aload 4, 2) := by decide +kernel
theorem dT_wantedFiltering_29 : decode prog_1_method_26_code 29 = .ok (.getfield 210, 3) := by decide +kernel
theorem dT_wantedFiltering_32 : decode prog_1_method_26_code 32 = .ok (.aload_n 2, 1) := by decide +kernel
theorem dT_wantedFiltering_33 : decode prog_1_method_26_code 33 = .ok (.if_acmp .ne 18, 3) := by decide +kernel
theorem dT_wantedFiltering_36 : decode prog_1_method_26_code 36 = .ok (.aload_n 1, 1) := by decide +kernel
theorem dT_wantedFiltering_37 : decode prog_1_method_26_code 37 = .ok (.aload 4, 2) := by decide +kernel
theorem dT_wantedFiltering_39 : decode prog_1_method_26_code 39 = .ok (.getfield 301, 3) := by decide +kernel
theorem dT_wantedFiltering_42 : decode prog_1_method_26_code 42 = .ok (.invokevirtual 302, 3) := by decide +kernel
theorem dT_wantedFiltering_45 : decode prog_1_method_26_code 45 = .ok (.ifCond .eq 6, 3) := by decide +kernel
theorem dT_wantedFiltering_48 : decode prog_1_method_26_code 48 = .ok (.aload 4, 2) := by decide +kernel
theorem dT_wantedFiltering_50 : decode prog_1_method_26_code 50 = .ok (.areturn, 1) := by decide +kernel
theorem dT_wantedFiltering_51 : decode prog_1_method_26_code 51 = .ok (.iinc 3 1, 3) := by decide +kernel
theorem dT_wantedFiltering_54 : decode prog_1_method_26_code 54 = .ok (.goto (-46), 3) := by decide +kernel
theorem dT_wantedFiltering_57 : decode prog_1_method_26_code 57 = .ok (.aload_n 0, 1) := by decide +kernel
theorem dT_wantedFiltering_58 : decode prog_1_method_26_code 58 = .ok (.iconst 2, 1) := by decide +kernel
theorem dT_wantedFiltering_59 : decode prog_1_method_26_code 59 = .ok (.aload_n 2, 1) := by decide +kernel
theorem dT_wantedFiltering_60 : decode prog_1_method_26_code 60 = .ok (.iconst 0, 1) := by decide +kernel
theorem dT_wantedFiltering_61 : decode prog_1_method_26_code 61 = .ok (.anewarray 9, 3) := by decide +kernel
theorem dT_wantedFiltering_64 : decode prog_1_method_26_code 64 = .ok (.aload_n 1, 1) := by decide +kernel
theorem dT_wantedFiltering_65 : decode prog_1_method_26_code 65 = .ok (.invokevirtual 297, 3) := by decide +kernel
theorem dT_wantedFiltering_68 : decode prog_1_method_26_code 68 = .ok (.areturn, 1) := by decide +kernel
theorem dT_contentsOf_0 : decode prog_1_method_27_code 0 = .ok (.aload_n 1, 1) := by decide +kernel
theorem dT_contentsOf_1 : decode prog_1_method_27_code 1 = .ok (.getfield 286, 3) := by decide +kernel
theorem dT_contentsOf_4 : decode prog_1_method_27_code 4 = .ok (.anewarray 9, 3) := by decide +kernel
theorem dT_contentsOf_7 : decode prog_1_method_27_code 7 = .ok (.astore_n 2, 1) := by decide +kernel
theorem dT_contentsOf_8 : decode prog_1_method_27_code 8 = .ok (.iconst 0, 1) := by decide +kernel
theorem dT_contentsOf_9 : decode prog_1_method_27_code 9 = .ok (.istore_n 3, 1) := by decide +kernel
theorem dT_contentsOf_10 : decode prog_1_method_27_code 10 = .ok (.iload_n 3, 1) := by decide +kernel
theorem dT_contentsOf_11 : decode prog_1_method_27_code 11 = .ok (.aload_n 1, 1) := by decide +kernel
theorem dT_contentsOf_12 : decode prog_1_method_27_code 12 = .ok (.getfield 286, 3) := by decide +kernel
theorem dT_contentsOf_15 : decode prog_1_method_27_code 15 = .ok (.if_icmp .ge 26, 3) := by decide +kernel
theorem dT_contentsOf_18 : decode prog_1_method_27_code 18 = .ok (.aload_n 2, 1) := by decide +kernel
theorem dT_contentsOf_19 : decode prog_1_method_27_code 19 = .ok (.iload_n 3, 1) := by decide +kernel
theorem dT_contentsOf_20 : decode prog_1_method_27_code 20 = .ok (.aload_n 0, 1) := by decide +kernel
theorem dT_contentsOf_21 : decode prog_1_method_27_code 21 = .ok (.getfield 11, 3) := by decide +kernel
theorem dT_contentsOf_24 : decode prog_1_method_27_code 24 = .ok (.aload_n 1, 1) := by decide +kernel
theorem dT_contentsOf_25 : decode prog_1_method_27_code 25 = .ok (.getfield 306, 3) := by decide +kernel
theorem dT_contentsOf_28 : decode prog_1_method_27_code 28 = .ok (.iload_n 3, 1) := by decide +kernel
theorem dT_contentsOf_29 : decode prog_1_method_27_code 29 = .ok (.iaload, 1) := by decide +kernel
theorem dT_contentsOf_30 : decode prog_1_method_27_code 30 = .ok (.aaload, 1) := by decide +kernel
theorem dT_contentsOf_31 : decode prog_1_method_27_code 31 = .ok (.invokevirtual 308, 3) := by decide +kernel
theorem dT_contentsOf_34 : decode prog_1_method_27_code 34 = .ok (.aastore, 1) := by decide +kernel
theorem dT_contentsOf_35 : decode prog_1_method_27_code 35 = .ok (.iinc 3 1, 3) := by decide +kernel
theorem dT_contentsOf_38 : decode prog_1_method_27_code 38 = .ok (.goto (-28), 3) := by decide +kernel
theorem dT_contentsOf_41 : decode prog_1_method_27_code 41 = .ok (.aload_n 2, 1) := by decide +kernel
theorem dT_contentsOf_42 : decode prog_1_method_27_code 42 = .ok (.areturn, 1) := by decide +kernel
theorem dT_newLoader_0 : decode prog_1_method_28_code 0 = .ok (.aload_n 0, 1) := by decide +kernel
theorem dT_newLoader_1 : decode prog_1_method_28_code 1 = .ok (.invokevirtual 312, 3) := by decide +kernel
theorem dT_newLoader_4 : decode prog_1_method_28_code 4 = .ok (.istore 5, 2) := by decide +kernel
theorem dT_newLoader_6 : decode prog_1_method_28_code 6 = .ok (.new 21, 3) := by decide +kernel
theorem dT_newLoader_9 : decode prog_1_method_28_code 9 = .ok (.dup, 1) := by decide +kernel
theorem dT_newLoader_10 : decode prog_1_method_28_code 10 = .ok (.iload 5, 2) := by decide +kernel
theorem dT_newLoader_12 : decode prog_1_method_28_code 12 = .ok (.iload_n 1, 1) := by decide +kernel
theorem dT_newLoader_13 : decode prog_1_method_28_code 13 = .ok (.aload_n 2, 1) := by decide +kernel
theorem dT_newLoader_14 : decode prog_1_method_28_code 14 = .ok (.aload_n 3, 1) := by decide +kernel
theorem dT_newLoader_15 : decode prog_1_method_28_code 15 = .ok (.aload 4, 2) := by decide +kernel
theorem dT_newLoader_17 : decode prog_1_method_28_code 17 = .ok (.invokespecial 41, 3) := by decide +kernel
theorem dT_newLoader_20 : decode prog_1_method_28_code 20 = .ok (.astore 6, 2) := by decide +kernel
theorem dT_newLoader_22 : decode prog_1_method_28_code 22 = .ok (.aload_n 0, 1) := by decide +kernel
theorem dT_newLoader_23 : decode prog_1_method_28_code 23 = .ok (.getfield 23, 3) := by decide +kernel
theorem dT_newLoader_26 : decode prog_1_method_28_code 26 = .ok (.iload 5, 2) := by decide +kernel
theorem dT_newLoader_28 : decode prog_1_method_28_code 28 = .ok (.aload 6, 2) := by decide +kernel
theorem dT_newLoader_30 : decode prog_1_method_28_code 30 = .ok (.aastore, 1) := by decide +kernel
theorem dT_newLoader_31 : decode prog_1_method_28_code 31 = .ok (.aload_n 2, 1) := by decide +kernel
theorem dT_newLoader_32 : decode prog_1_method_28_code 32 = .ok (.dup, 1) := by decide +kernel
theorem dT_newLoader_33 : decode prog_1_method_28_code 33 = .ok (.getfield 70, 3) := by decide +kernel
theorem dT_newLoader_36 : decode prog_1_method_28_code 36 = .ok (.iconst 1, 1) := by decide +kernel
theorem dT_newLoader_37 : decode prog_1_method_28_code 37 = .ok (.iadd, 1) := by decide +kernel
theorem dT_newLoader_38 : decode prog_1_method_28_code 38 = .ok (.putfield 70, 3) := by decide +kernel
theorem dT_newLoader_41 : decode prog_1_method_28_code 41 = .ok (.aload 6, 2) := by decide +kernel
theorem dT_newLoader_43 : decode prog_1_method_28_code 43 = .ok (.areturn, 1) := by decide +kernel
theorem dT_leastFreeLoaderNumber_0 : decode prog_1_method_29_code 0 = .ok (.iconst 1, 1) := by decide +kernel
theorem dT_leastFreeLoaderNumber_1 : decode prog_1_method_29_code 1 = .ok (.istore_n 1, 1) := by decide +kernel
theorem dT_leastFreeLoaderNumber_2 : decode prog_1_method_29_code 2 = .ok (.iload_n 1, 1) := by decide +kernel
theorem dT_leastFreeLoaderNumber_3 : decode prog_1_method_29_code 3 = .ok (.bipush 40, 2) := by decide +kernel
theorem dT_leastFreeLoaderNumber_5 : decode prog_1_method_29_code 5 = .ok (.if_icmp .ge 18, 3) := by decide +kernel
theorem dT_leastFreeLoaderNumber_8 : decode prog_1_method_29_code 8 = .ok (.aload_n 0, 1) := by decide +kernel
theorem dT_leastFreeLoaderNumber_9 : decode prog_1_method_29_code 9 = .ok (.getfield 23, 3) := by decide +kernel
theorem dT_leastFreeLoaderNumber_12 : decode prog_1_method_29_code 12 = .ok (.iload_n 1, 1) := by decide +kernel
theorem dT_leastFreeLoaderNumber_13 : decode prog_1_method_29_code 13 = .ok (.aaload, 1) := by decide +kernel
theorem dT_leastFreeLoaderNumber_14 : decode prog_1_method_29_code 14 = .ok (.ifnull 9, 3) := by decide +kernel
theorem dT_leastFreeLoaderNumber_17 : decode prog_1_method_29_code 17 = .ok (.iinc 1 1, 3) := by decide +kernel
theorem dT_leastFreeLoaderNumber_20 : decode prog_1_method_29_code 20 = .ok (.goto (-18), 3) := by decide +kernel
theorem dT_leastFreeLoaderNumber_23 : decode prog_1_method_29_code 23 = .ok (.iload_n 1, 1) := by decide +kernel
theorem dT_leastFreeLoaderNumber_24 : decode prog_1_method_29_code 24 = .ok (.ireturn, 1) := by decide +kernel
theorem dT_letGo_0 : decode prog_1_method_30_code 0 = .ok (.iconst 0, 1) := by decide +kernel
theorem dT_letGo_1 : decode prog_1_method_30_code 1 = .ok (.istore_n 2, 1) := by decide +kernel
theorem dT_letGo_2 : decode prog_1_method_30_code 2 = .ok (.aload_n 1, 1) := by decide +kernel
theorem dT_letGo_3 : decode prog_1_method_30_code 3 = .ok (.astore_n 3, 1) := by decide +kernel
theorem dT_letGo_4 : decode prog_1_method_30_code 4 = .ok (.aload_n 3, 1) := by decide +kernel
theorem dT_letGo_5 : decode prog_1_method_30_code 5 = .ok (.ifnull 49, 3) := by decide +kernel
theorem dT_letGo_8 : decode prog_1_method_30_code 8 = .ok (.aload_n 3, 1) := by decide +kernel
theorem dT_letGo_9 : decode prog_1_method_30_code 9 = .ok (.dup, 1) := by decide +kernel
theorem dT_letGo_10 : decode prog_1_method_30_code 10 = .ok (.getfield 70, 3) := by decide +kernel
theorem dT_letGo_13 : decode prog_1_method_30_code 13 = .ok (.iconst 1, 1) := by decide +kernel
theorem dT_letGo_14 : decode prog_1_method_30_code 14 = .ok (.isub, 1) := by decide +kernel
theorem dT_letGo_15 : decode prog_1_method_30_code 15 = .ok (.putfield 70, 3) := by decide +kernel
theorem dT_letGo_18 : decode prog_1_method_30_code 18 = .ok (.aload_n 3, 1) := by decide +kernel
theorem dT_letGo_19 : decode prog_1_method_30_code 19 = .ok (.getfield 70, 3) := by decide +kernel
theorem dT_letGo_22 : decode prog_1_method_30_code 22 = .ok (.ifCond .le 6, 3) := by decide +kernel
theorem dT_letGo_25 : decode prog_1_method_30_code 25 = .ok (.goto 29, 3) := by decide +kernel
theorem dT_letGo_28 : decode prog_1_method_30_code 28 = .ok (.aload_n 3, 1) := by decide +kernel
theorem dT_letGo_29 : decode prog_1_method_30_code 29 = .ok (.iconst 1, 1) := by decide +kernel
theorem dT_letGo_30 : decode prog_1_method_30_code 30 = .ok (.putfield 235, 3) := by decide +kernel
theorem dT_letGo_33 : decode prog_1_method_30_code 33 = .ok (.aload_n 0, 1) := by decide +kernel
theorem dT_letGo_34 : decode prog_1_method_30_code 34 = .ok (.getfield 23, 3) := by decide +kernel
theorem dT_letGo_37 : decode prog_1_method_30_code 37 = .ok (.aload_n 3, 1) := by decide +kernel
theorem dT_letGo_38 : decode prog_1_method_30_code 38 = .ok (.getfield 192, 3) := by decide +kernel
theorem dT_letGo_41 : decode prog_1_method_30_code 41 = .ok (.aconst_null, 1) := by decide +kernel
theorem dT_letGo_42 : decode prog_1_method_30_code 42 = .ok (.aastore, 1) := by decide +kernel
theorem dT_letGo_43 : decode prog_1_method_30_code 43 = .ok (.iinc 2 1, 3) := by decide +kernel
theorem dT_letGo_46 : decode prog_1_method_30_code 46 = .ok (.aload_n 3, 1) := by decide +kernel
theorem dT_letGo_47 : decode prog_1_method_30_code 47 = .ok (.getfield 210, 3) := by decide +kernel
theorem dT_letGo_50 : decode prog_1_method_30_code 50 = .ok (.astore_n 3, 1) := by decide +kernel
theorem dT_letGo_51 : decode prog_1_method_30_code 51 = .ok (.goto (-47), 3) := by decide +kernel
theorem dT_letGo_54 : decode prog_1_method_30_code 54 = .ok (.iload_n 2, 1) := by decide +kernel
theorem dT_letGo_55 : decode prog_1_method_30_code 55 = .ok (.ireturn, 1) := by decide +kernel
theorem dT_typeFromScope_0 : decode prog_1_method_31_code 0 = .ok (.aload_n 0, 1) := by decide +kernel
theorem dT_typeFromScope_1 : decode prog_1_method_31_code 1 = .ok (.aload_n 1, 1) := by decide +kernel
theorem dT_typeFromScope_2 : decode prog_1_method_31_code 2 = .ok (.getfield 67, 3) := by decide +kernel
theorem dT_typeFromScope_5 : decode prog_1_method_31_code 5 = .ok (.iload_n 2, 1) := by decide +kernel
theorem dT_typeFromScope_6 : decode prog_1_method_31_code 6 = .ok (.iconst 0, 1) := by decide +kernel
theorem dT_typeFromScope_7 : decode prog_1_method_31_code 7 = .ok (.invokevirtual 315, 3) := by decide +kernel
theorem dT_typeFromScope_10 : decode prog_1_method_31_code 10 = .ok (.astore_n 3, 1) := by decide +kernel
theorem dT_typeFromScope_11 : decode prog_1_method_31_code 11 = .ok (.aload_n 3, 1) := by decide +kernel
theorem dT_typeFromScope_12 : decode prog_1_method_31_code 12 = .ok (.ifnonnull 14, 3) := by decide +kernel
theorem dT_typeFromScope_15 : decode prog_1_method_31_code 15 = .ok (.new 246, 3) := by decide +kernel
theorem dT_typeFromScope_18 : decode prog_1_method_31_code 18 = .ok (.dup, 1) := by decide +kernel
theorem dT_typeFromScope_19 : decode prog_1_method_31_code 19 = .ok (.ldc_w 319, 3) := by decide +kernel
theorem dT_typeFromScope_22 : decode prog_1_method_31_code 22 = .ok (.invokespecial 250, 3) := by decide +kernel
theorem dT_typeFromScope_25 : decode prog_1_method_31_code 25 = .ok (.athrow, 1) := by decide +kernel
theorem dT_typeFromScope_26 : decode prog_1_method_31_code 26 = .ok (.aload_n 3, 1) := by decide +kernel
theorem dT_typeFromScope_27 : decode prog_1_method_31_code 27 = .ok (.areturn, 1) := by decide +kernel
theorem dT_findFrom_0 : decode prog_1_method_32_code 0 = .ok (.iload_n 2, 1) := by decide +kernel
theorem dT_findFrom_1 : decode prog_1_method_32_code 1 = .ok (.bipush 8, 2) := by decide +kernel
theorem dT_findFrom_3 : decode prog_1_method_32_code 3 = .ok (.if_icmp .ge 10, 3) := by decide +kernel
theorem dT_findFrom_6 : decode prog_1_method_32_code 6 = .ok (.aload_n 0, 1) := by decide +kernel
theorem dT_findFrom_7 : decode prog_1_method_32_code 7 = .ok (.getfield 29, 3) := by decide +kernel
theorem dT_findFrom_10 : decode prog_1_method_32_code 10 = .ok (.iload_n 2, 1) := by decide +kernel
theorem dT_findFrom_11 : decode prog_1_method_32_code 11 = .ok (.aaload, 1) := by decide +kernel
theorem dT_findFrom_12 : decode prog_1_method_32_code 12 = .ok (.areturn, 1) := by decide +kernel
theorem dT_findFrom_13 : decode prog_1_method_32_code 13 = .ok (.aload_n 1, 1) := by decide +kernel
theorem dT_findFrom_14 : decode prog_1_method_32_code 14 = .ok (.astore 4, 2) := by decide +kernel
theorem dT_findFrom_16 : decode prog_1_method_32_code 16 = .ok (.aload 4, 2) := by decide +kernel
theorem dT_findFrom_18 : decode prog_1_method_32_code 18 = .ok (.ifnull 58, 3) := by decide +kernel
theorem dT_findFrom_21 : decode prog_1_method_32_code 21 = .ok (.aload 4, 2) := by decide +kernel
theorem dT_findFrom_23 : decode prog_1_method_32_code 23 = .ok (.getfield 301, 3) := by decide +kernel
theorem dT_findFrom_26 : decode prog_1_method_32_code 26 = .ok (.ifnull 17, 3) := by decide +kernel
theorem dT_findFrom_29 : decode prog_1_method_32_code 29 = .ok (.aload 4, 2) := by decide +kernel
theorem dT_findFrom_31 : decode prog_1_method_32_code 31 = .ok (.getfield 301, 3) := by decide +kernel
theorem dT_findFrom_34 : decode prog_1_method_32_code 34 = .ok (.iload_n 2, 1) := by decide +kernel
theorem dT_findFrom_35 : decode prog_1_method_32_code 35 = .ok (.invokevirtual 321, 3) := by decide +kernel
theorem dT_findFrom_38 : decode prog_1_method_32_code 38 = .ok (.ifCond .ne 5, 3) := by decide +kernel
theorem dT_findFrom_41 : decode prog_1_method_32_code 41 = .ok (.aconst_null, 1) := by decide +kernel
theorem dT_findFrom_42 : decode prog_1_method_32_code 42 = .ok (.areturn, 1) := by decide +kernel
theorem dT_findFrom_43 : decode prog_1_method_32_code 43 = .ok (.aload 4, 2) := by decide +kernel
theorem dT_findFrom_45 : decode prog_1_method_32_code 45 = .ok (.iload_n 2, 1) := by decide +kernel
theorem dT_findFrom_46 : decode prog_1_method_32_code 46 = .ok (.invokevirtual 324, 3) := by decide +kernel
theorem dT_findFrom_49 : decode prog_1_method_32_code 49 = .ok (.astore 5, 2) := by decide +kernel
theorem dT_findFrom_51 : decode prog_1_method_32_code 51 = .ok (.aload 5, 2) := by decide +kernel
theorem dT_findFrom_53 : decode prog_1_method_32_code 53 = .ok (.ifnull 13, 3) := by decide +kernel
theorem dT_findFrom_56 : decode prog_1_method_32_code 56 = .ok (.aload_n 0, 1) := by decide +kernel
theorem dT_findFrom_57 : decode prog_1_method_32_code 57 = .ok (.aload 4, 2) := by decide +kernel
theorem dT_findFrom_59 : decode prog_1_method_32_code 59 = .ok (.aload 5, 2) := by decide +kernel
theorem dT_findFrom_61 : decode prog_1_method_32_code 61 = .ok (.iload_n 3, 1) := by decide +kernel
theorem dT_findFrom_62 : decode prog_1_method_32_code 62 = .ok (.invokevirtual 328, 3) := by decide +kernel
theorem dT_findFrom_65 : decode prog_1_method_32_code 65 = .ok (.areturn, 1) := by decide +kernel
theorem dT_findFrom_66 : decode prog_1_method_32_code 66 = .ok (.aload 4, 2) := by decide +kernel
theorem dT_findFrom_68 : decode prog_1_method_32_code 68 = .ok (.getfield 210, 3) := by decide +kernel
theorem dT_findFrom_71 : decode prog_1_method_32_code 71 = .ok (.astore 4, 2) := by decide +kernel
theorem dT_findFrom_73 : decode prog_1_method_32_code 73 = .ok (.goto (-57), 3) := by decide +kernel
theorem dT_findFrom_76 : decode prog_1_method_32_code 76 = .ok (.aconst_null, 1) := by decide +kernel
theorem dT_findFrom_77 : decode prog_1_method_32_code 77 = .ok (.areturn, 1) := by decide +kernel
theorem dT_typeDefinedBy_0 : decode prog_1_method_33_code 0 = .ok (.aload_n 0, 1) := by decide +kernel
theorem dT_typeDefinedBy_1 : decode prog_1_method_33_code 1 = .ok (.aload_n 1, 1) := by decide +kernel
theorem dT_typeDefinedBy_2 : decode prog_1_method_33_code 2 = .ok (.aload_n 2, 1) := by decide +kernel
theorem dT_typeDefinedBy_3 : decode prog_1_method_33_code 3 = .ok (.getfield 332, 3) := by decide +kernel
theorem dT_typeDefinedBy_6 : decode prog_1_method_33_code 6 = .ok (.invokevirtual 333, 3) := by decide +kernel
theorem dT_typeDefinedBy_9 : decode prog_1_method_33_code 9 = .ok (.astore 4, 2) := by decide +kernel
theorem dT_typeDefinedBy_11 : decode prog_1_method_33_code 11 = .ok (.aload 4, 2) := by decide +kernel
theorem dT_typeDefinedBy_13 : decode prog_1_method_33_code 13 = .ok (.ifnull 6, 3) := by decide +kernel
theorem dT_typeDefinedBy_16 : decode prog_1_method_33_code 16 = .ok (.aload 4, 2) := by decide +kernel
theorem dT_typeDefinedBy_18 : decode prog_1_method_33_code 18 = .ok (.areturn, 1) := by decide +kernel
theorem dT_typeDefinedBy_19 : decode prog_1_method_33_code 19 = .ok (.aload_n 0, 1) := by decide +kernel
theorem dT_typeDefinedBy_20 : decode prog_1_method_33_code 20 = .ok (.aload_n 1, 1) := by decide +kernel
theorem dT_typeDefinedBy_21 : decode prog_1_method_33_code 21 = .ok (.aload_n 2, 1) := by decide +kernel
theorem dT_typeDefinedBy_22 : decode prog_1_method_33_code 22 = .ok (.getfield 332, 3) := by decide +kernel
theorem dT_typeDefinedBy_25 : decode prog_1_method_33_code 25 = .ok (.iload_n 3, 1) := by decide +kernel
theorem dT_typeDefinedBy_26 : decode prog_1_method_33_code 26 = .ok (.invokevirtual 337, 3) := by decide +kernel
theorem dT_typeDefinedBy_29 : decode prog_1_method_33_code 29 = .ok (.ifCond .eq 14, 3) := by decide +kernel
theorem dT_typeDefinedBy_32 : decode prog_1_method_33_code 32 = .ok (.new 176, 3) := by decide +kernel
theorem dT_typeDefinedBy_35 : decode prog_1_method_33_code 35 = .ok (.dup, 1) := by decide +kernel
theorem dT_typeDefinedBy_36 : decode prog_1_method_33_code 36 = .ok (.ldc_w 341, 3) := by decide +kernel
theorem dT_typeDefinedBy_39 : decode prog_1_method_33_code 39 = .ok (.invokespecial 180, 3) := by decide +kernel
theorem dT_typeDefinedBy_42 : decode prog_1_method_33_code 42 = .ok (.athrow, 1) := by decide +kernel
theorem dT_typeDefinedBy_43 : decode prog_1_method_33_code 43 = .ok (.iload_n 3, 1) := by decide +kernel
theorem dT_typeDefinedBy_44 : decode prog_1_method_33_code 44 = .ok (.bipush 8, 2) := by decide +kernel
theorem dT_typeDefinedBy_46 : decode prog_1_method_33_code 46 = .ok (.if_icmp .lt 14, 3) := by decide +kernel
theorem dT_typeDefinedBy_49 : decode prog_1_method_33_code 49 = .ok (.new 176, 3) := by decide +kernel
theorem dT_typeDefinedBy_52 : decode prog_1_method_33_code 52 = .ok (.dup, 1) := by decide +kernel
theorem dT_typeDefinedBy_53 : decode prog_1_method_33_code 53 = .ok (.ldc_w 343, 3) := by decide +kernel
theorem dT_typeDefinedBy_56 : decode prog_1_method_33_code 56 = .ok (.invokespecial 180, 3) := by decide +kernel
theorem dT_typeDefinedBy_59 : decode prog_1_method_33_code 59 = .ok (.athrow, 1) := by decide +kernel
theorem dT_typeDefinedBy_60 : decode prog_1_method_33_code 60 = .ok (.aload_n 0, 1) := by decide +kernel
theorem dT_typeDefinedBy_61 : decode prog_1_method_33_code 61 = .ok (.getfield 33, 3) := by decide +kernel
theorem dT_typeDefinedBy_64 : decode prog_1_method_33_code 64 = .ok (.iload_n 3, 1) := by decide +kernel
theorem dT_typeDefinedBy_65 : decode prog_1_method_33_code 65 = .ok (.aload_n 1, 1) := by decide +kernel
theorem dT_typeDefinedBy_66 : decode prog_1_method_33_code 66 = .ok (.aastore, 1) := by decide +kernel
theorem dT_typeDefinedBy_67 : decode prog_1_method_33_code 67 = .ok (.aload_n 0, 1) := by decide +kernel
theorem dT_typeDefinedBy_68 : decode prog_1_method_33_code 68 = .ok (.getfield 36, 3) := by decide +kernel
theorem dT_typeDefinedBy_71 : decode prog_1_method_33_code 71 = .ok (.iload_n 3, 1) := by decide +kernel
theorem dT_typeDefinedBy_72 : decode prog_1_method_33_code 72 = .ok (.aload_n 2, 1) := by decide +kernel
theorem dT_typeDefinedBy_73 : decode prog_1_method_33_code 73 = .ok (.getfield 332, 3) := by decide +kernel
theorem dT_typeDefinedBy_76 : decode prog_1_method_33_code 76 = .ok (.iastore, 1) := by decide +kernel
theorem dT_typeDefinedBy_77 : decode prog_1_method_33_code 77 = .ok (.aload_n 0, 1) := by decide +kernel
theorem dT_typeDefinedBy_78 : decode prog_1_method_33_code 78 = .ok (.aload_n 1, 1) := by decide +kernel
theorem dT_typeDefinedBy_79 : decode prog_1_method_33_code 79 = .ok (.aload_n 2, 1) := by decide +kernel
theorem dT_typeDefinedBy_80 : decode prog_1_method_33_code 80 = .ok (.getfield 345, 3) := by decide +kernel
theorem dT_typeDefinedBy_83 : decode prog_1_method_33_code 83 = .ok (.iload_n 3, 1) := by decide +kernel
theorem dT_typeDefinedBy_84 : decode prog_1_method_33_code 84 = .ok (.iconst 1, 1) := by decide +kernel
theorem dT_typeDefinedBy_85 : decode prog_1_method_33_code 85 = .ok (.iadd, 1) := by decide +kernel
theorem dT_typeDefinedBy_86 : decode prog_1_method_33_code 86 = .ok (.invokevirtual 315, 3) := by decide +kernel
theorem dT_typeDefinedBy_89 : decode prog_1_method_33_code 89 = .ok (.astore 5, 2) := by decide +kernel
theorem dT_typeDefinedBy_91 : decode prog_1_method_33_code 91 = .ok (.aload 5, 2) := by decide +kernel
theorem dT_typeDefinedBy_93 : decode prog_1_method_33_code 93 = .ok (.ifnonnull 14, 3) := by decide +kernel
theorem dT_typeDefinedBy_96 : decode prog_1_method_33_code 96 = .ok (.new 176, 3) := by decide +kernel
theorem dT_typeDefinedBy_99 : decode prog_1_method_33_code 99 = .ok (.dup, 1) := by decide +kernel
theorem dT_typeDefinedBy_100 : decode prog_1_method_33_code 100 = .ok (.ldc_w 348, 3) := by decide +kernel
theorem dT_typeDefinedBy_103 : decode prog_1_method_33_code 103 = .ok (.invokespecial 180, 3) := by decide +kernel
theorem dT_typeDefinedBy_106 : decode prog_1_method_33_code 106 = .ok (.athrow, 1) := by decide +kernel
theorem dT_typeDefinedBy_107 : decode prog_1_method_33_code 107 = .ok (.aload_n 0, 1) := by decide +kernel
theorem dT_typeDefinedBy_108 : decode prog_1_method_33_code 108 = .ok (.aload_n 2, 1) := by decide +kernel
theorem dT_typeDefinedBy_109 : decode prog_1_method_33_code 109 = .ok (.aload_n 1, 1) := by decide +kernel
theorem dT_typeDefinedBy_110 : decode prog_1_method_33_code 110 = .ok (.aload 5, 2) := by decide +kernel
theorem dT_typeDefinedBy_112 : decode prog_1_method_33_code 112 = .ok (.invokevirtual 350, 3) := by decide +kernel
theorem dT_typeDefinedBy_115 : decode prog_1_method_33_code 115 = .ok (.areturn, 1) := by decide +kernel
theorem dT_knownType_0 : decode prog_1_method_34_code 0 = .ok (.bipush 8, 2) := by decide +kernel
theorem dT_knownType_2 : decode prog_1_method_34_code 2 = .ok (.istore_n 3, 1) := by decide +kernel
theorem dT_knownType_3 : decode prog_1_method_34_code 3 = .ok (.iload_n 3, 1) := by decide +kernel
theorem dT_knownType_4 : decode prog_1_method_34_code 4 = .ok (.aload_n 0, 1) := by decide +kernel
theorem dT_knownType_5 : decode prog_1_method_34_code 5 = .ok (.getfield 47, 3) := by decide +kernel
theorem dT_knownType_8 : decode prog_1_method_34_code 8 = .ok (.if_icmp .ge 42, 3) := by decide +kernel
theorem dT_knownType_11 : decode prog_1_method_34_code 11 = .ok (.aload_n 0, 1) := by decide +kernel
theorem dT_knownType_12 : decode prog_1_method_34_code 12 = .ok (.getfield 29, 3) := by decide +kernel
theorem dT_knownType_15 : decode prog_1_method_34_code 15 = .ok (.iload_n 3, 1) := by decide +kernel
theorem dT_knownType_16 : decode prog_1_method_34_code 16 = .ok (.aaload, 1) := by decide +kernel
theorem dT_knownType_17 : decode prog_1_method_34_code 17 = .ok (.getfield 232, 3) := by decide +kernel
theorem dT_knownType_20 : decode prog_1_method_34_code 20 = .ok (.aload_n 1, 1) := by decide +kernel
theorem dT_knownType_21 : decode prog_1_method_34_code 21 = .ok (.if_acmp .ne 23, 3) := by decide +kernel
theorem dT_knownType_24 : decode prog_1_method_34_code 24 = .ok (.aload_n 0, 1) := by decide +kernel
theorem dT_knownType_25 : decode prog_1_method_34_code 25 = .ok (.getfield 29, 3) := by decide +kernel
theorem dT_knownType_28 : decode prog_1_method_34_code 28 = .ok (.iload_n 3, 1) := by decide +kernel
theorem dT_knownType_29 : decode prog_1_method_34_code 29 = .ok (.aaload, 1) := by decide +kernel
theorem dT_knownType_30 : decode prog_1_method_34_code 30 = .ok (.getfield 229, 3) := by decide +kernel
theorem dT_knownType_33 : decode prog_1_method_34_code 33 = .ok (.iload_n 2, 1) := by decide +kernel
theorem dT_knownType_34 : decode prog_1_method_34_code 34 = .ok (.if_icmp .ne 10, 3) := by decide +kernel
theorem dT_knownType_37 : decode prog_1_method_34_code 37 = .ok (.aload_n 0, 1) := by decide +kernel
theorem dT_knownType_38 : decode prog_1_method_34_code 38 = .ok (.getfield 29, 3) := by decide +kernel
theorem dT_knownType_41 : decode prog_1_method_34_code 41 = .ok (.iload_n 3, 1) := by decide +kernel
theorem dT_knownType_42 : decode prog_1_method_34_code 42 = .ok (.aaload, 1) := by decide +kernel
theorem dT_knownType_43 : decode prog_1_method_34_code 43 = .ok (.areturn, 1) := by decide +kernel
theorem dT_knownType_44 : decode prog_1_method_34_code 44 = .ok (.iinc 3 1, 3) := by decide +kernel
theorem dT_knownType_47 : decode prog_1_method_34_code 47 = .ok (.goto (-44), 3) := by decide +kernel
theorem dT_knownType_50 : decode prog_1_method_34_code 50 = .ok (.aconst_null, 1) := by decide +kernel
theorem dT_knownType_51 : decode prog_1_method_34_code 51 = .ok (.areturn, 1) := by decide +kernel
theorem dT_isBeingDefined_0 : decode prog_1_method_35_code 0 = .ok (.iconst 0, 1) := by decide +kernel
theorem dT_isBeingDefined_1 : decode prog_1_method_35_code 1 = .ok (.istore 4, 2) := by decide +kernel
theorem dT_isBeingDefined_3 : decode prog_1_method_35_code 3 = .ok (.iload 4, 2) := by decide +kernel
theorem dT_isBeingDefined_5 : decode prog_1_method_35_code 5 = .ok (.iload_n 3, 1) := by decide +kernel
theorem dT_isBeingDefined_6 : decode prog_1_method_35_code 6 = .ok (.if_icmp .ge 33, 3) := by decide +kernel
theorem dT_isBeingDefined_9 : decode prog_1_method_35_code 9 = .ok (.aload_n 0, 1) := by decide +kernel
theorem dT_isBeingDefined_10 : decode prog_1_method_35_code 10 = .ok (.getfield 33, 3) := by decide +kernel
theorem dT_isBeingDefined_13 : decode prog_1_method_35_code 13 = .ok (.iload 4, 2) := by decide +kernel
theorem dT_isBeingDefined_15 : decode prog_1_method_35_code 15 = .ok (.aaload, 1) := by decide +kernel
theorem dT_isBeingDefined_16 : decode prog_1_method_35_code 16 = .ok (.aload_n 1, 1) := by decide +kernel
theorem dT_isBeingDefined_17 : decode prog_1_method_35_code 17 = .ok (.if_acmp .ne 16, 3) := by decide +kernel
theorem dT_isBeingDefined_20 : decode prog_1_method_35_code 20 = .ok (.aload_n 0, 1) := by decide +kernel
theorem dT_isBeingDefined_21 : decode prog_1_method_35_code 21 = .ok (.getfield 36, 3) := by decide +kernel
theorem dT_isBeingDefined_24 : decode prog_1_method_35_code 24 = .ok (.iload 4, 2) := by decide +kernel
theorem dT_isBeingDefined_26 : decode prog_1_method_35_code 26 = .ok (.iaload, 1) := by decide +kernel
theorem dT_isBeingDefined_27 : decode prog_1_method_35_code 27 = .ok (.iload_n 2, 1) := by decide +kernel
theorem dT_isBeingDefined_28 : decode prog_1_method_35_code 28 = .ok (.if_icmp .ne 5, 3) := by decide +kernel
theorem dT_isBeingDefined_31 : decode prog_1_method_35_code 31 = .ok (.iconst 1, 1) := by decide +kernel
theorem dT_isBeingDefined_32 : decode prog_1_method_35_code 32 = .ok (.ireturn, 1) := by decide +kernel
theorem dT_isBeingDefined_33 : decode prog_1_method_35_code 33 = .ok (.iinc 4 1, 3) := by decide +kernel
theorem dT_isBeingDefined_36 : decode prog_1_method_35_code 36 = .ok (.goto (-33), 3) := by decide +kernel
theorem dT_isBeingDefined_39 : decode prog_1_method_35_code 39 = .ok (.iconst 0, 1) := by decide +kernel
theorem dT_isBeingDefined_40 : decode prog_1_method_35_code 40 = .ok (.ireturn, 1) := by decide +kernel
theorem dT_newType_0 : decode prog_1_method_36_code 0 = .ok (.aload_n 0, 1) := by decide +kernel
theorem dT_newType_1 : decode prog_1_method_36_code 1 = .ok (.getfield 47, 3) := by decide +kernel
theorem dT_newType_4 : decode prog_1_method_36_code 4 = .ok (.bipush 120, 2) := by decide +kernel
theorem dT_newType_6 : decode prog_1_method_36_code 6 = .ok (.if_icmp .lt 14, 3) := by decide +kernel
theorem dT_newType_9 : decode prog_1_method_36_code 9 = .ok (.new 176, 3) := by decide +kernel
theorem dT_newType_12 : decode prog_1_method_36_code 12 = .ok (.dup, 1) := by decide +kernel
theorem dT_newType_13 : decode prog_1_method_36_code 13 = .ok (.ldc_w 354, 3) := by decide +kernel
theorem dT_newType_16 : decode prog_1_method_36_code 16 = .ok (.invokespecial 180, 3) := by decide +kernel
theorem dT_newType_19 : decode prog_1_method_36_code 19 = .ok (.athrow, 1) := by decide +kernel
theorem dT_newType_20 : decode prog_1_method_36_code 20 = .ok (.new 27, 3) := by decide +kernel
theorem dT_newType_23 : decode prog_1_method_36_code 23 = .ok (.dup, 1) := by decide +kernel
theorem dT_newType_24 : decode prog_1_method_36_code 24 = .ok (.aload_n 0, 1) := by decide +kernel
theorem dT_newType_25 : decode prog_1_method_36_code 25 = .ok (.getfield 47, 3) := by decide +kernel
theorem dT_newType_28 : decode prog_1_method_36_code 28 = .ok (.aload_n 1, 1) := by decide +kernel
theorem dT_newType_29 : decode prog_1_method_36_code 29 = .ok (.getfield 332, 3) := by decide +kernel
theorem dT_newType_32 : decode prog_1_method_36_code 32 = .ok (.aload_n 1, 1) := by decide +kernel
theorem dT_newType_33 : decode prog_1_method_36_code 33 = .ok (.getfield 356, 3) := by decide +kernel
theorem dT_newType_36 : decode prog_1_method_36_code 36 = .ok (.aload_n 2, 1) := by decide +kernel
theorem dT_newType_37 : decode prog_1_method_36_code 37 = .ok (.aload_n 3, 1) := by decide +kernel
theorem dT_newType_38 : decode prog_1_method_36_code 38 = .ok (.invokespecial 44, 3) := by decide +kernel
theorem dT_newType_41 : decode prog_1_method_36_code 41 = .ok (.astore 4, 2) := by decide +kernel
theorem dT_newType_43 : decode prog_1_method_36_code 43 = .ok (.aload_n 0, 1) := by decide +kernel
theorem dT_newType_44 : decode prog_1_method_36_code 44 = .ok (.getfield 29, 3) := by decide +kernel
theorem dT_newType_47 : decode prog_1_method_36_code 47 = .ok (.aload_n 0, 1) := by decide +kernel
theorem dT_newType_48 : decode prog_1_method_36_code 48 = .ok (.getfield 47, 3) := by decide +kernel
theorem dT_newType_51 : decode prog_1_method_36_code 51 = .ok (.aload 4, 2) := by decide +kernel
theorem dT_newType_53 : decode prog_1_method_36_code 53 = .ok (.aastore, 1) := by decide +kernel
theorem dT_newType_54 : decode prog_1_method_36_code 54 = .ok (.aload_n 0, 1) := by decide +kernel
theorem dT_newType_55 : decode prog_1_method_36_code 55 = .ok (.dup, 1) := by decide +kernel
theorem dT_newType_56 : decode prog_1_method_36_code 56 = .ok (.getfield 47, 3) := by decide +kernel
theorem dT_newType_59 : decode prog_1_method_36_code 59 = .ok (.iconst 1, 1) := by decide +kernel
theorem dT_newType_60 : decode prog_1_method_36_code 60 = .ok (.iadd, 1) := by decide +kernel
theorem dT_newType_61 : decode prog_1_method_36_code 61 = .ok (.putfield 47, 3) := by decide +kernel
theorem dT_newType_64 : decode prog_1_method_36_code 64 = .ok (.aload_n 2, 1) := by decide +kernel
theorem dT_newType_65 : decode prog_1_method_36_code 65 = .ok (.dup, 1) := by decide +kernel
theorem dT_newType_66 : decode prog_1_method_36_code 66 = .ok (.getfield 212, 3) := by decide +kernel
theorem dT_newType_69 : decode prog_1_method_36_code 69 = .ok (.iconst 1, 1) := by decide +kernel
theorem dT_newType_70 : decode prog_1_method_36_code 70 = .ok (.iadd, 1) := by decide +kernel
theorem dT_newType_71 : decode prog_1_method_36_code 71 = .ok (.putfield 212, 3) := by decide +kernel
theorem dT_newType_74 : decode prog_1_method_36_code 74 = .ok (.aload 4, 2) := by decide +kernel
theorem dT_newType_76 : decode prog_1_method_36_code 76 = .ok (.areturn, 1) := by decide +kernel
theorem dT_isSubtype_0 : decode prog_1_method_37_code 0 = .ok (.aload_n 0, 1) := by decide +kernel
theorem dT_isSubtype_1 : decode prog_1_method_37_code 1 = .ok (.astore_n 2, 1) := by decide +kernel
theorem dT_isSubtype_2 : decode prog_1_method_37_code 2 = .ok (.aload_n 2, 1) := by decide +kernel
theorem dT_isSubtype_3 : decode prog_1_method_37_code 3 = .ok (.ifnull 18, 3) := by decide +kernel
theorem dT_isSubtype_6 : decode prog_1_method_37_code 6 = .ok (.aload_n 2, 1) := by decide +kernel
theorem dT_isSubtype_7 : decode prog_1_method_37_code 7 = .ok (.aload_n 1, 1) := by decide +kernel
theorem dT_isSubtype_8 : decode prog_1_method_37_code 8 = .ok (.if_acmp .ne 5, 3) := by decide +kernel
theorem dT_isSubtype_11 : decode prog_1_method_37_code 11 = .ok (.iconst 1, 1) := by decide +kernel
theorem dT_isSubtype_12 : decode prog_1_method_37_code 12 = .ok (.ireturn, 1) := by decide +kernel
theorem dT_isSubtype_13 : decode prog_1_method_37_code 13 = .ok (.aload_n 2, 1) := by decide +kernel
theorem dT_isSubtype_14 : decode prog_1_method_37_code 14 = .ok (.getfield 242, 3) := by decide +kernel
theorem dT_isSubtype_17 : decode prog_1_method_37_code 17 = .ok (.astore_n 2, 1) := by decide +kernel
theorem dT_isSubtype_18 : decode prog_1_method_37_code 18 = .ok (.goto (-16), 3) := by decide +kernel
theorem dT_isSubtype_21 : decode prog_1_method_37_code 21 = .ok (.iconst 0, 1) := by decide +kernel
theorem dT_isSubtype_22 : decode prog_1_method_37_code 22 = .ok (.ireturn, 1) := by decide +kernel
theorem dT_visibleDescriptor_0 : decode prog_1_method_38_code 0 = .ok (.aload_n 0, 1) := by decide +kernel
theorem dT_visibleDescriptor_1 : decode prog_1_method_38_code 1 = .ok (.astore_n 2, 1) := by decide +kernel
theorem dT_visibleDescriptor_2 : decode prog_1_method_38_code 2 = .ok (.aload_n 2, 1) := by decide +kernel
theorem dT_visibleDescriptor_3 : decode prog_1_method_38_code 3 = .ok (.ifnull 39, 3) := by decide +kernel
theorem dT_visibleDescriptor_6 : decode prog_1_method_38_code 6 = .ok (.aload_n 2, 1) := by decide +kernel
theorem dT_visibleDescriptor_7 : decode prog_1_method_38_code 7 = .ok (.iload_n 1, 1) := by decide +kernel
theorem dT_visibleDescriptor_8 : decode prog_1_method_38_code 8 = .ok (.invokevirtual 357, 3) := by decide +kernel
theorem dT_visibleDescriptor_11 : decode prog_1_method_38_code 11 = .ok (.astore_n 3, 1) := by decide +kernel
theorem dT_visibleDescriptor_12 : decode prog_1_method_38_code 12 = .ok (.aload_n 3, 1) := by decide +kernel
theorem dT_visibleDescriptor_13 : decode prog_1_method_38_code 13 = .ok (.ifnull 21, 3) := by decide +kernel
theorem dT_visibleDescriptor_16 : decode prog_1_method_38_code 16 = .ok (.aload_n 0, 1) := by decide +kernel
theorem dT_visibleDescriptor_17 : decode prog_1_method_38_code 17 = .ok (.aload_n 2, 1) := by decide +kernel
theorem dT_visibleDescriptor_18 : decode prog_1_method_38_code 18 = .ok (.aload_n 3, 1) := by decide +kernel
theorem dT_visibleDescriptor_19 : decode prog_1_method_38_code 19 = .ok (.getfield 261, 3) := by decide +kernel
theorem dT_visibleDescriptor_22 : decode prog_1_method_38_code 22 = .ok (.invokestatic 361, 3) := by decide +kernel
theorem dT_visibleDescriptor_25 : decode prog_1_method_38_code 25 = .ok (.ifCond .eq 7, 3) := by decide +kernel
theorem dT_visibleDescriptor_28 : decode prog_1_method_38_code 28 = .ok (.aload_n 3, 1) := by decide +kernel
theorem dT_visibleDescriptor_29 : decode prog_1_method_38_code 29 = .ok (.goto 4, 3) := by decide +kernel
theorem dT_visibleDescriptor_32 : decode prog_1_method_38_code 32 = .ok (.aconst_null, 1) := by decide +kernel
theorem dT_visibleDescriptor_33 : decode prog_1_method_38_code 33 = .ok (.areturn, 1) := by decide +kernel
theorem dT_visibleDescriptor_34 : decode prog_1_method_38_code 34 = .ok (.aload_n 2, 1) := by decide +kernel
theorem dT_visibleDescriptor_35 : decode prog_1_method_38_code 35 = .ok (.getfield 210, 3) := by decide +kernel
theorem dT_visibleDescriptor_38 : decode prog_1_method_38_code 38 = .ok (.astore_n 2, 1) := by decide +kernel
theorem dT_visibleDescriptor_39 : decode prog_1_method_38_code 39 = .ok (.goto (-37), 3) := by decide +kernel
theorem dT_visibleDescriptor_42 : decode prog_1_method_38_code 42 = .ok (.aconst_null, 1) := by decide +kernel
theorem dT_visibleDescriptor_43 : decode prog_1_method_38_code 43 = .ok (.areturn, 1) := by decide +kernel
theorem dT_isLetThrough_0 : decode prog_1_method_39_code 0 = .ok (.iload_n 2, 1) := by decide +kernel
theorem dT_isLetThrough_1 : decode prog_1_method_39_code 1 = .ok (.bipush 8, 2) := by decide +kernel
theorem dT_isLetThrough_3 : decode prog_1_method_39_code 3 = .ok (.if_icmp .ge 5, 3) := by decide +kernel
theorem dT_isLetThrough_6 : decode prog_1_method_39_code 6 = .ok (.iconst 1, 1) := by decide +kernel
theorem dT_isLetThrough_7 : decode prog_1_method_39_code 7 = .ok (.ireturn, 1) := by decide +kernel
theorem dT_isLetThrough_8 : decode prog_1_method_39_code 8 = .ok (.aload_n 0, 1) := by decide +kernel
theorem dT_isLetThrough_9 : decode prog_1_method_39_code 9 = .ok (.astore_n 3, 1) := by decide +kernel
theorem dT_isLetThrough_10 : decode prog_1_method_39_code 10 = .ok (.aload_n 3, 1) := by decide +kernel
theorem dT_isLetThrough_11 : decode prog_1_method_39_code 11 = .ok (.ifnull 36, 3) := by decide +kernel
theorem dT_isLetThrough_14 : decode prog_1_method_39_code 14 = .ok (.aload_n 3, 1) := by decide +kernel
theorem dT_isLetThrough_15 : decode prog_1_method_39_code 15 = .ok (.aload_n 1, 1) := by decide +kernel
theorem dT_isLetThrough_16 : decode prog_1_method_39_code 16 = .ok (.if_acmp .eq 31, 3) := by decide +kernel
theorem dT_isLetThrough_19 : decode prog_1_method_39_code 19 = .ok (.aload_n 3, 1) := by decide +kernel
theorem dT_isLetThrough_20 : decode prog_1_method_39_code 20 = .ok (.getfield 301, 3) := by decide +kernel
theorem dT_isLetThrough_23 : decode prog_1_method_39_code 23 = .ok (.ifnull 16, 3) := by decide +kernel
theorem dT_isLetThrough_26 : decode prog_1_method_39_code 26 = .ok (.aload_n 3, 1) := by decide +kernel
theorem dT_isLetThrough_27 : decode prog_1_method_39_code 27 = .ok (.getfield 301, 3) := by decide +kernel
theorem dT_isLetThrough_30 : decode prog_1_method_39_code 30 = .ok (.iload_n 2, 1) := by decide +kernel
theorem dT_isLetThrough_31 : decode prog_1_method_39_code 31 = .ok (.invokevirtual 321, 3) := by decide +kernel
theorem dT_isLetThrough_34 : decode prog_1_method_39_code 34 = .ok (.ifCond .ne 5, 3) := by decide +kernel
theorem dT_isLetThrough_37 : decode prog_1_method_39_code 37 = .ok (.iconst 0, 1) := by decide +kernel
theorem dT_isLetThrough_38 : decode prog_1_method_39_code 38 = .ok (.ireturn, 1) := by decide +kernel
theorem dT_isLetThrough_39 : decode prog_1_method_39_code 39 = .ok (.aload_n 3, 1) := by decide +kernel
theorem dT_isLetThrough_40 : decode prog_1_method_39_code 40 = .ok (.getfield 210, 3) := by decide +kernel
theorem dT_isLetThrough_43 : decode prog_1_method_39_code 43 = .ok (.astore_n 3, 1) := by decide +kernel
theorem dT_isLetThrough_44 : decode prog_1_method_39_code 44 = .ok (.goto (-34), 3) := by decide +kernel
theorem dT_isLetThrough_47 : decode prog_1_method_39_code 47 = .ok (.iconst 1, 1) := by decide +kernel
theorem dT_isLetThrough_48 : decode prog_1_method_39_code 48 = .ok (.ireturn, 1) := by decide +kernel
