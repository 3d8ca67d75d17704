abbrev c_B_init : ByteArray := prog_1_method_1_code
abbrev y_B_init : MethodName := ⟨"BlobStore", "<init>", "()V"⟩
theorem i_B_init : bIs y_B_init 2 := Or.inl ⟨_, _, t1_24⟩
theorem d_B_init_0 : decode c_B_init 0 = .ok (.aload_n 0, 1) := by decide +kernel
theorem d_B_init_1 : decode c_B_init 1 = .ok (.invokespecial 3, 3) := by decide +kernel
theorem d_B_init_4 : decode c_B_init 4 = .ok (.aload_n 0, 1) := by decide +kernel
theorem d_B_init_5 : decode c_B_init 5 = .ok (.new 9, 3) := by decide +kernel
theorem d_B_init_8 : decode c_B_init 8 = .ok (.dup, 1) := by decide +kernel
theorem d_B_init_9 : decode c_B_init 9 = .ok (.invokespecial 11, 3) := by decide +kernel
theorem d_B_init_12 : decode c_B_init 12 = .ok (.putfield 12, 3) := by decide +kernel
theorem d_B_init_15 : decode c_B_init 15 = .ok (.aload_n 0, 1) := by decide +kernel
theorem d_B_init_16 : decode c_B_init 16 = .ok (.new 16, 3) := by decide +kernel
theorem d_B_init_19 : decode c_B_init 19 = .ok (.dup, 1) := by decide +kernel
theorem d_B_init_20 : decode c_B_init 20 = .ok (.invokespecial 18, 3) := by decide +kernel
theorem d_B_init_23 : decode c_B_init 23 = .ok (.putfield 19, 3) := by decide +kernel
theorem d_B_init_26 : decode c_B_init 26 = .ok (.aload_n 0, 1) := by decide +kernel
theorem d_B_init_27 : decode c_B_init 27 = .ok (.bipush 48, 2) := by decide +kernel
theorem d_B_init_29 : decode c_B_init 29 = .ok (.anewarray 23, 3) := by decide +kernel
theorem d_B_init_32 : decode c_B_init 32 = .ok (.putfield 25, 3) := by decide +kernel
theorem d_B_init_35 : decode c_B_init 35 = .ok (.aload_n 0, 1) := by decide +kernel
theorem d_B_init_36 : decode c_B_init 36 = .ok (.iconst 5, 1) := by decide +kernel
theorem d_B_init_37 : decode c_B_init 37 = .ok (.anewarray 29, 3) := by decide +kernel
theorem d_B_init_40 : decode c_B_init 40 = .ok (.putfield 31, 3) := by decide +kernel
theorem d_B_init_43 : decode c_B_init 43 = .ok (.aload_n 0, 1) := by decide +kernel
theorem d_B_init_44 : decode c_B_init 44 = .ok (.bipush 40, 2) := by decide +kernel
theorem d_B_init_46 : decode c_B_init 46 = .ok (.anewarray 35, 3) := by decide +kernel
theorem d_B_init_49 : decode c_B_init 49 = .ok (.putfield 37, 3) := by decide +kernel
theorem d_B_init_52 : decode c_B_init 52 = .ok (.aload_n 0, 1) := by decide +kernel
theorem d_B_init_53 : decode c_B_init 53 = .ok (.iconst 0, 1) := by decide +kernel
theorem d_B_init_54 : decode c_B_init 54 = .ok (.putfield 41, 3) := by decide +kernel
theorem d_B_init_57 : decode c_B_init 57 = .ok (.aload_n 0, 1) := by decide +kernel
theorem d_B_init_58 : decode c_B_init 58 = .ok (.iconst 3, 1) := by decide +kernel
theorem d_B_init_59 : decode c_B_init 59 = .ok (.anewarray 23, 3) := by decide +kernel
theorem d_B_init_62 : decode c_B_init 62 = .ok (.putfield 45, 3) := by decide +kernel
theorem d_B_init_65 : decode c_B_init 65 = .ok (.aload_n 0, 1) := by decide +kernel
theorem d_B_init_66 : decode c_B_init 66 = .ok (.new 48, 3) := by decide +kernel
theorem d_B_init_69 : decode c_B_init 69 = .ok (.dup, 1) := by decide +kernel
theorem d_B_init_70 : decode c_B_init 70 = .ok (.iconst 3, 1) := by decide +kernel
theorem d_B_init_71 : decode c_B_init 71 = .ok (.invokespecial 50, 3) := by decide +kernel
theorem d_B_init_74 : decode c_B_init 74 = .ok (.putfield 53, 3) := by decide +kernel
theorem d_B_init_77 : decode c_B_init 77 = .ok (.aload_n 0, 1) := by decide +kernel
theorem d_B_init_78 : decode c_B_init 78 = .ok (.new 23, 3) := by decide +kernel
theorem d_B_init_81 : decode c_B_init 81 = .ok (.dup, 1) := by decide +kernel
theorem d_B_init_82 : decode c_B_init 82 = .ok (.invokespecial 57, 3) := by decide +kernel
theorem d_B_init_85 : decode c_B_init 85 = .ok (.putfield 58, 3) := by decide +kernel
theorem d_B_init_88 : decode c_B_init 88 = .ok (.aload_n 0, 1) := by decide +kernel
theorem d_B_init_89 : decode c_B_init 89 = .ok (.bipush 48, 2) := by decide +kernel
theorem d_B_init_91 : decode c_B_init 91 = .ok (.newarray .int, 2) := by decide +kernel
theorem d_B_init_93 : decode c_B_init 93 = .ok (.putfield 62, 3) := by decide +kernel
theorem d_B_init_96 : decode c_B_init 96 = .ok (.iconst 0, 1) := by decide +kernel
theorem d_B_init_97 : decode c_B_init 97 = .ok (.istore_n 1, 1) := by decide +kernel
theorem d_B_init_98 : decode c_B_init 98 = .ok (.iload_n 1, 1) := by decide +kernel
theorem d_B_init_99 : decode c_B_init 99 = .ok (.bipush 48, 2) := by decide +kernel
theorem d_B_init_101 : decode c_B_init 101 = .ok (.if_icmp .ge 22, 3) := by decide +kernel
theorem d_B_init_104 : decode c_B_init 104 = .ok (.aload_n 0, 1) := by decide +kernel
theorem d_B_init_105 : decode c_B_init 105 = .ok (.getfield 25, 3) := by decide +kernel
theorem d_B_init_108 : decode c_B_init 108 = .ok (.iload_n 1, 1) := by decide +kernel
theorem d_B_init_109 : decode c_B_init 109 = .ok (.new 23, 3) := by decide +kernel
theorem d_B_init_112 : decode c_B_init 112 = .ok (.dup, 1) := by decide +kernel
theorem d_B_init_113 : decode c_B_init 113 = .ok (.invokespecial 57, 3) := by decide +kernel
theorem d_B_init_116 : decode c_B_init 116 = .ok (.aastore, 1) := by decide +kernel
theorem d_B_init_117 : decode c_B_init 117 = .ok (.iinc 1 1, 3) := by decide +kernel
theorem d_B_init_120 : decode c_B_init 120 = .ok (.goto (-22), 3) := by decide +kernel
theorem d_B_init_123 : decode c_B_init 123 = .ok (.iconst 0, 1) := by decide +kernel
theorem d_B_init_124 : decode c_B_init 124 = .ok (.istore_n 1, 1) := by decide +kernel
theorem d_B_init_125 : decode c_B_init 125 = .ok (.iload_n 1, 1) := by decide +kernel
theorem d_B_init_126 : decode c_B_init 126 = .ok (.iconst 5, 1) := by decide +kernel
theorem d_B_init_127 : decode c_B_init 127 = .ok (.if_icmp .ge 22, 3) := by decide +kernel
theorem d_B_init_130 : decode c_B_init 130 = .ok (.aload_n 0, 1) := by decide +kernel
theorem d_B_init_131 : decode c_B_init 131 = .ok (.getfield 31, 3) := by decide +kernel
theorem d_B_init_134 : decode c_B_init 134 = .ok (.iload_n 1, 1) := by decide +kernel
theorem d_B_init_135 : decode c_B_init 135 = .ok (.new 29, 3) := by decide +kernel
theorem d_B_init_138 : decode c_B_init 138 = .ok (.dup, 1) := by decide +kernel
theorem d_B_init_139 : decode c_B_init 139 = .ok (.invokespecial 66, 3) := by decide +kernel
theorem d_B_init_142 : decode c_B_init 142 = .ok (.aastore, 1) := by decide +kernel
theorem d_B_init_143 : decode c_B_init 143 = .ok (.iinc 1 1, 3) := by decide +kernel
theorem d_B_init_146 : decode c_B_init 146 = .ok (.goto (-21), 3) := by decide +kernel
theorem d_B_init_149 : decode c_B_init 149 = .ok (.iconst 0, 1) := by decide +kernel
theorem d_B_init_150 : decode c_B_init 150 = .ok (.istore_n 1, 1) := by decide +kernel
theorem d_B_init_151 : decode c_B_init 151 = .ok (.iload_n 1, 1) := by decide +kernel
theorem d_B_init_152 : decode c_B_init 152 = .ok (.bipush 40, 2) := by decide +kernel
theorem d_B_init_154 : decode c_B_init 154 = .ok (.if_icmp .ge 22, 3) := by decide +kernel
theorem d_B_init_157 : decode c_B_init 157 = .ok (.aload_n 0, 1) := by decide +kernel
theorem d_B_init_158 : decode c_B_init 158 = .ok (.getfield 37, 3) := by decide +kernel
theorem d_B_init_161 : decode c_B_init 161 = .ok (.iload_n 1, 1) := by decide +kernel
theorem d_B_init_162 : decode c_B_init 162 = .ok (.new 35, 3) := by decide +kernel
theorem d_B_init_165 : decode c_B_init 165 = .ok (.dup, 1) := by decide +kernel
theorem d_B_init_166 : decode c_B_init 166 = .ok (.invokespecial 67, 3) := by decide +kernel
theorem d_B_init_169 : decode c_B_init 169 = .ok (.aastore, 1) := by decide +kernel
theorem d_B_init_170 : decode c_B_init 170 = .ok (.iinc 1 1, 3) := by decide +kernel
theorem d_B_init_173 : decode c_B_init 173 = .ok (.goto (-22), 3) := by decide +kernel
theorem d_B_init_176 : decode c_B_init 176 = .ok (.iconst 0, 1) := by decide +kernel
theorem d_B_init_177 : decode c_B_init 177 = .ok (.istore_n 1, 1) := by decide +kernel
theorem d_B_init_178 : decode c_B_init 178 = .ok (.iload_n 1, 1) := by decide +kernel
theorem d_B_init_179 : decode c_B_init 179 = .ok (.iconst 3, 1) := by decide +kernel
theorem d_B_init_180 : decode c_B_init 180 = .ok (.if_icmp .ge 22, 3) := by decide +kernel
theorem d_B_init_183 : decode c_B_init 183 = .ok (.aload_n 0, 1) := by decide +kernel
theorem d_B_init_184 : decode c_B_init 184 = .ok (.getfield 45, 3) := by decide +kernel
theorem d_B_init_187 : decode c_B_init 187 = .ok (.iload_n 1, 1) := by decide +kernel
theorem d_B_init_188 : decode c_B_init 188 = .ok (.new 23, 3) := by decide +kernel
theorem d_B_init_191 : decode c_B_init 191 = .ok (.dup, 1) := by decide +kernel
theorem d_B_init_192 : decode c_B_init 192 = .ok (.invokespecial 57, 3) := by decide +kernel
theorem d_B_init_195 : decode c_B_init 195 = .ok (.aastore, 1) := by decide +kernel
theorem d_B_init_196 : decode c_B_init 196 = .ok (.iinc 1 1, 3) := by decide +kernel
theorem d_B_init_199 : decode c_B_init 199 = .ok (.goto (-21), 3) := by decide +kernel
theorem d_B_init_202 : decode c_B_init 202 = .ok (.return_, 1) := by decide +kernel
abbrev c_B_begin : ByteArray := prog_1_method_2_code
abbrev y_B_begin : MethodName := ⟨"BlobStore", "begin", "(II)I"⟩
theorem i_B_begin : bIs y_B_begin 4 := Or.inl ⟨_, _, t2_60⟩
theorem d_B_begin_0 : decode c_B_begin 0 = .ok (.aload_n 0, 1) := by decide +kernel
theorem d_B_begin_1 : decode c_B_begin 1 = .ok (.getfield 12, 3) := by decide +kernel
theorem d_B_begin_4 : decode c_B_begin 4 = .ok (.invokevirtual 68, 3) := by decide +kernel
theorem d_B_begin_7 : decode c_B_begin 7 = .ok (.aload_n 0, 1) := by decide +kernel
theorem d_B_begin_8 : decode c_B_begin 8 = .ok (.invokevirtual 71, 3) := by decide +kernel
theorem d_B_begin_11 : decode c_B_begin 11 = .ok (.istore_n 3, 1) := by decide +kernel
theorem d_B_begin_12 : decode c_B_begin 12 = .ok (.iload_n 3, 1) := by decide +kernel
theorem d_B_begin_13 : decode c_B_begin 13 = .ok (.ifCond .ge 13, 3) := by decide +kernel
theorem d_B_begin_16 : decode c_B_begin 16 = .ok (.new 75, 3) := by decide +kernel
theorem d_B_begin_19 : decode c_B_begin 19 = .ok (.dup, 1) := by decide +kernel
theorem d_B_begin_20 : decode c_B_begin 20 = .ok (.ldc 77, 2) := by decide +kernel
theorem d_B_begin_22 : decode c_B_begin 22 = .ok (.invokespecial 79, 3) := by decide +kernel
theorem d_B_begin_25 : decode c_B_begin 25 = .ok (.athrow, 1) := by decide +kernel
theorem d_B_begin_26 : decode c_B_begin 26 = .ok (.iload_n 1, 1) := by decide +kernel
theorem d_B_begin_27 : decode c_B_begin 27 = .ok (.ifCond .lt 18, 3) := by decide +kernel
theorem d_B_begin_30 : decode c_B_begin 30 = .ok (.iload_n 1, 1) := by decide +kernel
theorem d_B_begin_31 : decode c_B_begin 31 = .ok (.iconst 4, 1) := by decide +kernel
theorem d_B_begin_32 : decode c_B_begin 32 = .ok (.if_icmp .ge 13, 3) := by decide +kernel
theorem d_B_begin_35 : decode c_B_begin 35 = .ok (.iload_n 2, 1) := by decide +kernel
theorem d_B_begin_36 : decode c_B_begin 36 = .ok (.ifCond .lt 9, 3) := by decide +kernel
theorem d_B_begin_39 : decode c_B_begin 39 = .ok (.iload_n 2, 1) := by decide +kernel
theorem d_B_begin_40 : decode c_B_begin 40 = .ok (.bipush 8, 2) := by decide +kernel
theorem d_B_begin_42 : decode c_B_begin 42 = .ok (.if_icmp .lt 13, 3) := by decide +kernel
theorem d_B_begin_45 : decode c_B_begin 45 = .ok (.new 82, 3) := by decide +kernel
theorem d_B_begin_48 : decode c_B_begin 48 = .ok (.dup, 1) := by decide +kernel
theorem d_B_begin_49 : decode c_B_begin 49 = .ok (.ldc 84, 2) := by decide +kernel
theorem d_B_begin_51 : decode c_B_begin 51 = .ok (.invokespecial 86, 3) := by decide +kernel
theorem d_B_begin_54 : decode c_B_begin 54 = .ok (.athrow, 1) := by decide +kernel
theorem d_B_begin_55 : decode c_B_begin 55 = .ok (.aload_n 0, 1) := by decide +kernel
theorem d_B_begin_56 : decode c_B_begin 56 = .ok (.getfield 12, 3) := by decide +kernel
theorem d_B_begin_59 : decode c_B_begin 59 = .ok (.invokevirtual 87, 3) := by decide +kernel
theorem d_B_begin_62 : decode c_B_begin 62 = .ok (.aload_n 0, 1) := by decide +kernel
theorem d_B_begin_63 : decode c_B_begin 63 = .ok (.getfield 31, 3) := by decide +kernel
theorem d_B_begin_66 : decode c_B_begin 66 = .ok (.iload_n 3, 1) := by decide +kernel
theorem d_B_begin_67 : decode c_B_begin 67 = .ok (.aaload, 1) := by decide +kernel
theorem d_B_begin_68 : decode c_B_begin 68 = .ok (.iload_n 1, 1) := by decide +kernel
theorem d_B_begin_69 : decode c_B_begin 69 = .ok (.iload_n 2, 1) := by decide +kernel
theorem d_B_begin_70 : decode c_B_begin 70 = .ok (.invokevirtual 90, 3) := by decide +kernel
theorem d_B_begin_73 : decode c_B_begin 73 = .ok (.iload_n 3, 1) := by decide +kernel
theorem d_B_begin_74 : decode c_B_begin 74 = .ok (.ireturn, 1) := by decide +kernel
abbrev c_B_part : ByteArray := prog_1_method_3_code
abbrev y_B_part : MethodName := ⟨"BlobStore", "part", "(IIIJJJ)I"⟩
theorem i_B_part : bIs y_B_part 13 := Or.inl ⟨_, _, t2_189⟩
theorem d_B_part_0 : decode c_B_part 0 = .ok (.aload_n 0, 1) := by decide +kernel
theorem d_B_part_1 : decode c_B_part 1 = .ok (.getfield 12, 3) := by decide +kernel
theorem d_B_part_4 : decode c_B_part 4 = .ok (.invokevirtual 68, 3) := by decide +kernel
theorem d_B_part_7 : decode c_B_part 7 = .ok (.aload_n 0, 1) := by decide +kernel
theorem d_B_part_8 : decode c_B_part 8 = .ok (.iload_n 1, 1) := by decide +kernel
theorem d_B_part_9 : decode c_B_part 9 = .ok (.invokevirtual 94, 3) := by decide +kernel
theorem d_B_part_12 : decode c_B_part 12 = .ok (.astore 10, 2) := by decide +kernel
theorem d_B_part_14 : decode c_B_part 14 = .ok (.iload_n 2, 1) := by decide +kernel
theorem d_B_part_15 : decode c_B_part 15 = .ok (.iconst 1, 1) := by decide +kernel
theorem d_B_part_16 : decode c_B_part 16 = .ok (.if_icmp .lt 19, 3) := by decide +kernel
theorem d_B_part_19 : decode c_B_part 19 = .ok (.iload_n 2, 1) := by decide +kernel
theorem d_B_part_20 : decode c_B_part 20 = .ok (.bipush 6, 2) := by decide +kernel
theorem d_B_part_22 : decode c_B_part 22 = .ok (.if_icmp .gt 13, 3) := by decide +kernel
theorem d_B_part_25 : decode c_B_part 25 = .ok (.iload_n 3, 1) := by decide +kernel
theorem d_B_part_26 : decode c_B_part 26 = .ok (.ifCond .lt 9, 3) := by decide +kernel
theorem d_B_part_29 : decode c_B_part 29 = .ok (.iload_n 3, 1) := by decide +kernel
theorem d_B_part_30 : decode c_B_part 30 = .ok (.bipush 24, 2) := by decide +kernel
theorem d_B_part_32 : decode c_B_part 32 = .ok (.if_icmp .le 13, 3) := by decide +kernel
theorem d_B_part_35 : decode c_B_part 35 = .ok (.new 82, 3) := by decide +kernel
theorem d_B_part_38 : decode c_B_part 38 = .ok (.dup, 1) := by decide +kernel
theorem d_B_part_39 : decode c_B_part 39 = .ok (.ldc 98, 2) := by decide +kernel
theorem d_B_part_41 : decode c_B_part 41 = .ok (.invokespecial 86, 3) := by decide +kernel
theorem d_B_part_44 : decode c_B_part 44 = .ok (.athrow, 1) := by decide +kernel
theorem d_B_part_45 : decode c_B_part 45 = .ok (.aload_n 0, 1) := by decide +kernel
theorem d_B_part_46 : decode c_B_part 46 = .ok (.iload_n 3, 1) := by decide +kernel
theorem d_B_part_47 : decode c_B_part 47 = .ok (.lload 4, 2) := by decide +kernel
theorem d_B_part_49 : decode c_B_part 49 = .ok (.lload 6, 2) := by decide +kernel
theorem d_B_part_51 : decode c_B_part 51 = .ok (.lload 8, 2) := by decide +kernel
theorem d_B_part_53 : decode c_B_part 53 = .ok (.invokevirtual 100, 3) := by decide +kernel
theorem d_B_part_56 : decode c_B_part 56 = .ok (.istore 11, 2) := by decide +kernel
theorem d_B_part_58 : decode c_B_part 58 = .ok (.aload_n 0, 1) := by decide +kernel
theorem d_B_part_59 : decode c_B_part 59 = .ok (.iload 11, 2) := by decide +kernel
theorem d_B_part_61 : decode c_B_part 61 = .ok (.invokevirtual 104, 3) := by decide +kernel
theorem d_B_part_64 : decode c_B_part 64 = .ok (.aload_n 0, 1) := by decide +kernel
theorem d_B_part_65 : decode c_B_part 65 = .ok (.iload 11, 2) := by decide +kernel
theorem d_B_part_67 : decode c_B_part 67 = .ok (.invokevirtual 107, 3) := by decide +kernel
theorem d_B_part_70 : decode c_B_part 70 = .ok (.istore 12, 2) := by decide +kernel
theorem d_B_part_72 : decode c_B_part 72 = .ok (.aload_n 0, 1) := by decide +kernel
theorem d_B_part_73 : decode c_B_part 73 = .ok (.getfield 12, 3) := by decide +kernel
theorem d_B_part_76 : decode c_B_part 76 = .ok (.invokevirtual 87, 3) := by decide +kernel
theorem d_B_part_79 : decode c_B_part 79 = .ok (.aload 10, 2) := by decide +kernel
theorem d_B_part_81 : decode c_B_part 81 = .ok (.getfield 111, 3) := by decide +kernel
theorem d_B_part_84 : decode c_B_part 84 = .ok (.iload_n 2, 1) := by decide +kernel
theorem d_B_part_85 : decode c_B_part 85 = .ok (.iconst 1, 1) := by decide +kernel
theorem d_B_part_86 : decode c_B_part 86 = .ok (.isub, 1) := by decide +kernel
theorem d_B_part_87 : decode c_B_part 87 = .ok (.aaload, 1) := by decide +kernel
theorem d_B_part_88 : decode c_B_part 88 = .ok (.aload_n 0, 1) := by decide +kernel
theorem d_B_part_89 : decode c_B_part 89 = .ok (.getfield 53, 3) := by decide +kernel
theorem d_B_part_92 : decode c_B_part 92 = .ok (.invokevirtual 115, 3) := by decide +kernel
theorem d_B_part_95 : decode c_B_part 95 = .ok (.iload 12, 2) := by decide +kernel
theorem d_B_part_97 : decode c_B_part 97 = .ok (.ireturn, 1) := by decide +kernel
abbrev c_B_complete : ByteArray := prog_1_method_4_code
abbrev y_B_complete : MethodName := ⟨"BlobStore", "complete", "(I)I"⟩
theorem i_B_complete : bIs y_B_complete 3 := Or.inl ⟨_, _, t3_21⟩
theorem d_B_complete_0 : decode c_B_complete 0 = .ok (.aload_n 0, 1) := by decide +kernel
theorem d_B_complete_1 : decode c_B_complete 1 = .ok (.getfield 12, 3) := by decide +kernel
theorem d_B_complete_4 : decode c_B_complete 4 = .ok (.invokevirtual 68, 3) := by decide +kernel
theorem d_B_complete_7 : decode c_B_complete 7 = .ok (.aload_n 0, 1) := by decide +kernel
theorem d_B_complete_8 : decode c_B_complete 8 = .ok (.getfield 41, 3) := by decide +kernel
theorem d_B_complete_11 : decode c_B_complete 11 = .ok (.bipush 40, 2) := by decide +kernel
theorem d_B_complete_13 : decode c_B_complete 13 = .ok (.if_icmp .lt 13, 3) := by decide +kernel
theorem d_B_complete_16 : decode c_B_complete 16 = .ok (.new 75, 3) := by decide +kernel
theorem d_B_complete_19 : decode c_B_complete 19 = .ok (.dup, 1) := by decide +kernel
theorem d_B_complete_20 : decode c_B_complete 20 = .ok (.ldc 119, 2) := by decide +kernel
theorem d_B_complete_22 : decode c_B_complete 22 = .ok (.invokespecial 79, 3) := by decide +kernel
theorem d_B_complete_25 : decode c_B_complete 25 = .ok (.athrow, 1) := by decide +kernel
theorem d_B_complete_26 : decode c_B_complete 26 = .ok (.aload_n 0, 1) := by decide +kernel
theorem d_B_complete_27 : decode c_B_complete 27 = .ok (.iload_n 1, 1) := by decide +kernel
theorem d_B_complete_28 : decode c_B_complete 28 = .ok (.invokevirtual 94, 3) := by decide +kernel
theorem d_B_complete_31 : decode c_B_complete 31 = .ok (.astore_n 2, 1) := by decide +kernel
theorem d_B_complete_32 : decode c_B_complete 32 = .ok (.aload_n 0, 1) := by decide +kernel
theorem d_B_complete_33 : decode c_B_complete 33 = .ok (.getfield 12, 3) := by decide +kernel
theorem d_B_complete_36 : decode c_B_complete 36 = .ok (.invokevirtual 87, 3) := by decide +kernel
theorem d_B_complete_39 : decode c_B_complete 39 = .ok (.aload_n 0, 1) := by decide +kernel
theorem d_B_complete_40 : decode c_B_complete 40 = .ok (.getfield 37, 3) := by decide +kernel
theorem d_B_complete_43 : decode c_B_complete 43 = .ok (.aload_n 0, 1) := by decide +kernel
theorem d_B_complete_44 : decode c_B_complete 44 = .ok (.getfield 41, 3) := by decide +kernel
theorem d_B_complete_47 : decode c_B_complete 47 = .ok (.aaload, 1) := by decide +kernel
theorem d_B_complete_48 : decode c_B_complete 48 = .ok (.aload_n 2, 1) := by decide +kernel
theorem d_B_complete_49 : decode c_B_complete 49 = .ok (.invokevirtual 121, 3) := by decide +kernel
theorem d_B_complete_52 : decode c_B_complete 52 = .ok (.aload_n 0, 1) := by decide +kernel
theorem d_B_complete_53 : decode c_B_complete 53 = .ok (.dup, 1) := by decide +kernel
theorem d_B_complete_54 : decode c_B_complete 54 = .ok (.getfield 41, 3) := by decide +kernel
theorem d_B_complete_57 : decode c_B_complete 57 = .ok (.iconst 1, 1) := by decide +kernel
theorem d_B_complete_58 : decode c_B_complete 58 = .ok (.iadd, 1) := by decide +kernel
theorem d_B_complete_59 : decode c_B_complete 59 = .ok (.putfield 41, 3) := by decide +kernel
theorem d_B_complete_62 : decode c_B_complete 62 = .ok (.aload_n 2, 1) := by decide +kernel
theorem d_B_complete_63 : decode c_B_complete 63 = .ok (.iconst 0, 1) := by decide +kernel
theorem d_B_complete_64 : decode c_B_complete 64 = .ok (.putfield 125, 3) := by decide +kernel
theorem d_B_complete_67 : decode c_B_complete 67 = .ok (.aload_n 0, 1) := by decide +kernel
theorem d_B_complete_68 : decode c_B_complete 68 = .ok (.getfield 41, 3) := by decide +kernel
theorem d_B_complete_71 : decode c_B_complete 71 = .ok (.ireturn, 1) := by decide +kernel
abbrev c_B_abort : ByteArray := prog_1_method_5_code
abbrev y_B_abort : MethodName := ⟨"BlobStore", "abort", "(I)V"⟩
theorem i_B_abort : bIs y_B_abort 3 := Or.inl ⟨_, _, t3_34⟩
theorem d_B_abort_0 : decode c_B_abort 0 = .ok (.aload_n 0, 1) := by decide +kernel
theorem d_B_abort_1 : decode c_B_abort 1 = .ok (.getfield 12, 3) := by decide +kernel
theorem d_B_abort_4 : decode c_B_abort 4 = .ok (.invokevirtual 68, 3) := by decide +kernel
theorem d_B_abort_7 : decode c_B_abort 7 = .ok (.aload_n 0, 1) := by decide +kernel
theorem d_B_abort_8 : decode c_B_abort 8 = .ok (.iload_n 1, 1) := by decide +kernel
theorem d_B_abort_9 : decode c_B_abort 9 = .ok (.invokevirtual 94, 3) := by decide +kernel
theorem d_B_abort_12 : decode c_B_abort 12 = .ok (.astore_n 2, 1) := by decide +kernel
theorem d_B_abort_13 : decode c_B_abort 13 = .ok (.aload_n 0, 1) := by decide +kernel
theorem d_B_abort_14 : decode c_B_abort 14 = .ok (.getfield 12, 3) := by decide +kernel
theorem d_B_abort_17 : decode c_B_abort 17 = .ok (.invokevirtual 87, 3) := by decide +kernel
theorem d_B_abort_20 : decode c_B_abort 20 = .ok (.aload_n 2, 1) := by decide +kernel
theorem d_B_abort_21 : decode c_B_abort 21 = .ok (.iconst 0, 1) := by decide +kernel
theorem d_B_abort_22 : decode c_B_abort 22 = .ok (.putfield 125, 3) := by decide +kernel
theorem d_B_abort_25 : decode c_B_abort 25 = .ok (.return_, 1) := by decide +kernel
abbrev c_B_delete : ByteArray := prog_1_method_6_code
abbrev y_B_delete : MethodName := ⟨"BlobStore", "delete", "(I)Z"⟩
theorem i_B_delete : bIs y_B_delete 3 := Or.inl ⟨_, _, t3_41⟩
theorem d_B_delete_0 : decode c_B_delete 0 = .ok (.aload_n 0, 1) := by decide +kernel
theorem d_B_delete_1 : decode c_B_delete 1 = .ok (.getfield 12, 3) := by decide +kernel
theorem d_B_delete_4 : decode c_B_delete 4 = .ok (.invokevirtual 68, 3) := by decide +kernel
theorem d_B_delete_7 : decode c_B_delete 7 = .ok (.aload_n 0, 1) := by decide +kernel
theorem d_B_delete_8 : decode c_B_delete 8 = .ok (.iload_n 1, 1) := by decide +kernel
theorem d_B_delete_9 : decode c_B_delete 9 = .ok (.invokevirtual 129, 3) := by decide +kernel
theorem d_B_delete_12 : decode c_B_delete 12 = .ok (.astore_n 2, 1) := by decide +kernel
theorem d_B_delete_13 : decode c_B_delete 13 = .ok (.aload_n 2, 1) := by decide +kernel
theorem d_B_delete_14 : decode c_B_delete 14 = .ok (.ifnonnull 5, 3) := by decide +kernel
theorem d_B_delete_17 : decode c_B_delete 17 = .ok (.iconst 0, 1) := by decide +kernel
theorem d_B_delete_18 : decode c_B_delete 18 = .ok (.ireturn, 1) := by decide +kernel
theorem d_B_delete_19 : decode c_B_delete 19 = .ok (.aload_n 0, 1) := by decide +kernel
theorem d_B_delete_20 : decode c_B_delete 20 = .ok (.getfield 12, 3) := by decide +kernel
theorem d_B_delete_23 : decode c_B_delete 23 = .ok (.invokevirtual 87, 3) := by decide +kernel
theorem d_B_delete_26 : decode c_B_delete 26 = .ok (.aload_n 2, 1) := by decide +kernel
theorem d_B_delete_27 : decode c_B_delete 27 = .ok (.iconst 0, 1) := by decide +kernel
theorem d_B_delete_28 : decode c_B_delete 28 = .ok (.putfield 133, 3) := by decide +kernel
theorem d_B_delete_31 : decode c_B_delete 31 = .ok (.iconst 1, 1) := by decide +kernel
theorem d_B_delete_32 : decode c_B_delete 32 = .ok (.ireturn, 1) := by decide +kernel
abbrev c_B_collect : ByteArray := prog_1_method_7_code
abbrev y_B_collect : MethodName := ⟨"BlobStore", "collect", "()I"⟩
theorem i_B_collect : bIs y_B_collect 3 := Or.inl ⟨_, _, t3_48⟩
theorem d_B_collect_0 : decode c_B_collect 0 = .ok (.aload_n 0, 1) := by decide +kernel
theorem d_B_collect_1 : decode c_B_collect 1 = .ok (.getfield 12, 3) := by decide +kernel
theorem d_B_collect_4 : decode c_B_collect 4 = .ok (.invokevirtual 68, 3) := by decide +kernel
theorem d_B_collect_7 : decode c_B_collect 7 = .ok (.aload_n 0, 1) := by decide +kernel
theorem d_B_collect_8 : decode c_B_collect 8 = .ok (.invokevirtual 136, 3) := by decide +kernel
theorem d_B_collect_11 : decode c_B_collect 11 = .ok (.iconst 0, 1) := by decide +kernel
theorem d_B_collect_12 : decode c_B_collect 12 = .ok (.istore_n 1, 1) := by decide +kernel
theorem d_B_collect_13 : decode c_B_collect 13 = .ok (.iconst 0, 1) := by decide +kernel
theorem d_B_collect_14 : decode c_B_collect 14 = .ok (.istore_n 2, 1) := by decide +kernel
theorem d_B_collect_15 : decode c_B_collect 15 = .ok (.iload_n 2, 1) := by decide +kernel
theorem d_B_collect_16 : decode c_B_collect 16 = .ok (.bipush 48, 2) := by decide +kernel
theorem d_B_collect_18 : decode c_B_collect 18 = .ok (.if_icmp .ge 49, 3) := by decide +kernel
theorem d_B_collect_21 : decode c_B_collect 21 = .ok (.aload_n 0, 1) := by decide +kernel
theorem d_B_collect_22 : decode c_B_collect 22 = .ok (.getfield 25, 3) := by decide +kernel
theorem d_B_collect_25 : decode c_B_collect 25 = .ok (.iload_n 2, 1) := by decide +kernel
theorem d_B_collect_26 : decode c_B_collect 26 = .ok (.aaload, 1) := by decide +kernel
theorem d_B_collect_27 : decode c_B_collect 27 = .ok (.invokevirtual 139, 3) := by decide +kernel
theorem d_B_collect_30 : decode c_B_collect 30 = .ok (.ifCond .ne 31, 3) := by decide +kernel
theorem d_B_collect_33 : decode c_B_collect 33 = .ok (.aload_n 0, 1) := by decide +kernel
theorem d_B_collect_34 : decode c_B_collect 34 = .ok (.getfield 62, 3) := by decide +kernel
theorem d_B_collect_37 : decode c_B_collect 37 = .ok (.iload_n 2, 1) := by decide +kernel
theorem d_B_collect_38 : decode c_B_collect 38 = .ok (.iaload, 1) := by decide +kernel
theorem d_B_collect_39 : decode c_B_collect 39 = .ok (.ifCond .ne 22, 3) := by decide +kernel
theorem d_B_collect_42 : decode c_B_collect 42 = .ok (.aload_n 0, 1) := by decide +kernel
theorem d_B_collect_43 : decode c_B_collect 43 = .ok (.getfield 12, 3) := by decide +kernel
theorem d_B_collect_46 : decode c_B_collect 46 = .ok (.invokevirtual 87, 3) := by decide +kernel
theorem d_B_collect_49 : decode c_B_collect 49 = .ok (.aload_n 0, 1) := by decide +kernel
theorem d_B_collect_50 : decode c_B_collect 50 = .ok (.getfield 25, 3) := by decide +kernel
theorem d_B_collect_53 : decode c_B_collect 53 = .ok (.iload_n 2, 1) := by decide +kernel
theorem d_B_collect_54 : decode c_B_collect 54 = .ok (.aaload, 1) := by decide +kernel
theorem d_B_collect_55 : decode c_B_collect 55 = .ok (.invokevirtual 143, 3) := by decide +kernel
theorem d_B_collect_58 : decode c_B_collect 58 = .ok (.iinc 1 1, 3) := by decide +kernel
theorem d_B_collect_61 : decode c_B_collect 61 = .ok (.iinc 2 1, 3) := by decide +kernel
theorem d_B_collect_64 : decode c_B_collect 64 = .ok (.goto (-49), 3) := by decide +kernel
theorem d_B_collect_67 : decode c_B_collect 67 = .ok (.iload_n 1, 1) := by decide +kernel
theorem d_B_collect_68 : decode c_B_collect 68 = .ok (.ireturn, 1) := by decide +kernel
abbrev c_B_cutAfter : ByteArray := prog_1_method_8_code
abbrev y_B_cutAfter : MethodName := ⟨"BlobStore", "cutAfter", "(I)V"⟩
theorem i_B_cutAfter : bIs y_B_cutAfter 2 := Or.inl ⟨_, _, t3_59⟩
theorem d_B_cutAfter_0 : decode c_B_cutAfter 0 = .ok (.iload_n 1, 1) := by decide +kernel
theorem d_B_cutAfter_1 : decode c_B_cutAfter 1 = .ok (.ifCond .lt 10, 3) := by decide +kernel
theorem d_B_cutAfter_4 : decode c_B_cutAfter 4 = .ok (.iload_n 1, 1) := by decide +kernel
theorem d_B_cutAfter_5 : decode c_B_cutAfter 5 = .ok (.sipush 1000, 3) := by decide +kernel
theorem d_B_cutAfter_8 : decode c_B_cutAfter 8 = .ok (.if_icmp .le 13, 3) := by decide +kernel
theorem d_B_cutAfter_11 : decode c_B_cutAfter 11 = .ok (.new 82, 3) := by decide +kernel
theorem d_B_cutAfter_14 : decode c_B_cutAfter 14 = .ok (.dup, 1) := by decide +kernel
theorem d_B_cutAfter_15 : decode c_B_cutAfter 15 = .ok (.ldc 146, 2) := by decide +kernel
theorem d_B_cutAfter_17 : decode c_B_cutAfter 17 = .ok (.invokespecial 86, 3) := by decide +kernel
theorem d_B_cutAfter_20 : decode c_B_cutAfter 20 = .ok (.athrow, 1) := by decide +kernel
theorem d_B_cutAfter_21 : decode c_B_cutAfter 21 = .ok (.aload_n 0, 1) := by decide +kernel
theorem d_B_cutAfter_22 : decode c_B_cutAfter 22 = .ok (.getfield 12, 3) := by decide +kernel
theorem d_B_cutAfter_25 : decode c_B_cutAfter 25 = .ok (.iload_n 1, 1) := by decide +kernel
theorem d_B_cutAfter_26 : decode c_B_cutAfter 26 = .ok (.invokevirtual 148, 3) := by decide +kernel
theorem d_B_cutAfter_29 : decode c_B_cutAfter 29 = .ok (.return_, 1) := by decide +kernel
abbrev c_B_recover : ByteArray := prog_1_method_9_code
abbrev y_B_recover : MethodName := ⟨"BlobStore", "recover", "()Z"⟩
theorem i_B_recover : bIs y_B_recover 1 := Or.inl ⟨_, _, t1_180⟩
theorem d_B_recover_0 : decode c_B_recover 0 = .ok (.aload_n 0, 1) := by decide +kernel
theorem d_B_recover_1 : decode c_B_recover 1 = .ok (.getfield 12, 3) := by decide +kernel
theorem d_B_recover_4 : decode c_B_recover 4 = .ok (.invokevirtual 151, 3) := by decide +kernel
theorem d_B_recover_7 : decode c_B_recover 7 = .ok (.ireturn, 1) := by decide +kernel
abbrev c_B_latest : ByteArray := prog_1_method_10_code
abbrev y_B_latest : MethodName := ⟨"BlobStore", "latest", "(II)I"⟩
theorem i_B_latest : bIs y_B_latest 5 := Or.inl ⟨_, _, t1_188⟩
theorem d_B_latest_0 : decode c_B_latest 0 = .ok (.aload_n 0, 1) := by decide +kernel
theorem d_B_latest_1 : decode c_B_latest 1 = .ok (.getfield 41, 3) := by decide +kernel
theorem d_B_latest_4 : decode c_B_latest 4 = .ok (.istore_n 3, 1) := by decide +kernel
theorem d_B_latest_5 : decode c_B_latest 5 = .ok (.iload_n 3, 1) := by decide +kernel
theorem d_B_latest_6 : decode c_B_latest 6 = .ok (.iconst 1, 1) := by decide +kernel
theorem d_B_latest_7 : decode c_B_latest 7 = .ok (.if_icmp .lt 47, 3) := by decide +kernel
theorem d_B_latest_10 : decode c_B_latest 10 = .ok (.aload_n 0, 1) := by decide +kernel
theorem d_B_latest_11 : decode c_B_latest 11 = .ok (.getfield 37, 3) := by decide +kernel
theorem d_B_latest_14 : decode c_B_latest 14 = .ok (.iload_n 3, 1) := by decide +kernel
theorem d_B_latest_15 : decode c_B_latest 15 = .ok (.iconst 1, 1) := by decide +kernel
theorem d_B_latest_16 : decode c_B_latest 16 = .ok (.isub, 1) := by decide +kernel
theorem d_B_latest_17 : decode c_B_latest 17 = .ok (.aaload, 1) := by decide +kernel
theorem d_B_latest_18 : decode c_B_latest 18 = .ok (.astore 4, 2) := by decide +kernel
theorem d_B_latest_20 : decode c_B_latest 20 = .ok (.aload 4, 2) := by decide +kernel
theorem d_B_latest_22 : decode c_B_latest 22 = .ok (.getfield 133, 3) := by decide +kernel
theorem d_B_latest_25 : decode c_B_latest 25 = .ok (.ifCond .eq 23, 3) := by decide +kernel
theorem d_B_latest_28 : decode c_B_latest 28 = .ok (.aload 4, 2) := by decide +kernel
theorem d_B_latest_30 : decode c_B_latest 30 = .ok (.getfield 154, 3) := by decide +kernel
theorem d_B_latest_33 : decode c_B_latest 33 = .ok (.iload_n 1, 1) := by decide +kernel
theorem d_B_latest_34 : decode c_B_latest 34 = .ok (.if_icmp .ne 14, 3) := by decide +kernel
theorem d_B_latest_37 : decode c_B_latest 37 = .ok (.aload 4, 2) := by decide +kernel
theorem d_B_latest_39 : decode c_B_latest 39 = .ok (.getfield 157, 3) := by decide +kernel
theorem d_B_latest_42 : decode c_B_latest 42 = .ok (.iload_n 2, 1) := by decide +kernel
theorem d_B_latest_43 : decode c_B_latest 43 = .ok (.if_icmp .ne 5, 3) := by decide +kernel
theorem d_B_latest_46 : decode c_B_latest 46 = .ok (.iload_n 3, 1) := by decide +kernel
theorem d_B_latest_47 : decode c_B_latest 47 = .ok (.ireturn, 1) := by decide +kernel
theorem d_B_latest_48 : decode c_B_latest 48 = .ok (.iinc 3 (-1), 3) := by decide +kernel
theorem d_B_latest_51 : decode c_B_latest 51 = .ok (.goto (-46), 3) := by decide +kernel
theorem d_B_latest_54 : decode c_B_latest 54 = .ok (.iconst 0, 1) := by decide +kernel
theorem d_B_latest_55 : decode c_B_latest 55 = .ok (.ireturn, 1) := by decide +kernel
abbrev c_B_size : ByteArray := prog_1_method_11_code
abbrev y_B_size : MethodName := ⟨"BlobStore", "size", "(I)I"⟩
theorem i_B_size : bIs y_B_size 5 := Or.inl ⟨_, _, t1_192⟩
theorem d_B_size_0 : decode c_B_size 0 = .ok (.aload_n 0, 1) := by decide +kernel
theorem d_B_size_1 : decode c_B_size 1 = .ok (.iload_n 1, 1) := by decide +kernel
theorem d_B_size_2 : decode c_B_size 2 = .ok (.invokevirtual 129, 3) := by decide +kernel
theorem d_B_size_5 : decode c_B_size 5 = .ok (.astore_n 2, 1) := by decide +kernel
theorem d_B_size_6 : decode c_B_size 6 = .ok (.aload_n 2, 1) := by decide +kernel
theorem d_B_size_7 : decode c_B_size 7 = .ok (.ifnonnull 5, 3) := by decide +kernel
theorem d_B_size_10 : decode c_B_size 10 = .ok (.iconst (-1), 1) := by decide +kernel
theorem d_B_size_11 : decode c_B_size 11 = .ok (.ireturn, 1) := by decide +kernel
theorem d_B_size_12 : decode c_B_size 12 = .ok (.iconst 0, 1) := by decide +kernel
theorem d_B_size_13 : decode c_B_size 13 = .ok (.istore_n 3, 1) := by decide +kernel
theorem d_B_size_14 : decode c_B_size 14 = .ok (.iconst 0, 1) := by decide +kernel
theorem d_B_size_15 : decode c_B_size 15 = .ok (.istore 4, 2) := by decide +kernel
theorem d_B_size_17 : decode c_B_size 17 = .ok (.iload 4, 2) := by decide +kernel
theorem d_B_size_19 : decode c_B_size 19 = .ok (.aload_n 2, 1) := by decide +kernel
theorem d_B_size_20 : decode c_B_size 20 = .ok (.getfield 160, 3) := by decide +kernel
theorem d_B_size_23 : decode c_B_size 23 = .ok (.getfield 163, 3) := by decide +kernel
theorem d_B_size_26 : decode c_B_size 26 = .ok (.if_icmp .ge 30, 3) := by decide +kernel
theorem d_B_size_29 : decode c_B_size 29 = .ok (.iload_n 3, 1) := by decide +kernel
theorem d_B_size_30 : decode c_B_size 30 = .ok (.aload_n 0, 1) := by decide +kernel
theorem d_B_size_31 : decode c_B_size 31 = .ok (.getfield 25, 3) := by decide +kernel
theorem d_B_size_34 : decode c_B_size 34 = .ok (.aload_n 2, 1) := by decide +kernel
theorem d_B_size_35 : decode c_B_size 35 = .ok (.getfield 160, 3) := by decide +kernel
theorem d_B_size_38 : decode c_B_size 38 = .ok (.getfield 166, 3) := by decide +kernel
theorem d_B_size_41 : decode c_B_size 41 = .ok (.iload 4, 2) := by decide +kernel
theorem d_B_size_43 : decode c_B_size 43 = .ok (.iaload, 1) := by decide +kernel
theorem d_B_size_44 : decode c_B_size 44 = .ok (.aaload, 1) := by decide +kernel
theorem d_B_size_45 : decode c_B_size 45 = .ok (.getfield 168, 3) := by decide +kernel
theorem d_B_size_48 : decode c_B_size 48 = .ok (.iadd, 1) := by decide +kernel
theorem d_B_size_49 : decode c_B_size 49 = .ok (.istore_n 3, 1) := by decide +kernel
theorem d_B_size_50 : decode c_B_size 50 = .ok (.iinc 4 1, 3) := by decide +kernel
theorem d_B_size_53 : decode c_B_size 53 = .ok (.goto (-36), 3) := by decide +kernel
theorem d_B_size_56 : decode c_B_size 56 = .ok (.iload_n 3, 1) := by decide +kernel
theorem d_B_size_57 : decode c_B_size 57 = .ok (.ireturn, 1) := by decide +kernel
abbrev c_B_byteAt : ByteArray := prog_1_method_12_code
abbrev y_B_byteAt : MethodName := ⟨"BlobStore", "byteAt", "(II)I"⟩
theorem i_B_byteAt : bIs y_B_byteAt 7 := Or.inl ⟨_, _, t1_200⟩
theorem d_B_byteAt_0 : decode c_B_byteAt 0 = .ok (.aload_n 0, 1) := by decide +kernel
theorem d_B_byteAt_1 : decode c_B_byteAt 1 = .ok (.iload_n 1, 1) := by decide +kernel
theorem d_B_byteAt_2 : decode c_B_byteAt 2 = .ok (.invokevirtual 129, 3) := by decide +kernel
theorem d_B_byteAt_5 : decode c_B_byteAt 5 = .ok (.astore_n 3, 1) := by decide +kernel
theorem d_B_byteAt_6 : decode c_B_byteAt 6 = .ok (.aload_n 3, 1) := by decide +kernel
theorem d_B_byteAt_7 : decode c_B_byteAt 7 = .ok (.ifnull 7, 3) := by decide +kernel
theorem d_B_byteAt_10 : decode c_B_byteAt 10 = .ok (.iload_n 2, 1) := by decide +kernel
theorem d_B_byteAt_11 : decode c_B_byteAt 11 = .ok (.ifCond .ge 5, 3) := by decide +kernel
theorem d_B_byteAt_14 : decode c_B_byteAt 14 = .ok (.iconst (-1), 1) := by decide +kernel
theorem d_B_byteAt_15 : decode c_B_byteAt 15 = .ok (.ireturn, 1) := by decide +kernel
theorem d_B_byteAt_16 : decode c_B_byteAt 16 = .ok (.iload_n 2, 1) := by decide +kernel
theorem d_B_byteAt_17 : decode c_B_byteAt 17 = .ok (.istore 4, 2) := by decide +kernel
theorem d_B_byteAt_19 : decode c_B_byteAt 19 = .ok (.iconst 0, 1) := by decide +kernel
theorem d_B_byteAt_20 : decode c_B_byteAt 20 = .ok (.istore 5, 2) := by decide +kernel
theorem d_B_byteAt_22 : decode c_B_byteAt 22 = .ok (.iload 5, 2) := by decide +kernel
theorem d_B_byteAt_24 : decode c_B_byteAt 24 = .ok (.aload_n 3, 1) := by decide +kernel
theorem d_B_byteAt_25 : decode c_B_byteAt 25 = .ok (.getfield 160, 3) := by decide +kernel
theorem d_B_byteAt_28 : decode c_B_byteAt 28 = .ok (.getfield 163, 3) := by decide +kernel
theorem d_B_byteAt_31 : decode c_B_byteAt 31 = .ok (.if_icmp .ge 54, 3) := by decide +kernel
theorem d_B_byteAt_34 : decode c_B_byteAt 34 = .ok (.aload_n 0, 1) := by decide +kernel
theorem d_B_byteAt_35 : decode c_B_byteAt 35 = .ok (.getfield 25, 3) := by decide +kernel
theorem d_B_byteAt_38 : decode c_B_byteAt 38 = .ok (.aload_n 3, 1) := by decide +kernel
theorem d_B_byteAt_39 : decode c_B_byteAt 39 = .ok (.getfield 160, 3) := by decide +kernel
theorem d_B_byteAt_42 : decode c_B_byteAt 42 = .ok (.getfield 166, 3) := by decide +kernel
theorem d_B_byteAt_45 : decode c_B_byteAt 45 = .ok (.iload 5, 2) := by decide +kernel
theorem d_B_byteAt_47 : decode c_B_byteAt 47 = .ok (.iaload, 1) := by decide +kernel
theorem d_B_byteAt_48 : decode c_B_byteAt 48 = .ok (.aaload, 1) := by decide +kernel
theorem d_B_byteAt_49 : decode c_B_byteAt 49 = .ok (.astore 6, 2) := by decide +kernel
theorem d_B_byteAt_51 : decode c_B_byteAt 51 = .ok (.iload 4, 2) := by decide +kernel
theorem d_B_byteAt_53 : decode c_B_byteAt 53 = .ok (.aload 6, 2) := by decide +kernel
theorem d_B_byteAt_55 : decode c_B_byteAt 55 = .ok (.getfield 168, 3) := by decide +kernel
theorem d_B_byteAt_58 : decode c_B_byteAt 58 = .ok (.if_icmp .ge 11, 3) := by decide +kernel
theorem d_B_byteAt_61 : decode c_B_byteAt 61 = .ok (.aload 6, 2) := by decide +kernel
theorem d_B_byteAt_63 : decode c_B_byteAt 63 = .ok (.iload 4, 2) := by decide +kernel
theorem d_B_byteAt_65 : decode c_B_byteAt 65 = .ok (.invokevirtual 169, 3) := by decide +kernel
theorem d_B_byteAt_68 : decode c_B_byteAt 68 = .ok (.ireturn, 1) := by decide +kernel
theorem d_B_byteAt_69 : decode c_B_byteAt 69 = .ok (.iload 4, 2) := by decide +kernel
theorem d_B_byteAt_71 : decode c_B_byteAt 71 = .ok (.aload 6, 2) := by decide +kernel
theorem d_B_byteAt_73 : decode c_B_byteAt 73 = .ok (.getfield 168, 3) := by decide +kernel
theorem d_B_byteAt_76 : decode c_B_byteAt 76 = .ok (.isub, 1) := by decide +kernel
theorem d_B_byteAt_77 : decode c_B_byteAt 77 = .ok (.istore 4, 2) := by decide +kernel
theorem d_B_byteAt_79 : decode c_B_byteAt 79 = .ok (.iinc 5 1, 3) := by decide +kernel
theorem d_B_byteAt_82 : decode c_B_byteAt 82 = .ok (.goto (-60), 3) := by decide +kernel
theorem d_B_byteAt_85 : decode c_B_byteAt 85 = .ok (.iconst (-1), 1) := by decide +kernel
theorem d_B_byteAt_86 : decode c_B_byteAt 86 = .ok (.ireturn, 1) := by decide +kernel
abbrev c_B_address : ByteArray := prog_1_method_13_code
abbrev y_B_address : MethodName := ⟨"BlobStore", "address", "(II)I"⟩
theorem i_B_address : bIs y_B_address 3 := Or.inl ⟨_, _, t3_72⟩
theorem d_B_address_0 : decode c_B_address 0 = .ok (.aload_n 0, 1) := by decide +kernel
theorem d_B_address_1 : decode c_B_address 1 = .ok (.iload_n 1, 1) := by decide +kernel
theorem d_B_address_2 : decode c_B_address 2 = .ok (.invokevirtual 172, 3) := by decide +kernel
theorem d_B_address_5 : decode c_B_address 5 = .ok (.ifCond .eq 13, 3) := by decide +kernel
theorem d_B_address_8 : decode c_B_address 8 = .ok (.iload_n 2, 1) := by decide +kernel
theorem d_B_address_9 : decode c_B_address 9 = .ok (.ifCond .lt 9, 3) := by decide +kernel
theorem d_B_address_12 : decode c_B_address 12 = .ok (.iload_n 2, 1) := by decide +kernel
theorem d_B_address_13 : decode c_B_address 13 = .ok (.bipush 8, 2) := by decide +kernel
theorem d_B_address_15 : decode c_B_address 15 = .ok (.if_icmp .lt 13, 3) := by decide +kernel
theorem d_B_address_18 : decode c_B_address 18 = .ok (.new 176, 3) := by decide +kernel
theorem d_B_address_21 : decode c_B_address 21 = .ok (.dup, 1) := by decide +kernel
theorem d_B_address_22 : decode c_B_address 22 = .ok (.ldc 178, 2) := by decide +kernel
theorem d_B_address_24 : decode c_B_address 24 = .ok (.invokespecial 180, 3) := by decide +kernel
theorem d_B_address_27 : decode c_B_address 27 = .ok (.athrow, 1) := by decide +kernel
theorem d_B_address_28 : decode c_B_address 28 = .ok (.aload_n 0, 1) := by decide +kernel
theorem d_B_address_29 : decode c_B_address 29 = .ok (.getfield 25, 3) := by decide +kernel
theorem d_B_address_32 : decode c_B_address 32 = .ok (.iload_n 1, 1) := by decide +kernel
theorem d_B_address_33 : decode c_B_address 33 = .ok (.aaload, 1) := by decide +kernel
theorem d_B_address_34 : decode c_B_address 34 = .ok (.getfield 181, 3) := by decide +kernel
theorem d_B_address_37 : decode c_B_address 37 = .ok (.iload_n 2, 1) := by decide +kernel
theorem d_B_address_38 : decode c_B_address 38 = .ok (.iaload, 1) := by decide +kernel
theorem d_B_address_39 : decode c_B_address 39 = .ok (.ireturn, 1) := by decide +kernel
abbrev c_B_needed : ByteArray := prog_1_method_14_code
abbrev y_B_needed : MethodName := ⟨"BlobStore", "needed", "(I)I"⟩
theorem i_B_needed : bIs y_B_needed 2 := Or.inl ⟨_, _, t1_208⟩
theorem d_B_needed_0 : decode c_B_needed 0 = .ok (.aload_n 0, 1) := by decide +kernel
theorem d_B_needed_1 : decode c_B_needed 1 = .ok (.iload_n 1, 1) := by decide +kernel
theorem d_B_needed_2 : decode c_B_needed 2 = .ok (.invokevirtual 172, 3) := by decide +kernel
theorem d_B_needed_5 : decode c_B_needed 5 = .ok (.ifCond .ne 5, 3) := by decide +kernel
theorem d_B_needed_8 : decode c_B_needed 8 = .ok (.iconst (-1), 1) := by decide +kernel
theorem d_B_needed_9 : decode c_B_needed 9 = .ok (.ireturn, 1) := by decide +kernel
theorem d_B_needed_10 : decode c_B_needed 10 = .ok (.aload_n 0, 1) := by decide +kernel
theorem d_B_needed_11 : decode c_B_needed 11 = .ok (.invokevirtual 136, 3) := by decide +kernel
theorem d_B_needed_14 : decode c_B_needed 14 = .ok (.aload_n 0, 1) := by decide +kernel
theorem d_B_needed_15 : decode c_B_needed 15 = .ok (.getfield 62, 3) := by decide +kernel
theorem d_B_needed_18 : decode c_B_needed 18 = .ok (.iload_n 1, 1) := by decide +kernel
theorem d_B_needed_19 : decode c_B_needed 19 = .ok (.iaload, 1) := by decide +kernel
theorem d_B_needed_20 : decode c_B_needed 20 = .ok (.ireturn, 1) := by decide +kernel
abbrev c_B_slotOf : ByteArray := prog_1_method_15_code
abbrev y_B_slotOf : MethodName := ⟨"BlobStore", "slotOf", "(IJ)I"⟩
theorem i_B_slotOf : bIs y_B_slotOf 4 := Or.inl ⟨_, _, t1_236⟩
theorem d_B_slotOf_0 : decode c_B_slotOf 0 = .ok (.iload_n 1, 1) := by decide +kernel
theorem d_B_slotOf_1 : decode c_B_slotOf 1 = .ok (.iconst 1, 1) := by decide +kernel
theorem d_B_slotOf_2 : decode c_B_slotOf 2 = .ok (.if_icmp .lt 9, 3) := by decide +kernel
theorem d_B_slotOf_5 : decode c_B_slotOf 5 = .ok (.iload_n 1, 1) := by decide +kernel
theorem d_B_slotOf_6 : decode c_B_slotOf 6 = .ok (.bipush 8, 2) := by decide +kernel
theorem d_B_slotOf_8 : decode c_B_slotOf 8 = .ok (.if_icmp .le 5, 3) := by decide +kernel
theorem d_B_slotOf_11 : decode c_B_slotOf 11 = .ok (.iconst (-1), 1) := by decide +kernel
theorem d_B_slotOf_12 : decode c_B_slotOf 12 = .ok (.ireturn, 1) := by decide +kernel
theorem d_B_slotOf_13 : decode c_B_slotOf 13 = .ok (.aload_n 0, 1) := by decide +kernel
theorem d_B_slotOf_14 : decode c_B_slotOf 14 = .ok (.getfield 58, 3) := by decide +kernel
theorem d_B_slotOf_17 : decode c_B_slotOf 17 = .ok (.iload_n 1, 1) := by decide +kernel
theorem d_B_slotOf_18 : decode c_B_slotOf 18 = .ok (.lload_n 2, 1) := by decide +kernel
theorem d_B_slotOf_19 : decode c_B_slotOf 19 = .ok (.aload_n 0, 1) := by decide +kernel
theorem d_B_slotOf_20 : decode c_B_slotOf 20 = .ok (.getfield 19, 3) := by decide +kernel
theorem d_B_slotOf_23 : decode c_B_slotOf 23 = .ok (.invokevirtual 184, 3) := by decide +kernel
theorem d_B_slotOf_26 : decode c_B_slotOf 26 = .ok (.aload_n 0, 1) := by decide +kernel
theorem d_B_slotOf_27 : decode c_B_slotOf 27 = .ok (.aload_n 0, 1) := by decide +kernel
theorem d_B_slotOf_28 : decode c_B_slotOf 28 = .ok (.getfield 58, 3) := by decide +kernel
theorem d_B_slotOf_31 : decode c_B_slotOf 31 = .ok (.invokevirtual 188, 3) := by decide +kernel
theorem d_B_slotOf_34 : decode c_B_slotOf 34 = .ok (.ireturn, 1) := by decide +kernel
abbrev c_B_state : ByteArray := prog_1_method_16_code
abbrev y_B_state : MethodName := ⟨"BlobStore", "state", "(I)I"⟩
theorem i_B_state : bIs y_B_state 2 := Or.inl ⟨_, _, t2_38⟩
theorem d_B_state_0 : decode c_B_state 0 = .ok (.iload_n 1, 1) := by decide +kernel
theorem d_B_state_1 : decode c_B_state 1 = .ok (.tableswitch 143 0 7 #[47, 52, 57, 62, 67, 75, 91, 117], 47) := by decide +kernel
theorem d_B_state_48 : decode c_B_state 48 = .ok (.aload_n 0, 1) := by decide +kernel
theorem d_B_state_49 : decode c_B_state 49 = .ok (.invokevirtual 192, 3) := by decide +kernel
theorem d_B_state_52 : decode c_B_state 52 = .ok (.ireturn, 1) := by decide +kernel
theorem d_B_state_53 : decode c_B_state 53 = .ok (.aload_n 0, 1) := by decide +kernel
theorem d_B_state_54 : decode c_B_state 54 = .ok (.invokevirtual 195, 3) := by decide +kernel
theorem d_B_state_57 : decode c_B_state 57 = .ok (.ireturn, 1) := by decide +kernel
theorem d_B_state_58 : decode c_B_state 58 = .ok (.aload_n 0, 1) := by decide +kernel
theorem d_B_state_59 : decode c_B_state 59 = .ok (.invokevirtual 198, 3) := by decide +kernel
theorem d_B_state_62 : decode c_B_state 62 = .ok (.ireturn, 1) := by decide +kernel
theorem d_B_state_63 : decode c_B_state 63 = .ok (.aload_n 0, 1) := by decide +kernel
theorem d_B_state_64 : decode c_B_state 64 = .ok (.getfield 41, 3) := by decide +kernel
theorem d_B_state_67 : decode c_B_state 67 = .ok (.ireturn, 1) := by decide +kernel
theorem d_B_state_68 : decode c_B_state 68 = .ok (.aload_n 0, 1) := by decide +kernel
theorem d_B_state_69 : decode c_B_state 69 = .ok (.getfield 12, 3) := by decide +kernel
theorem d_B_state_72 : decode c_B_state 72 = .ok (.getfield 201, 3) := by decide +kernel
theorem d_B_state_75 : decode c_B_state 75 = .ok (.ireturn, 1) := by decide +kernel
theorem d_B_state_76 : decode c_B_state 76 = .ok (.aload_n 0, 1) := by decide +kernel
theorem d_B_state_77 : decode c_B_state 77 = .ok (.getfield 12, 3) := by decide +kernel
theorem d_B_state_80 : decode c_B_state 80 = .ok (.getfield 204, 3) := by decide +kernel
theorem d_B_state_83 : decode c_B_state 83 = .ok (.ifCond .eq 7, 3) := by decide +kernel
theorem d_B_state_86 : decode c_B_state 86 = .ok (.iconst 1, 1) := by decide +kernel
theorem d_B_state_87 : decode c_B_state 87 = .ok (.goto 4, 3) := by decide +kernel
theorem d_B_state_90 : decode c_B_state 90 = .ok (.iconst 0, 1) := by decide +kernel
theorem d_B_state_91 : decode c_B_state 91 = .ok (.ireturn, 1) := by decide +kernel
theorem d_B_state_92 : decode c_B_state 92 = .ok (.aload_n 0, 1) := by decide +kernel
theorem d_B_state_93 : decode c_B_state 93 = .ok (.getfield 41, 3) := by decide +kernel
theorem d_B_state_96 : decode c_B_state 96 = .ok (.ifCond .ne 7, 3) := by decide +kernel
theorem d_B_state_99 : decode c_B_state 99 = .ok (.iconst (-1), 1) := by decide +kernel
theorem d_B_state_100 : decode c_B_state 100 = .ok (.goto 17, 3) := by decide +kernel
theorem d_B_state_103 : decode c_B_state 103 = .ok (.aload_n 0, 1) := by decide +kernel
theorem d_B_state_104 : decode c_B_state 104 = .ok (.getfield 37, 3) := by decide +kernel
theorem d_B_state_107 : decode c_B_state 107 = .ok (.aload_n 0, 1) := by decide +kernel
theorem d_B_state_108 : decode c_B_state 108 = .ok (.getfield 41, 3) := by decide +kernel
theorem d_B_state_111 : decode c_B_state 111 = .ok (.iconst 1, 1) := by decide +kernel
theorem d_B_state_112 : decode c_B_state 112 = .ok (.isub, 1) := by decide +kernel
theorem d_B_state_113 : decode c_B_state 113 = .ok (.aaload, 1) := by decide +kernel
theorem d_B_state_114 : decode c_B_state 114 = .ok (.getfield 154, 3) := by decide +kernel
theorem d_B_state_117 : decode c_B_state 117 = .ok (.ireturn, 1) := by decide +kernel
theorem d_B_state_118 : decode c_B_state 118 = .ok (.aload_n 0, 1) := by decide +kernel
theorem d_B_state_119 : decode c_B_state 119 = .ok (.getfield 41, 3) := by decide +kernel
theorem d_B_state_122 : decode c_B_state 122 = .ok (.ifCond .ne 7, 3) := by decide +kernel
theorem d_B_state_125 : decode c_B_state 125 = .ok (.iconst (-1), 1) := by decide +kernel
theorem d_B_state_126 : decode c_B_state 126 = .ok (.goto 17, 3) := by decide +kernel
theorem d_B_state_129 : decode c_B_state 129 = .ok (.aload_n 0, 1) := by decide +kernel
theorem d_B_state_130 : decode c_B_state 130 = .ok (.getfield 37, 3) := by decide +kernel
theorem d_B_state_133 : decode c_B_state 133 = .ok (.aload_n 0, 1) := by decide +kernel
theorem d_B_state_134 : decode c_B_state 134 = .ok (.getfield 41, 3) := by decide +kernel
theorem d_B_state_137 : decode c_B_state 137 = .ok (.iconst 1, 1) := by decide +kernel
theorem d_B_state_138 : decode c_B_state 138 = .ok (.isub, 1) := by decide +kernel
theorem d_B_state_139 : decode c_B_state 139 = .ok (.aaload, 1) := by decide +kernel
theorem d_B_state_140 : decode c_B_state 140 = .ok (.getfield 157, 3) := by decide +kernel
theorem d_B_state_143 : decode c_B_state 143 = .ok (.ireturn, 1) := by decide +kernel
theorem d_B_state_144 : decode c_B_state 144 = .ok (.iconst (-1), 1) := by decide +kernel
theorem d_B_state_145 : decode c_B_state 145 = .ok (.ireturn, 1) := by decide +kernel
abbrev c_B_leastClosedSession : ByteArray := prog_1_method_17_code
abbrev y_B_leastClosedSession : MethodName := ⟨"BlobStore", "leastClosedSession", "()I"⟩
theorem i_B_leastClosedSession : bIs y_B_leastClosedSession 2 := Or.inl ⟨_, _, t2_138⟩
theorem d_B_leastClosedSession_0 : decode c_B_leastClosedSession 0 = .ok (.iconst 0, 1) := by decide +kernel
theorem d_B_leastClosedSession_1 : decode c_B_leastClosedSession 1 = .ok (.istore_n 1, 1) := by decide +kernel
theorem d_B_leastClosedSession_2 : decode c_B_leastClosedSession 2 = .ok (.iload_n 1, 1) := by decide +kernel
theorem d_B_leastClosedSession_3 : decode c_B_leastClosedSession 3 = .ok (.iconst 5, 1) := by decide +kernel
theorem d_B_leastClosedSession_4 : decode c_B_leastClosedSession 4 = .ok (.if_icmp .ge 23, 3) := by decide +kernel
theorem d_B_leastClosedSession_7 : decode c_B_leastClosedSession 7 = .ok (.aload_n 0, 1) := by decide +kernel
theorem d_B_leastClosedSession_8 : decode c_B_leastClosedSession 8 = .ok (.getfield 31, 3) := by decide +kernel
theorem d_B_leastClosedSession_11 : decode c_B_leastClosedSession 11 = .ok (.iload_n 1, 1) := by decide +kernel
theorem d_B_leastClosedSession_12 : decode c_B_leastClosedSession 12 = .ok (.aaload, 1) := by decide +kernel
theorem d_B_leastClosedSession_13 : decode c_B_leastClosedSession 13 = .ok (.getfield 125, 3) := by decide +kernel
theorem d_B_leastClosedSession_16 : decode c_B_leastClosedSession 16 = .ok (.ifCond .ne 5, 3) := by decide +kernel
theorem d_B_leastClosedSession_19 : decode c_B_leastClosedSession 19 = .ok (.iload_n 1, 1) := by decide +kernel
theorem d_B_leastClosedSession_20 : decode c_B_leastClosedSession 20 = .ok (.ireturn, 1) := by decide +kernel
theorem d_B_leastClosedSession_21 : decode c_B_leastClosedSession 21 = .ok (.iinc 1 1, 3) := by decide +kernel
theorem d_B_leastClosedSession_24 : decode c_B_leastClosedSession 24 = .ok (.goto (-22), 3) := by decide +kernel
theorem d_B_leastClosedSession_27 : decode c_B_leastClosedSession 27 = .ok (.iconst (-1), 1) := by decide +kernel
theorem d_B_leastClosedSession_28 : decode c_B_leastClosedSession 28 = .ok (.ireturn, 1) := by decide +kernel
abbrev c_B_openSession : ByteArray := prog_1_method_18_code
abbrev y_B_openSession : MethodName := ⟨"BlobStore", "openSession", "(I)LBlobStore$Session;"⟩
theorem i_B_openSession : bIs y_B_openSession 2 := Or.inl ⟨_, _, t2_193⟩
theorem d_B_openSession_0 : decode c_B_openSession 0 = .ok (.iload_n 1, 1) := by decide +kernel
theorem d_B_openSession_1 : decode c_B_openSession 1 = .ok (.ifCond .lt 20, 3) := by decide +kernel
theorem d_B_openSession_4 : decode c_B_openSession 4 = .ok (.iload_n 1, 1) := by decide +kernel
theorem d_B_openSession_5 : decode c_B_openSession 5 = .ok (.iconst 5, 1) := by decide +kernel
theorem d_B_openSession_6 : decode c_B_openSession 6 = .ok (.if_icmp .ge 15, 3) := by decide +kernel
theorem d_B_openSession_9 : decode c_B_openSession 9 = .ok (.aload_n 0, 1) := by decide +kernel
theorem d_B_openSession_10 : decode c_B_openSession 10 = .ok (.getfield 31, 3) := by decide +kernel
theorem d_B_openSession_13 : decode c_B_openSession 13 = .ok (.iload_n 1, 1) := by decide +kernel
theorem d_B_openSession_14 : decode c_B_openSession 14 = .ok (.aaload, 1) := by decide +kernel
theorem d_B_openSession_15 : decode c_B_openSession 15 = .ok (.getfield 125, 3) := by decide +kernel
theorem d_B_openSession_18 : decode c_B_openSession 18 = .ok (.ifCond .ne 13, 3) := by decide +kernel
theorem d_B_openSession_21 : decode c_B_openSession 21 = .ok (.new 82, 3) := by decide +kernel
theorem d_B_openSession_24 : decode c_B_openSession 24 = .ok (.dup, 1) := by decide +kernel
theorem d_B_openSession_25 : decode c_B_openSession 25 = .ok (.ldc 207, 2) := by decide +kernel
theorem d_B_openSession_27 : decode c_B_openSession 27 = .ok (.invokespecial 86, 3) := by decide +kernel
theorem d_B_openSession_30 : decode c_B_openSession 30 = .ok (.athrow, 1) := by decide +kernel
theorem d_B_openSession_31 : decode c_B_openSession 31 = .ok (.aload_n 0, 1) := by decide +kernel
theorem d_B_openSession_32 : decode c_B_openSession 32 = .ok (.getfield 31, 3) := by decide +kernel
theorem d_B_openSession_35 : decode c_B_openSession 35 = .ok (.iload_n 1, 1) := by decide +kernel
theorem d_B_openSession_36 : decode c_B_openSession 36 = .ok (.aaload, 1) := by decide +kernel
theorem d_B_openSession_37 : decode c_B_openSession 37 = .ok (.areturn, 1) := by decide +kernel
abbrev c_B_livingVersion : ByteArray := prog_1_method_19_code
abbrev y_B_livingVersion : MethodName := ⟨"BlobStore", "livingVersion", "(I)LBlobStore$Version;"⟩
theorem i_B_livingVersion : bIs y_B_livingVersion 2 := Or.inl ⟨_, _, t1_196⟩
theorem d_B_livingVersion_0 : decode c_B_livingVersion 0 = .ok (.iload_n 1, 1) := by decide +kernel
theorem d_B_livingVersion_1 : decode c_B_livingVersion 1 = .ok (.iconst 1, 1) := by decide +kernel
theorem d_B_livingVersion_2 : decode c_B_livingVersion 2 = .ok (.if_icmp .lt 25, 3) := by decide +kernel
theorem d_B_livingVersion_5 : decode c_B_livingVersion 5 = .ok (.iload_n 1, 1) := by decide +kernel
theorem d_B_livingVersion_6 : decode c_B_livingVersion 6 = .ok (.aload_n 0, 1) := by decide +kernel
theorem d_B_livingVersion_7 : decode c_B_livingVersion 7 = .ok (.getfield 41, 3) := by decide +kernel
theorem d_B_livingVersion_10 : decode c_B_livingVersion 10 = .ok (.if_icmp .gt 17, 3) := by decide +kernel
theorem d_B_livingVersion_13 : decode c_B_livingVersion 13 = .ok (.aload_n 0, 1) := by decide +kernel
theorem d_B_livingVersion_14 : decode c_B_livingVersion 14 = .ok (.getfield 37, 3) := by decide +kernel
theorem d_B_livingVersion_17 : decode c_B_livingVersion 17 = .ok (.iload_n 1, 1) := by decide +kernel
theorem d_B_livingVersion_18 : decode c_B_livingVersion 18 = .ok (.iconst 1, 1) := by decide +kernel
theorem d_B_livingVersion_19 : decode c_B_livingVersion 19 = .ok (.isub, 1) := by decide +kernel
theorem d_B_livingVersion_20 : decode c_B_livingVersion 20 = .ok (.aaload, 1) := by decide +kernel
theorem d_B_livingVersion_21 : decode c_B_livingVersion 21 = .ok (.getfield 133, 3) := by decide +kernel
theorem d_B_livingVersion_24 : decode c_B_livingVersion 24 = .ok (.ifCond .ne 5, 3) := by decide +kernel
theorem d_B_livingVersion_27 : decode c_B_livingVersion 27 = .ok (.aconst_null, 1) := by decide +kernel
theorem d_B_livingVersion_28 : decode c_B_livingVersion 28 = .ok (.areturn, 1) := by decide +kernel
theorem d_B_livingVersion_29 : decode c_B_livingVersion 29 = .ok (.aload_n 0, 1) := by decide +kernel
theorem d_B_livingVersion_30 : decode c_B_livingVersion 30 = .ok (.getfield 37, 3) := by decide +kernel
theorem d_B_livingVersion_33 : decode c_B_livingVersion 33 = .ok (.iload_n 1, 1) := by decide +kernel
theorem d_B_livingVersion_34 : decode c_B_livingVersion 34 = .ok (.iconst 1, 1) := by decide +kernel
theorem d_B_livingVersion_35 : decode c_B_livingVersion 35 = .ok (.isub, 1) := by decide +kernel
theorem d_B_livingVersion_36 : decode c_B_livingVersion 36 = .ok (.aaload, 1) := by decide +kernel
theorem d_B_livingVersion_37 : decode c_B_livingVersion 37 = .ok (.areturn, 1) := by decide +kernel
abbrev c_B_hasChunk : ByteArray := prog_1_method_20_code
abbrev y_B_hasChunk : MethodName := ⟨"BlobStore", "hasChunk", "(I)Z"⟩
theorem i_B_hasChunk : bIs y_B_hasChunk 2 := Or.inl ⟨_, _, t1_212⟩
theorem d_B_hasChunk_0 : decode c_B_hasChunk 0 = .ok (.iload_n 1, 1) := by decide +kernel
theorem d_B_hasChunk_1 : decode c_B_hasChunk 1 = .ok (.ifCond .lt 25, 3) := by decide +kernel
theorem d_B_hasChunk_4 : decode c_B_hasChunk 4 = .ok (.iload_n 1, 1) := by decide +kernel
theorem d_B_hasChunk_5 : decode c_B_hasChunk 5 = .ok (.bipush 48, 2) := by decide +kernel
theorem d_B_hasChunk_7 : decode c_B_hasChunk 7 = .ok (.if_icmp .ge 19, 3) := by decide +kernel
theorem d_B_hasChunk_10 : decode c_B_hasChunk 10 = .ok (.aload_n 0, 1) := by decide +kernel
theorem d_B_hasChunk_11 : decode c_B_hasChunk 11 = .ok (.getfield 25, 3) := by decide +kernel
theorem d_B_hasChunk_14 : decode c_B_hasChunk 14 = .ok (.iload_n 1, 1) := by decide +kernel
theorem d_B_hasChunk_15 : decode c_B_hasChunk 15 = .ok (.aaload, 1) := by decide +kernel
theorem d_B_hasChunk_16 : decode c_B_hasChunk 16 = .ok (.invokevirtual 139, 3) := by decide +kernel
theorem d_B_hasChunk_19 : decode c_B_hasChunk 19 = .ok (.ifCond .ne 7, 3) := by decide +kernel
theorem d_B_hasChunk_22 : decode c_B_hasChunk 22 = .ok (.iconst 1, 1) := by decide +kernel
theorem d_B_hasChunk_23 : decode c_B_hasChunk 23 = .ok (.goto 4, 3) := by decide +kernel
theorem d_B_hasChunk_26 : decode c_B_hasChunk 26 = .ok (.iconst 0, 1) := by decide +kernel
theorem d_B_hasChunk_27 : decode c_B_hasChunk 27 = .ok (.ireturn, 1) := by decide +kernel
abbrev c_B_slotWith : ByteArray := prog_1_method_21_code
abbrev y_B_slotWith : MethodName := ⟨"BlobStore", "slotWith", "(LBlobStore$Chunk;)I"⟩
theorem i_B_slotWith : bIs y_B_slotWith 3 := Or.inl ⟨_, _, t2_30⟩
theorem d_B_slotWith_0 : decode c_B_slotWith 0 = .ok (.iconst 0, 1) := by decide +kernel
theorem d_B_slotWith_1 : decode c_B_slotWith 1 = .ok (.istore_n 2, 1) := by decide +kernel
theorem d_B_slotWith_2 : decode c_B_slotWith 2 = .ok (.iload_n 2, 1) := by decide +kernel
theorem d_B_slotWith_3 : decode c_B_slotWith 3 = .ok (.bipush 48, 2) := by decide +kernel
theorem d_B_slotWith_5 : decode c_B_slotWith 5 = .ok (.if_icmp .ge 36, 3) := by decide +kernel
theorem d_B_slotWith_8 : decode c_B_slotWith 8 = .ok (.aload_n 0, 1) := by decide +kernel
theorem d_B_slotWith_9 : decode c_B_slotWith 9 = .ok (.getfield 25, 3) := by decide +kernel
theorem d_B_slotWith_12 : decode c_B_slotWith 12 = .ok (.iload_n 2, 1) := by decide +kernel
theorem d_B_slotWith_13 : decode c_B_slotWith 13 = .ok (.aaload, 1) := by decide +kernel
theorem d_B_slotWith_14 : decode c_B_slotWith 14 = .ok (.invokevirtual 139, 3) := by decide +kernel
theorem d_B_slotWith_17 : decode c_B_slotWith 17 = .ok (.ifCond .ne 18, 3) := by decide +kernel
theorem d_B_slotWith_20 : decode c_B_slotWith 20 = .ok (.aload_n 0, 1) := by decide +kernel
theorem d_B_slotWith_21 : decode c_B_slotWith 21 = .ok (.getfield 25, 3) := by decide +kernel
theorem d_B_slotWith_24 : decode c_B_slotWith 24 = .ok (.iload_n 2, 1) := by decide +kernel
theorem d_B_slotWith_25 : decode c_B_slotWith 25 = .ok (.aaload, 1) := by decide +kernel
theorem d_B_slotWith_26 : decode c_B_slotWith 26 = .ok (.aload_n 1, 1) := by decide +kernel
theorem d_B_slotWith_27 : decode c_B_slotWith 27 = .ok (.invokevirtual 209, 3) := by decide +kernel
theorem d_B_slotWith_30 : decode c_B_slotWith 30 = .ok (.ifCond .eq 5, 3) := by decide +kernel
theorem d_B_slotWith_33 : decode c_B_slotWith 33 = .ok (.iload_n 2, 1) := by decide +kernel
theorem d_B_slotWith_34 : decode c_B_slotWith 34 = .ok (.ireturn, 1) := by decide +kernel
theorem d_B_slotWith_35 : decode c_B_slotWith 35 = .ok (.iinc 2 1, 3) := by decide +kernel
theorem d_B_slotWith_38 : decode c_B_slotWith 38 = .ok (.goto (-36), 3) := by decide +kernel
theorem d_B_slotWith_41 : decode c_B_slotWith 41 = .ok (.iconst (-1), 1) := by decide +kernel
theorem d_B_slotWith_42 : decode c_B_slotWith 42 = .ok (.ireturn, 1) := by decide +kernel
abbrev c_B_leastFreeSlot : ByteArray := prog_1_method_22_code
abbrev y_B_leastFreeSlot : MethodName := ⟨"BlobStore", "leastFreeSlot", "(I)I"⟩
theorem i_B_leastFreeSlot : bIs y_B_leastFreeSlot 3 := Or.inl ⟨_, _, t2_214⟩
theorem d_B_leastFreeSlot_0 : decode c_B_leastFreeSlot 0 = .ok (.iload_n 1, 1) := by decide +kernel
theorem d_B_leastFreeSlot_1 : decode c_B_leastFreeSlot 1 = .ok (.istore_n 2, 1) := by decide +kernel
theorem d_B_leastFreeSlot_2 : decode c_B_leastFreeSlot 2 = .ok (.iload_n 2, 1) := by decide +kernel
theorem d_B_leastFreeSlot_3 : decode c_B_leastFreeSlot 3 = .ok (.bipush 48, 2) := by decide +kernel
theorem d_B_leastFreeSlot_5 : decode c_B_leastFreeSlot 5 = .ok (.if_icmp .ge 23, 3) := by decide +kernel
theorem d_B_leastFreeSlot_8 : decode c_B_leastFreeSlot 8 = .ok (.aload_n 0, 1) := by decide +kernel
theorem d_B_leastFreeSlot_9 : decode c_B_leastFreeSlot 9 = .ok (.getfield 25, 3) := by decide +kernel
theorem d_B_leastFreeSlot_12 : decode c_B_leastFreeSlot 12 = .ok (.iload_n 2, 1) := by decide +kernel
theorem d_B_leastFreeSlot_13 : decode c_B_leastFreeSlot 13 = .ok (.aaload, 1) := by decide +kernel
theorem d_B_leastFreeSlot_14 : decode c_B_leastFreeSlot 14 = .ok (.invokevirtual 139, 3) := by decide +kernel
theorem d_B_leastFreeSlot_17 : decode c_B_leastFreeSlot 17 = .ok (.ifCond .eq 5, 3) := by decide +kernel
theorem d_B_leastFreeSlot_20 : decode c_B_leastFreeSlot 20 = .ok (.iload_n 2, 1) := by decide +kernel
theorem d_B_leastFreeSlot_21 : decode c_B_leastFreeSlot 21 = .ok (.ireturn, 1) := by decide +kernel
theorem d_B_leastFreeSlot_22 : decode c_B_leastFreeSlot 22 = .ok (.iinc 2 1, 3) := by decide +kernel
theorem d_B_leastFreeSlot_25 : decode c_B_leastFreeSlot 25 = .ok (.goto (-23), 3) := by decide +kernel
theorem d_B_leastFreeSlot_28 : decode c_B_leastFreeSlot 28 = .ok (.iconst (-1), 1) := by decide +kernel
theorem d_B_leastFreeSlot_29 : decode c_B_leastFreeSlot 29 = .ok (.ireturn, 1) := by decide +kernel
abbrev c_B_cutIntoChunks : ByteArray := prog_1_method_23_code
abbrev y_B_cutIntoChunks : MethodName := ⟨"BlobStore", "cutIntoChunks", "(IJJJ)I"⟩
theorem i_B_cutIntoChunks : bIs y_B_cutIntoChunks 12 := Or.inl ⟨_, _, t2_199⟩
theorem d_B_cutIntoChunks_0 : decode c_B_cutIntoChunks 0 = .ok (.iload_n 1, 1) := by decide +kernel
theorem d_B_cutIntoChunks_1 : decode c_B_cutIntoChunks 1 = .ok (.bipush 8, 2) := by decide +kernel
theorem d_B_cutIntoChunks_3 : decode c_B_cutIntoChunks 3 = .ok (.iadd, 1) := by decide +kernel
theorem d_B_cutIntoChunks_4 : decode c_B_cutIntoChunks 4 = .ok (.iconst 1, 1) := by decide +kernel
theorem d_B_cutIntoChunks_5 : decode c_B_cutIntoChunks 5 = .ok (.isub, 1) := by decide +kernel
theorem d_B_cutIntoChunks_6 : decode c_B_cutIntoChunks 6 = .ok (.bipush 8, 2) := by decide +kernel
theorem d_B_cutIntoChunks_8 : decode c_B_cutIntoChunks 8 = .ok (.idiv, 1) := by decide +kernel
theorem d_B_cutIntoChunks_9 : decode c_B_cutIntoChunks 9 = .ok (.istore 8, 2) := by decide +kernel
theorem d_B_cutIntoChunks_11 : decode c_B_cutIntoChunks 11 = .ok (.iconst 0, 1) := by decide +kernel
theorem d_B_cutIntoChunks_12 : decode c_B_cutIntoChunks 12 = .ok (.istore 9, 2) := by decide +kernel
theorem d_B_cutIntoChunks_14 : decode c_B_cutIntoChunks 14 = .ok (.iload 9, 2) := by decide +kernel
theorem d_B_cutIntoChunks_16 : decode c_B_cutIntoChunks 16 = .ok (.iload 8, 2) := by decide +kernel
theorem d_B_cutIntoChunks_18 : decode c_B_cutIntoChunks 18 = .ok (.if_icmp .ge 61, 3) := by decide +kernel
theorem d_B_cutIntoChunks_21 : decode c_B_cutIntoChunks 21 = .ok (.iload 9, 2) := by decide +kernel
theorem d_B_cutIntoChunks_23 : decode c_B_cutIntoChunks 23 = .ok (.ifCond .ne 7, 3) := by decide +kernel
theorem d_B_cutIntoChunks_26 : decode c_B_cutIntoChunks 26 = .ok (.lload_n 2, 1) := by decide +kernel
theorem d_B_cutIntoChunks_27 : decode c_B_cutIntoChunks 27 = .ok (.goto 16, 3) := by decide +kernel
theorem d_B_cutIntoChunks_30 : decode c_B_cutIntoChunks 30 = .ok (.iload 9, 2) := by decide +kernel
theorem d_B_cutIntoChunks_32 : decode c_B_cutIntoChunks 32 = .ok (.iconst 1, 1) := by decide +kernel
theorem d_B_cutIntoChunks_33 : decode c_B_cutIntoChunks 33 = .ok (.if_icmp .ne 8, 3) := by decide +kernel
theorem d_B_cutIntoChunks_36 : decode c_B_cutIntoChunks 36 = .ok (.lload 4, 2) := by decide +kernel
theorem d_B_cutIntoChunks_38 : decode c_B_cutIntoChunks 38 = .ok (.goto 5, 3) := by decide +kernel
theorem d_B_cutIntoChunks_41 : decode c_B_cutIntoChunks 41 = .ok (.lload 6, 2) := by decide +kernel
theorem d_B_cutIntoChunks_43 : decode c_B_cutIntoChunks 43 = .ok (.lstore 10, 2) := by decide +kernel
theorem d_B_cutIntoChunks_45 : decode c_B_cutIntoChunks 45 = .ok (.aload_n 0, 1) := by decide +kernel
theorem d_B_cutIntoChunks_46 : decode c_B_cutIntoChunks 46 = .ok (.getfield 45, 3) := by decide +kernel
theorem d_B_cutIntoChunks_49 : decode c_B_cutIntoChunks 49 = .ok (.iload 9, 2) := by decide +kernel
theorem d_B_cutIntoChunks_51 : decode c_B_cutIntoChunks 51 = .ok (.aaload, 1) := by decide +kernel
theorem d_B_cutIntoChunks_52 : decode c_B_cutIntoChunks 52 = .ok (.bipush 8, 2) := by decide +kernel
theorem d_B_cutIntoChunks_54 : decode c_B_cutIntoChunks 54 = .ok (.iload_n 1, 1) := by decide +kernel
theorem d_B_cutIntoChunks_55 : decode c_B_cutIntoChunks 55 = .ok (.iload 9, 2) := by decide +kernel
theorem d_B_cutIntoChunks_57 : decode c_B_cutIntoChunks 57 = .ok (.bipush 8, 2) := by decide +kernel
theorem d_B_cutIntoChunks_59 : decode c_B_cutIntoChunks 59 = .ok (.imul, 1) := by decide +kernel
theorem d_B_cutIntoChunks_60 : decode c_B_cutIntoChunks 60 = .ok (.isub, 1) := by decide +kernel
theorem d_B_cutIntoChunks_61 : decode c_B_cutIntoChunks 61 = .ok (.invokestatic 213, 3) := by decide +kernel
theorem d_B_cutIntoChunks_64 : decode c_B_cutIntoChunks 64 = .ok (.lload 10, 2) := by decide +kernel
theorem d_B_cutIntoChunks_66 : decode c_B_cutIntoChunks 66 = .ok (.aload_n 0, 1) := by decide +kernel
theorem d_B_cutIntoChunks_67 : decode c_B_cutIntoChunks 67 = .ok (.getfield 19, 3) := by decide +kernel
theorem d_B_cutIntoChunks_70 : decode c_B_cutIntoChunks 70 = .ok (.invokevirtual 184, 3) := by decide +kernel
theorem d_B_cutIntoChunks_73 : decode c_B_cutIntoChunks 73 = .ok (.iinc 9 1, 3) := by decide +kernel
theorem d_B_cutIntoChunks_76 : decode c_B_cutIntoChunks 76 = .ok (.goto (-62), 3) := by decide +kernel
theorem d_B_cutIntoChunks_79 : decode c_B_cutIntoChunks 79 = .ok (.iload 8, 2) := by decide +kernel
theorem d_B_cutIntoChunks_81 : decode c_B_cutIntoChunks 81 = .ok (.ireturn, 1) := by decide +kernel
abbrev c_B_planSlots : ByteArray := prog_1_method_24_code
abbrev y_B_planSlots : MethodName := ⟨"BlobStore", "planSlots", "(I)V"⟩
theorem i_B_planSlots : bIs y_B_planSlots 5 := Or.inl ⟨_, _, t2_206⟩
theorem d_B_planSlots_0 : decode c_B_planSlots 0 = .ok (.iconst 0, 1) := by decide +kernel
theorem d_B_planSlots_1 : decode c_B_planSlots 1 = .ok (.istore_n 2, 1) := by decide +kernel
theorem d_B_planSlots_2 : decode c_B_planSlots 2 = .ok (.aload_n 0, 1) := by decide +kernel
theorem d_B_planSlots_3 : decode c_B_planSlots 3 = .ok (.getfield 53, 3) := by decide +kernel
theorem d_B_planSlots_6 : decode c_B_planSlots 6 = .ok (.iconst 0, 1) := by decide +kernel
theorem d_B_planSlots_7 : decode c_B_planSlots 7 = .ok (.putfield 163, 3) := by decide +kernel
theorem d_B_planSlots_10 : decode c_B_planSlots 10 = .ok (.iconst 0, 1) := by decide +kernel
theorem d_B_planSlots_11 : decode c_B_planSlots 11 = .ok (.istore_n 3, 1) := by decide +kernel
theorem d_B_planSlots_12 : decode c_B_planSlots 12 = .ok (.iload_n 3, 1) := by decide +kernel
theorem d_B_planSlots_13 : decode c_B_planSlots 13 = .ok (.iload_n 1, 1) := by decide +kernel
theorem d_B_planSlots_14 : decode c_B_planSlots 14 = .ok (.if_icmp .ge 57, 3) := by decide +kernel
theorem d_B_planSlots_17 : decode c_B_planSlots 17 = .ok (.aload_n 0, 1) := by decide +kernel
theorem d_B_planSlots_18 : decode c_B_planSlots 18 = .ok (.iload_n 3, 1) := by decide +kernel
theorem d_B_planSlots_19 : decode c_B_planSlots 19 = .ok (.invokevirtual 219, 3) := by decide +kernel
theorem d_B_planSlots_22 : decode c_B_planSlots 22 = .ok (.istore 4, 2) := by decide +kernel
theorem d_B_planSlots_24 : decode c_B_planSlots 24 = .ok (.iload 4, 2) := by decide +kernel
theorem d_B_planSlots_26 : decode c_B_planSlots 26 = .ok (.ifCond .ge 30, 3) := by decide +kernel
theorem d_B_planSlots_29 : decode c_B_planSlots 29 = .ok (.aload_n 0, 1) := by decide +kernel
theorem d_B_planSlots_30 : decode c_B_planSlots 30 = .ok (.iload_n 2, 1) := by decide +kernel
theorem d_B_planSlots_31 : decode c_B_planSlots 31 = .ok (.invokevirtual 222, 3) := by decide +kernel
theorem d_B_planSlots_34 : decode c_B_planSlots 34 = .ok (.istore 4, 2) := by decide +kernel
theorem d_B_planSlots_36 : decode c_B_planSlots 36 = .ok (.iload 4, 2) := by decide +kernel
theorem d_B_planSlots_38 : decode c_B_planSlots 38 = .ok (.ifCond .ge 13, 3) := by decide +kernel
theorem d_B_planSlots_41 : decode c_B_planSlots 41 = .ok (.new 225, 3) := by decide +kernel
theorem d_B_planSlots_44 : decode c_B_planSlots 44 = .ok (.dup, 1) := by decide +kernel
theorem d_B_planSlots_45 : decode c_B_planSlots 45 = .ok (.ldc 227, 2) := by decide +kernel
theorem d_B_planSlots_47 : decode c_B_planSlots 47 = .ok (.invokespecial 229, 3) := by decide +kernel
theorem d_B_planSlots_50 : decode c_B_planSlots 50 = .ok (.athrow, 1) := by decide +kernel
theorem d_B_planSlots_51 : decode c_B_planSlots 51 = .ok (.iload 4, 2) := by decide +kernel
theorem d_B_planSlots_53 : decode c_B_planSlots 53 = .ok (.iconst 1, 1) := by decide +kernel
theorem d_B_planSlots_54 : decode c_B_planSlots 54 = .ok (.iadd, 1) := by decide +kernel
theorem d_B_planSlots_55 : decode c_B_planSlots 55 = .ok (.istore_n 2, 1) := by decide +kernel
theorem d_B_planSlots_56 : decode c_B_planSlots 56 = .ok (.aload_n 0, 1) := by decide +kernel
theorem d_B_planSlots_57 : decode c_B_planSlots 57 = .ok (.getfield 53, 3) := by decide +kernel
theorem d_B_planSlots_60 : decode c_B_planSlots 60 = .ok (.iload 4, 2) := by decide +kernel
theorem d_B_planSlots_62 : decode c_B_planSlots 62 = .ok (.invokevirtual 230, 3) := by decide +kernel
theorem d_B_planSlots_65 : decode c_B_planSlots 65 = .ok (.iinc 3 1, 3) := by decide +kernel
theorem d_B_planSlots_68 : decode c_B_planSlots 68 = .ok (.goto (-56), 3) := by decide +kernel
theorem d_B_planSlots_71 : decode c_B_planSlots 71 = .ok (.return_, 1) := by decide +kernel
abbrev c_B_plannedSlot : ByteArray := prog_1_method_25_code
abbrev y_B_plannedSlot : MethodName := ⟨"BlobStore", "plannedSlot", "(I)I"⟩
theorem i_B_plannedSlot : bIs y_B_plannedSlot 3 := Or.inl ⟨_, _, t2_210⟩
theorem d_B_plannedSlot_0 : decode c_B_plannedSlot 0 = .ok (.iconst 0, 1) := by decide +kernel
theorem d_B_plannedSlot_1 : decode c_B_plannedSlot 1 = .ok (.istore_n 2, 1) := by decide +kernel
theorem d_B_plannedSlot_2 : decode c_B_plannedSlot 2 = .ok (.iload_n 2, 1) := by decide +kernel
theorem d_B_plannedSlot_3 : decode c_B_plannedSlot 3 = .ok (.iload_n 1, 1) := by decide +kernel
theorem d_B_plannedSlot_4 : decode c_B_plannedSlot 4 = .ok (.if_icmp .ge 37, 3) := by decide +kernel
theorem d_B_plannedSlot_7 : decode c_B_plannedSlot 7 = .ok (.aload_n 0, 1) := by decide +kernel
theorem d_B_plannedSlot_8 : decode c_B_plannedSlot 8 = .ok (.getfield 45, 3) := by decide +kernel
theorem d_B_plannedSlot_11 : decode c_B_plannedSlot 11 = .ok (.iload_n 2, 1) := by decide +kernel
theorem d_B_plannedSlot_12 : decode c_B_plannedSlot 12 = .ok (.aaload, 1) := by decide +kernel
theorem d_B_plannedSlot_13 : decode c_B_plannedSlot 13 = .ok (.aload_n 0, 1) := by decide +kernel
theorem d_B_plannedSlot_14 : decode c_B_plannedSlot 14 = .ok (.getfield 45, 3) := by decide +kernel
theorem d_B_plannedSlot_17 : decode c_B_plannedSlot 17 = .ok (.iload_n 1, 1) := by decide +kernel
theorem d_B_plannedSlot_18 : decode c_B_plannedSlot 18 = .ok (.aaload, 1) := by decide +kernel
theorem d_B_plannedSlot_19 : decode c_B_plannedSlot 19 = .ok (.invokevirtual 209, 3) := by decide +kernel
theorem d_B_plannedSlot_22 : decode c_B_plannedSlot 22 = .ok (.ifCond .eq 13, 3) := by decide +kernel
theorem d_B_plannedSlot_25 : decode c_B_plannedSlot 25 = .ok (.aload_n 0, 1) := by decide +kernel
theorem d_B_plannedSlot_26 : decode c_B_plannedSlot 26 = .ok (.getfield 53, 3) := by decide +kernel
theorem d_B_plannedSlot_29 : decode c_B_plannedSlot 29 = .ok (.getfield 166, 3) := by decide +kernel
theorem d_B_plannedSlot_32 : decode c_B_plannedSlot 32 = .ok (.iload_n 2, 1) := by decide +kernel
theorem d_B_plannedSlot_33 : decode c_B_plannedSlot 33 = .ok (.iaload, 1) := by decide +kernel
theorem d_B_plannedSlot_34 : decode c_B_plannedSlot 34 = .ok (.ireturn, 1) := by decide +kernel
theorem d_B_plannedSlot_35 : decode c_B_plannedSlot 35 = .ok (.iinc 2 1, 3) := by decide +kernel
theorem d_B_plannedSlot_38 : decode c_B_plannedSlot 38 = .ok (.goto (-36), 3) := by decide +kernel
theorem d_B_plannedSlot_41 : decode c_B_plannedSlot 41 = .ok (.aload_n 0, 1) := by decide +kernel
theorem d_B_plannedSlot_42 : decode c_B_plannedSlot 42 = .ok (.aload_n 0, 1) := by decide +kernel
theorem d_B_plannedSlot_43 : decode c_B_plannedSlot 43 = .ok (.getfield 45, 3) := by decide +kernel
theorem d_B_plannedSlot_46 : decode c_B_plannedSlot 46 = .ok (.iload_n 1, 1) := by decide +kernel
theorem d_B_plannedSlot_47 : decode c_B_plannedSlot 47 = .ok (.aaload, 1) := by decide +kernel
theorem d_B_plannedSlot_48 : decode c_B_plannedSlot 48 = .ok (.invokevirtual 188, 3) := by decide +kernel
theorem d_B_plannedSlot_51 : decode c_B_plannedSlot 51 = .ok (.ireturn, 1) := by decide +kernel
abbrev c_B_writeChunks : ByteArray := prog_1_method_26_code
abbrev y_B_writeChunks : MethodName := ⟨"BlobStore", "writeChunks", "(I)I"⟩
theorem i_B_writeChunks : bIs y_B_writeChunks 5 := Or.inl ⟨_, _, t2_238⟩
theorem d_B_writeChunks_0 : decode c_B_writeChunks 0 = .ok (.iconst 0, 1) := by decide +kernel
theorem d_B_writeChunks_1 : decode c_B_writeChunks 1 = .ok (.istore_n 2, 1) := by decide +kernel
theorem d_B_writeChunks_2 : decode c_B_writeChunks 2 = .ok (.iconst 0, 1) := by decide +kernel
theorem d_B_writeChunks_3 : decode c_B_writeChunks 3 = .ok (.istore_n 3, 1) := by decide +kernel
theorem d_B_writeChunks_4 : decode c_B_writeChunks 4 = .ok (.iload_n 3, 1) := by decide +kernel
theorem d_B_writeChunks_5 : decode c_B_writeChunks 5 = .ok (.iload_n 1, 1) := by decide +kernel
theorem d_B_writeChunks_6 : decode c_B_writeChunks 6 = .ok (.if_icmp .ge 54, 3) := by decide +kernel
theorem d_B_writeChunks_9 : decode c_B_writeChunks 9 = .ok (.aload_n 0, 1) := by decide +kernel
theorem d_B_writeChunks_10 : decode c_B_writeChunks 10 = .ok (.getfield 25, 3) := by decide +kernel
theorem d_B_writeChunks_13 : decode c_B_writeChunks 13 = .ok (.aload_n 0, 1) := by decide +kernel
theorem d_B_writeChunks_14 : decode c_B_writeChunks 14 = .ok (.getfield 53, 3) := by decide +kernel
theorem d_B_writeChunks_17 : decode c_B_writeChunks 17 = .ok (.getfield 166, 3) := by decide +kernel
theorem d_B_writeChunks_20 : decode c_B_writeChunks 20 = .ok (.iload_n 3, 1) := by decide +kernel
theorem d_B_writeChunks_21 : decode c_B_writeChunks 21 = .ok (.iaload, 1) := by decide +kernel
theorem d_B_writeChunks_22 : decode c_B_writeChunks 22 = .ok (.aaload, 1) := by decide +kernel
theorem d_B_writeChunks_23 : decode c_B_writeChunks 23 = .ok (.astore 4, 2) := by decide +kernel
theorem d_B_writeChunks_25 : decode c_B_writeChunks 25 = .ok (.aload 4, 2) := by decide +kernel
theorem d_B_writeChunks_27 : decode c_B_writeChunks 27 = .ok (.invokevirtual 139, 3) := by decide +kernel
theorem d_B_writeChunks_30 : decode c_B_writeChunks 30 = .ok (.ifCond .eq 24, 3) := by decide +kernel
theorem d_B_writeChunks_33 : decode c_B_writeChunks 33 = .ok (.aload_n 0, 1) := by decide +kernel
theorem d_B_writeChunks_34 : decode c_B_writeChunks 34 = .ok (.getfield 12, 3) := by decide +kernel
theorem d_B_writeChunks_37 : decode c_B_writeChunks 37 = .ok (.invokevirtual 87, 3) := by decide +kernel
theorem d_B_writeChunks_40 : decode c_B_writeChunks 40 = .ok (.aload 4, 2) := by decide +kernel
theorem d_B_writeChunks_42 : decode c_B_writeChunks 42 = .ok (.aload_n 0, 1) := by decide +kernel
theorem d_B_writeChunks_43 : decode c_B_writeChunks 43 = .ok (.getfield 45, 3) := by decide +kernel
theorem d_B_writeChunks_46 : decode c_B_writeChunks 46 = .ok (.iload_n 3, 1) := by decide +kernel
theorem d_B_writeChunks_47 : decode c_B_writeChunks 47 = .ok (.aaload, 1) := by decide +kernel
theorem d_B_writeChunks_48 : decode c_B_writeChunks 48 = .ok (.invokevirtual 233, 3) := by decide +kernel
theorem d_B_writeChunks_51 : decode c_B_writeChunks 51 = .ok (.iinc 2 1, 3) := by decide +kernel
theorem d_B_writeChunks_54 : decode c_B_writeChunks 54 = .ok (.iinc 3 1, 3) := by decide +kernel
theorem d_B_writeChunks_57 : decode c_B_writeChunks 57 = .ok (.goto (-53), 3) := by decide +kernel
theorem d_B_writeChunks_60 : decode c_B_writeChunks 60 = .ok (.iload_n 2, 1) := by decide +kernel
theorem d_B_writeChunks_61 : decode c_B_writeChunks 61 = .ok (.ireturn, 1) := by decide +kernel
abbrev c_B_countNeeds : ByteArray := prog_1_method_27_code
abbrev y_B_countNeeds : MethodName := ⟨"BlobStore", "countNeeds", "()V"⟩
theorem i_B_countNeeds : bIs y_B_countNeeds 2 := Or.inl ⟨_, _, t1_220⟩
theorem d_B_countNeeds_0 : decode c_B_countNeeds 0 = .ok (.aload_n 0, 1) := by decide +kernel
theorem d_B_countNeeds_1 : decode c_B_countNeeds 1 = .ok (.getfield 62, 3) := by decide +kernel
theorem d_B_countNeeds_4 : decode c_B_countNeeds 4 = .ok (.iconst 0, 1) := by decide +kernel
theorem d_B_countNeeds_5 : decode c_B_countNeeds 5 = .ok (.invokestatic 236, 3) := by decide +kernel
theorem d_B_countNeeds_8 : decode c_B_countNeeds 8 = .ok (.iconst 0, 1) := by decide +kernel
theorem d_B_countNeeds_9 : decode c_B_countNeeds 9 = .ok (.istore_n 1, 1) := by decide +kernel
theorem d_B_countNeeds_10 : decode c_B_countNeeds 10 = .ok (.iload_n 1, 1) := by decide +kernel
theorem d_B_countNeeds_11 : decode c_B_countNeeds 11 = .ok (.iconst 5, 1) := by decide +kernel
theorem d_B_countNeeds_12 : decode c_B_countNeeds 12 = .ok (.if_icmp .ge 34, 3) := by decide +kernel
theorem d_B_countNeeds_15 : decode c_B_countNeeds 15 = .ok (.aload_n 0, 1) := by decide +kernel
theorem d_B_countNeeds_16 : decode c_B_countNeeds 16 = .ok (.getfield 31, 3) := by decide +kernel
theorem d_B_countNeeds_19 : decode c_B_countNeeds 19 = .ok (.iload_n 1, 1) := by decide +kernel
theorem d_B_countNeeds_20 : decode c_B_countNeeds 20 = .ok (.aaload, 1) := by decide +kernel
theorem d_B_countNeeds_21 : decode c_B_countNeeds 21 = .ok (.getfield 125, 3) := by decide +kernel
theorem d_B_countNeeds_24 : decode c_B_countNeeds 24 = .ok (.ifCond .eq 16, 3) := by decide +kernel
theorem d_B_countNeeds_27 : decode c_B_countNeeds 27 = .ok (.aload_n 0, 1) := by decide +kernel
theorem d_B_countNeeds_28 : decode c_B_countNeeds 28 = .ok (.getfield 31, 3) := by decide +kernel
theorem d_B_countNeeds_31 : decode c_B_countNeeds 31 = .ok (.iload_n 1, 1) := by decide +kernel
theorem d_B_countNeeds_32 : decode c_B_countNeeds 32 = .ok (.aaload, 1) := by decide +kernel
theorem d_B_countNeeds_33 : decode c_B_countNeeds 33 = .ok (.aload_n 0, 1) := by decide +kernel
theorem d_B_countNeeds_34 : decode c_B_countNeeds 34 = .ok (.getfield 62, 3) := by decide +kernel
theorem d_B_countNeeds_37 : decode c_B_countNeeds 37 = .ok (.invokevirtual 241, 3) := by decide +kernel
theorem d_B_countNeeds_40 : decode c_B_countNeeds 40 = .ok (.iinc 1 1, 3) := by decide +kernel
theorem d_B_countNeeds_43 : decode c_B_countNeeds 43 = .ok (.goto (-33), 3) := by decide +kernel
theorem d_B_countNeeds_46 : decode c_B_countNeeds 46 = .ok (.iconst 0, 1) := by decide +kernel
theorem d_B_countNeeds_47 : decode c_B_countNeeds 47 = .ok (.istore_n 1, 1) := by decide +kernel
theorem d_B_countNeeds_48 : decode c_B_countNeeds 48 = .ok (.iload_n 1, 1) := by decide +kernel
theorem d_B_countNeeds_49 : decode c_B_countNeeds 49 = .ok (.aload_n 0, 1) := by decide +kernel
theorem d_B_countNeeds_50 : decode c_B_countNeeds 50 = .ok (.getfield 41, 3) := by decide +kernel
theorem d_B_countNeeds_53 : decode c_B_countNeeds 53 = .ok (.if_icmp .ge 37, 3) := by decide +kernel
theorem d_B_countNeeds_56 : decode c_B_countNeeds 56 = .ok (.aload_n 0, 1) := by decide +kernel
theorem d_B_countNeeds_57 : decode c_B_countNeeds 57 = .ok (.getfield 37, 3) := by decide +kernel
theorem d_B_countNeeds_60 : decode c_B_countNeeds 60 = .ok (.iload_n 1, 1) := by decide +kernel
theorem d_B_countNeeds_61 : decode c_B_countNeeds 61 = .ok (.aaload, 1) := by decide +kernel
theorem d_B_countNeeds_62 : decode c_B_countNeeds 62 = .ok (.getfield 133, 3) := by decide +kernel
theorem d_B_countNeeds_65 : decode c_B_countNeeds 65 = .ok (.ifCond .eq 19, 3) := by decide +kernel
theorem d_B_countNeeds_68 : decode c_B_countNeeds 68 = .ok (.aload_n 0, 1) := by decide +kernel
theorem d_B_countNeeds_69 : decode c_B_countNeeds 69 = .ok (.getfield 37, 3) := by decide +kernel
theorem d_B_countNeeds_72 : decode c_B_countNeeds 72 = .ok (.iload_n 1, 1) := by decide +kernel
theorem d_B_countNeeds_73 : decode c_B_countNeeds 73 = .ok (.aaload, 1) := by decide +kernel
theorem d_B_countNeeds_74 : decode c_B_countNeeds 74 = .ok (.getfield 160, 3) := by decide +kernel
theorem d_B_countNeeds_77 : decode c_B_countNeeds 77 = .ok (.aload_n 0, 1) := by decide +kernel
theorem d_B_countNeeds_78 : decode c_B_countNeeds 78 = .ok (.getfield 62, 3) := by decide +kernel
theorem d_B_countNeeds_81 : decode c_B_countNeeds 81 = .ok (.invokevirtual 245, 3) := by decide +kernel
theorem d_B_countNeeds_84 : decode c_B_countNeeds 84 = .ok (.iinc 1 1, 3) := by decide +kernel
theorem d_B_countNeeds_87 : decode c_B_countNeeds 87 = .ok (.goto (-39), 3) := by decide +kernel
theorem d_B_countNeeds_90 : decode c_B_countNeeds 90 = .ok (.return_, 1) := by decide +kernel
abbrev c_B_countChunks : ByteArray := prog_1_method_28_code
abbrev y_B_countChunks : MethodName := ⟨"BlobStore", "countChunks", "()I"⟩
theorem i_B_countChunks : bIs y_B_countChunks 3 := Or.inl ⟨_, _, t2_42⟩
theorem d_B_countChunks_0 : decode c_B_countChunks 0 = .ok (.iconst 0, 1) := by decide +kernel
theorem d_B_countChunks_1 : decode c_B_countChunks 1 = .ok (.istore_n 1, 1) := by decide +kernel
theorem d_B_countChunks_2 : decode c_B_countChunks 2 = .ok (.iconst 0, 1) := by decide +kernel
theorem d_B_countChunks_3 : decode c_B_countChunks 3 = .ok (.istore_n 2, 1) := by decide +kernel
theorem d_B_countChunks_4 : decode c_B_countChunks 4 = .ok (.iload_n 2, 1) := by decide +kernel
theorem d_B_countChunks_5 : decode c_B_countChunks 5 = .ok (.bipush 48, 2) := by decide +kernel
theorem d_B_countChunks_7 : decode c_B_countChunks 7 = .ok (.if_icmp .ge 29, 3) := by decide +kernel
theorem d_B_countChunks_10 : decode c_B_countChunks 10 = .ok (.iload_n 1, 1) := by decide +kernel
theorem d_B_countChunks_11 : decode c_B_countChunks 11 = .ok (.aload_n 0, 1) := by decide +kernel
theorem d_B_countChunks_12 : decode c_B_countChunks 12 = .ok (.getfield 25, 3) := by decide +kernel
theorem d_B_countChunks_15 : decode c_B_countChunks 15 = .ok (.iload_n 2, 1) := by decide +kernel
theorem d_B_countChunks_16 : decode c_B_countChunks 16 = .ok (.aaload, 1) := by decide +kernel
theorem d_B_countChunks_17 : decode c_B_countChunks 17 = .ok (.invokevirtual 139, 3) := by decide +kernel
theorem d_B_countChunks_20 : decode c_B_countChunks 20 = .ok (.ifCond .eq 7, 3) := by decide +kernel
theorem d_B_countChunks_23 : decode c_B_countChunks 23 = .ok (.iconst 0, 1) := by decide +kernel
theorem d_B_countChunks_24 : decode c_B_countChunks 24 = .ok (.goto 4, 3) := by decide +kernel
theorem d_B_countChunks_27 : decode c_B_countChunks 27 = .ok (.iconst 1, 1) := by decide +kernel
theorem d_B_countChunks_28 : decode c_B_countChunks 28 = .ok (.iadd, 1) := by decide +kernel
theorem d_B_countChunks_29 : decode c_B_countChunks 29 = .ok (.istore_n 1, 1) := by decide +kernel
theorem d_B_countChunks_30 : decode c_B_countChunks 30 = .ok (.iinc 2 1, 3) := by decide +kernel
theorem d_B_countChunks_33 : decode c_B_countChunks 33 = .ok (.goto (-29), 3) := by decide +kernel
theorem d_B_countChunks_36 : decode c_B_countChunks 36 = .ok (.iload_n 1, 1) := by decide +kernel
theorem d_B_countChunks_37 : decode c_B_countChunks 37 = .ok (.ireturn, 1) := by decide +kernel
abbrev c_B_countOpenSessions : ByteArray := prog_1_method_29_code
abbrev y_B_countOpenSessions : MethodName := ⟨"BlobStore", "countOpenSessions", "()I"⟩
theorem i_B_countOpenSessions : bIs y_B_countOpenSessions 3 := Or.inl ⟨_, _, t2_46⟩
theorem d_B_countOpenSessions_0 : decode c_B_countOpenSessions 0 = .ok (.iconst 0, 1) := by decide +kernel
theorem d_B_countOpenSessions_1 : decode c_B_countOpenSessions 1 = .ok (.istore_n 1, 1) := by decide +kernel
theorem d_B_countOpenSessions_2 : decode c_B_countOpenSessions 2 = .ok (.iconst 0, 1) := by decide +kernel
theorem d_B_countOpenSessions_3 : decode c_B_countOpenSessions 3 = .ok (.istore_n 2, 1) := by decide +kernel
theorem d_B_countOpenSessions_4 : decode c_B_countOpenSessions 4 = .ok (.iload_n 2, 1) := by decide +kernel
theorem d_B_countOpenSessions_5 : decode c_B_countOpenSessions 5 = .ok (.iconst 5, 1) := by decide +kernel
theorem d_B_countOpenSessions_6 : decode c_B_countOpenSessions 6 = .ok (.if_icmp .ge 29, 3) := by decide +kernel
theorem d_B_countOpenSessions_9 : decode c_B_countOpenSessions 9 = .ok (.iload_n 1, 1) := by decide +kernel
theorem d_B_countOpenSessions_10 : decode c_B_countOpenSessions 10 = .ok (.aload_n 0, 1) := by decide +kernel
theorem d_B_countOpenSessions_11 : decode c_B_countOpenSessions 11 = .ok (.getfield 31, 3) := by decide +kernel
theorem d_B_countOpenSessions_14 : decode c_B_countOpenSessions 14 = .ok (.iload_n 2, 1) := by decide +kernel
theorem d_B_countOpenSessions_15 : decode c_B_countOpenSessions 15 = .ok (.aaload, 1) := by decide +kernel
theorem d_B_countOpenSessions_16 : decode c_B_countOpenSessions 16 = .ok (.getfield 125, 3) := by decide +kernel
theorem d_B_countOpenSessions_19 : decode c_B_countOpenSessions 19 = .ok (.ifCond .eq 7, 3) := by decide +kernel
theorem d_B_countOpenSessions_22 : decode c_B_countOpenSessions 22 = .ok (.iconst 1, 1) := by decide +kernel
theorem d_B_countOpenSessions_23 : decode c_B_countOpenSessions 23 = .ok (.goto 4, 3) := by decide +kernel
theorem d_B_countOpenSessions_26 : decode c_B_countOpenSessions 26 = .ok (.iconst 0, 1) := by decide +kernel
theorem d_B_countOpenSessions_27 : decode c_B_countOpenSessions 27 = .ok (.iadd, 1) := by decide +kernel
theorem d_B_countOpenSessions_28 : decode c_B_countOpenSessions 28 = .ok (.istore_n 1, 1) := by decide +kernel
theorem d_B_countOpenSessions_29 : decode c_B_countOpenSessions 29 = .ok (.iinc 2 1, 3) := by decide +kernel
theorem d_B_countOpenSessions_32 : decode c_B_countOpenSessions 32 = .ok (.goto (-28), 3) := by decide +kernel
theorem d_B_countOpenSessions_35 : decode c_B_countOpenSessions 35 = .ok (.iload_n 1, 1) := by decide +kernel
theorem d_B_countOpenSessions_36 : decode c_B_countOpenSessions 36 = .ok (.ireturn, 1) := by decide +kernel
abbrev c_B_countLivingVersions : ByteArray := prog_1_method_30_code
abbrev y_B_countLivingVersions : MethodName := ⟨"BlobStore", "countLivingVersions", "()I"⟩
theorem i_B_countLivingVersions : bIs y_B_countLivingVersions 3 := Or.inl ⟨_, _, t2_50⟩
theorem d_B_countLivingVersions_0 : decode c_B_countLivingVersions 0 = .ok (.iconst 0, 1) := by decide +kernel
theorem d_B_countLivingVersions_1 : decode c_B_countLivingVersions 1 = .ok (.istore_n 1, 1) := by decide +kernel
theorem d_B_countLivingVersions_2 : decode c_B_countLivingVersions 2 = .ok (.iconst 0, 1) := by decide +kernel
theorem d_B_countLivingVersions_3 : decode c_B_countLivingVersions 3 = .ok (.istore_n 2, 1) := by decide +kernel
theorem d_B_countLivingVersions_4 : decode c_B_countLivingVersions 4 = .ok (.iload_n 2, 1) := by decide +kernel
theorem d_B_countLivingVersions_5 : decode c_B_countLivingVersions 5 = .ok (.aload_n 0, 1) := by decide +kernel
theorem d_B_countLivingVersions_6 : decode c_B_countLivingVersions 6 = .ok (.getfield 41, 3) := by decide +kernel
theorem d_B_countLivingVersions_9 : decode c_B_countLivingVersions 9 = .ok (.if_icmp .ge 29, 3) := by decide +kernel
theorem d_B_countLivingVersions_12 : decode c_B_countLivingVersions 12 = .ok (.iload_n 1, 1) := by decide +kernel
theorem d_B_countLivingVersions_13 : decode c_B_countLivingVersions 13 = .ok (.aload_n 0, 1) := by decide +kernel
theorem d_B_countLivingVersions_14 : decode c_B_countLivingVersions 14 = .ok (.getfield 37, 3) := by decide +kernel
theorem d_B_countLivingVersions_17 : decode c_B_countLivingVersions 17 = .ok (.iload_n 2, 1) := by decide +kernel
theorem d_B_countLivingVersions_18 : decode c_B_countLivingVersions 18 = .ok (.aaload, 1) := by decide +kernel
theorem d_B_countLivingVersions_19 : decode c_B_countLivingVersions 19 = .ok (.getfield 133, 3) := by decide +kernel
theorem d_B_countLivingVersions_22 : decode c_B_countLivingVersions 22 = .ok (.ifCond .eq 7, 3) := by decide +kernel
theorem d_B_countLivingVersions_25 : decode c_B_countLivingVersions 25 = .ok (.iconst 1, 1) := by decide +kernel
theorem d_B_countLivingVersions_26 : decode c_B_countLivingVersions 26 = .ok (.goto 4, 3) := by decide +kernel
theorem d_B_countLivingVersions_29 : decode c_B_countLivingVersions 29 = .ok (.iconst 0, 1) := by decide +kernel
theorem d_B_countLivingVersions_30 : decode c_B_countLivingVersions 30 = .ok (.iadd, 1) := by decide +kernel
theorem d_B_countLivingVersions_31 : decode c_B_countLivingVersions 31 = .ok (.istore_n 1, 1) := by decide +kernel
theorem d_B_countLivingVersions_32 : decode c_B_countLivingVersions 32 = .ok (.iinc 2 1, 3) := by decide +kernel
theorem d_B_countLivingVersions_35 : decode c_B_countLivingVersions 35 = .ok (.goto (-31), 3) := by decide +kernel
theorem d_B_countLivingVersions_38 : decode c_B_countLivingVersions 38 = .ok (.iload_n 1, 1) := by decide +kernel
theorem d_B_countLivingVersions_39 : decode c_B_countLivingVersions 39 = .ok (.ireturn, 1) := by decide +kernel
