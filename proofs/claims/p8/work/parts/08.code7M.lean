abbrev c_M_init : ByteArray := prog_9_method_1_code
abbrev y_M_init : MethodName := ⟨"BlobStoreModel", "<init>", "()V"⟩
theorem i_M_init : bIs y_M_init 3 := Or.inl ⟨_, _, t3_93⟩
theorem d_M_init_0 : decode c_M_init 0 = .ok (.aload_n 0, 1) := by decide +kernel
theorem d_M_init_1 : decode c_M_init 1 = .ok (.invokespecial 1, 3) := by decide +kernel
theorem d_M_init_4 : decode c_M_init 4 = .ok (.aload_n 0, 1) := by decide +kernel
theorem d_M_init_5 : decode c_M_init 5 = .ok (.bipush 48, 2) := by decide +kernel
theorem d_M_init_7 : decode c_M_init 7 = .ok (.newarray .int, 2) := by decide +kernel
theorem d_M_init_9 : decode c_M_init 9 = .ok (.putfield 7, 3) := by decide +kernel
theorem d_M_init_12 : decode c_M_init 12 = .ok (.aload_n 0, 1) := by decide +kernel
theorem d_M_init_13 : decode c_M_init 13 = .ok (.sipush 384, 3) := by decide +kernel
theorem d_M_init_16 : decode c_M_init 16 = .ok (.newarray .int, 2) := by decide +kernel
theorem d_M_init_18 : decode c_M_init 18 = .ok (.putfield 13, 3) := by decide +kernel
theorem d_M_init_21 : decode c_M_init 21 = .ok (.aload_n 0, 1) := by decide +kernel
theorem d_M_init_22 : decode c_M_init 22 = .ok (.iconst 5, 1) := by decide +kernel
theorem d_M_init_23 : decode c_M_init 23 = .ok (.newarray .boolean, 2) := by decide +kernel
theorem d_M_init_25 : decode c_M_init 25 = .ok (.putfield 16, 3) := by decide +kernel
theorem d_M_init_28 : decode c_M_init 28 = .ok (.aload_n 0, 1) := by decide +kernel
theorem d_M_init_29 : decode c_M_init 29 = .ok (.iconst 5, 1) := by decide +kernel
theorem d_M_init_30 : decode c_M_init 30 = .ok (.newarray .int, 2) := by decide +kernel
theorem d_M_init_32 : decode c_M_init 32 = .ok (.putfield 20, 3) := by decide +kernel
theorem d_M_init_35 : decode c_M_init 35 = .ok (.aload_n 0, 1) := by decide +kernel
theorem d_M_init_36 : decode c_M_init 36 = .ok (.iconst 5, 1) := by decide +kernel
theorem d_M_init_37 : decode c_M_init 37 = .ok (.newarray .int, 2) := by decide +kernel
theorem d_M_init_39 : decode c_M_init 39 = .ok (.putfield 23, 3) := by decide +kernel
theorem d_M_init_42 : decode c_M_init 42 = .ok (.aload_n 0, 1) := by decide +kernel
theorem d_M_init_43 : decode c_M_init 43 = .ok (.bipush 35, 2) := by decide +kernel
theorem d_M_init_45 : decode c_M_init 45 = .ok (.newarray .int, 2) := by decide +kernel
theorem d_M_init_47 : decode c_M_init 47 = .ok (.putfield 26, 3) := by decide +kernel
theorem d_M_init_50 : decode c_M_init 50 = .ok (.aload_n 0, 1) := by decide +kernel
theorem d_M_init_51 : decode c_M_init 51 = .ok (.bipush 105, 2) := by decide +kernel
theorem d_M_init_53 : decode c_M_init 53 = .ok (.newarray .int, 2) := by decide +kernel
theorem d_M_init_55 : decode c_M_init 55 = .ok (.putfield 29, 3) := by decide +kernel
theorem d_M_init_58 : decode c_M_init 58 = .ok (.aload_n 0, 1) := by decide +kernel
theorem d_M_init_59 : decode c_M_init 59 = .ok (.bipush 41, 2) := by decide +kernel
theorem d_M_init_61 : decode c_M_init 61 = .ok (.newarray .boolean, 2) := by decide +kernel
theorem d_M_init_63 : decode c_M_init 63 = .ok (.putfield 32, 3) := by decide +kernel
theorem d_M_init_66 : decode c_M_init 66 = .ok (.aload_n 0, 1) := by decide +kernel
theorem d_M_init_67 : decode c_M_init 67 = .ok (.bipush 41, 2) := by decide +kernel
theorem d_M_init_69 : decode c_M_init 69 = .ok (.newarray .int, 2) := by decide +kernel
theorem d_M_init_71 : decode c_M_init 71 = .ok (.putfield 35, 3) := by decide +kernel
theorem d_M_init_74 : decode c_M_init 74 = .ok (.aload_n 0, 1) := by decide +kernel
theorem d_M_init_75 : decode c_M_init 75 = .ok (.bipush 41, 2) := by decide +kernel
theorem d_M_init_77 : decode c_M_init 77 = .ok (.newarray .int, 2) := by decide +kernel
theorem d_M_init_79 : decode c_M_init 79 = .ok (.putfield 38, 3) := by decide +kernel
theorem d_M_init_82 : decode c_M_init 82 = .ok (.aload_n 0, 1) := by decide +kernel
theorem d_M_init_83 : decode c_M_init 83 = .ok (.bipush 41, 2) := by decide +kernel
theorem d_M_init_85 : decode c_M_init 85 = .ok (.newarray .int, 2) := by decide +kernel
theorem d_M_init_87 : decode c_M_init 87 = .ok (.putfield 41, 3) := by decide +kernel
theorem d_M_init_90 : decode c_M_init 90 = .ok (.aload_n 0, 1) := by decide +kernel
theorem d_M_init_91 : decode c_M_init 91 = .ok (.sipush 738, 3) := by decide +kernel
theorem d_M_init_94 : decode c_M_init 94 = .ok (.newarray .int, 2) := by decide +kernel
theorem d_M_init_96 : decode c_M_init 96 = .ok (.putfield 44, 3) := by decide +kernel
theorem d_M_init_99 : decode c_M_init 99 = .ok (.aload_n 0, 1) := by decide +kernel
theorem d_M_init_100 : decode c_M_init 100 = .ok (.iconst (-1), 1) := by decide +kernel
theorem d_M_init_101 : decode c_M_init 101 = .ok (.putfield 47, 3) := by decide +kernel
theorem d_M_init_104 : decode c_M_init 104 = .ok (.aload_n 0, 1) := by decide +kernel
theorem d_M_init_105 : decode c_M_init 105 = .ok (.bipush 72, 2) := by decide +kernel
theorem d_M_init_107 : decode c_M_init 107 = .ok (.newarray .int, 2) := by decide +kernel
theorem d_M_init_109 : decode c_M_init 109 = .ok (.putfield 51, 3) := by decide +kernel
theorem d_M_init_112 : decode c_M_init 112 = .ok (.aload_n 0, 1) := by decide +kernel
theorem d_M_init_113 : decode c_M_init 113 = .ok (.bipush 64, 2) := by decide +kernel
theorem d_M_init_115 : decode c_M_init 115 = .ok (.newarray .int, 2) := by decide +kernel
theorem d_M_init_117 : decode c_M_init 117 = .ok (.putfield 54, 3) := by decide +kernel
theorem d_M_init_120 : decode c_M_init 120 = .ok (.aload_n 0, 1) := by decide +kernel
theorem d_M_init_121 : decode c_M_init 121 = .ok (.bipush 8, 2) := by decide +kernel
theorem d_M_init_123 : decode c_M_init 123 = .ok (.newarray .int, 2) := by decide +kernel
theorem d_M_init_125 : decode c_M_init 125 = .ok (.putfield 57, 3) := by decide +kernel
theorem d_M_init_128 : decode c_M_init 128 = .ok (.aload_n 0, 1) := by decide +kernel
theorem d_M_init_129 : decode c_M_init 129 = .ok (.bipush 24, 2) := by decide +kernel
theorem d_M_init_131 : decode c_M_init 131 = .ok (.newarray .int, 2) := by decide +kernel
theorem d_M_init_133 : decode c_M_init 133 = .ok (.putfield 60, 3) := by decide +kernel
theorem d_M_init_136 : decode c_M_init 136 = .ok (.aload_n 0, 1) := by decide +kernel
theorem d_M_init_137 : decode c_M_init 137 = .ok (.bipush 8, 2) := by decide +kernel
theorem d_M_init_139 : decode c_M_init 139 = .ok (.newarray .long, 2) := by decide +kernel
theorem d_M_init_141 : decode c_M_init 141 = .ok (.putfield 63, 3) := by decide +kernel
theorem d_M_init_144 : decode c_M_init 144 = .ok (.iconst 0, 1) := by decide +kernel
theorem d_M_init_145 : decode c_M_init 145 = .ok (.istore_n 1, 1) := by decide +kernel
theorem d_M_init_146 : decode c_M_init 146 = .ok (.iconst 2, 1) := by decide +kernel
theorem d_M_init_147 : decode c_M_init 147 = .ok (.istore_n 2, 1) := by decide +kernel
theorem d_M_init_148 : decode c_M_init 148 = .ok (.iload_n 1, 1) := by decide +kernel
theorem d_M_init_149 : decode c_M_init 149 = .ok (.bipush 64, 2) := by decide +kernel
theorem d_M_init_151 : decode c_M_init 151 = .ok (.if_icmp .ge 55, 3) := by decide +kernel
theorem d_M_init_154 : decode c_M_init 154 = .ok (.iload_n 2, 1) := by decide +kernel
theorem d_M_init_155 : decode c_M_init 155 = .ok (.invokestatic 67, 3) := by decide +kernel
theorem d_M_init_158 : decode c_M_init 158 = .ok (.ifCond .ne 6, 3) := by decide +kernel
theorem d_M_init_161 : decode c_M_init 161 = .ok (.goto 39, 3) := by decide +kernel
theorem d_M_init_164 : decode c_M_init 164 = .ok (.aload_n 0, 1) := by decide +kernel
theorem d_M_init_165 : decode c_M_init 165 = .ok (.getfield 51, 3) := by decide +kernel
theorem d_M_init_168 : decode c_M_init 168 = .ok (.iload_n 1, 1) := by decide +kernel
theorem d_M_init_169 : decode c_M_init 169 = .ok (.aload_n 0, 1) := by decide +kernel
theorem d_M_init_170 : decode c_M_init 170 = .ok (.iload_n 2, 1) := by decide +kernel
theorem d_M_init_171 : decode c_M_init 171 = .ok (.iconst 3, 1) := by decide +kernel
theorem d_M_init_172 : decode c_M_init 172 = .ok (.invokevirtual 71, 3) := by decide +kernel
theorem d_M_init_175 : decode c_M_init 175 = .ok (.iastore, 1) := by decide +kernel
theorem d_M_init_176 : decode c_M_init 176 = .ok (.iload_n 1, 1) := by decide +kernel
theorem d_M_init_177 : decode c_M_init 177 = .ok (.bipush 8, 2) := by decide +kernel
theorem d_M_init_179 : decode c_M_init 179 = .ok (.if_icmp .ge 18, 3) := by decide +kernel
theorem d_M_init_182 : decode c_M_init 182 = .ok (.aload_n 0, 1) := by decide +kernel
theorem d_M_init_183 : decode c_M_init 183 = .ok (.getfield 51, 3) := by decide +kernel
theorem d_M_init_186 : decode c_M_init 186 = .ok (.bipush 64, 2) := by decide +kernel
theorem d_M_init_188 : decode c_M_init 188 = .ok (.iload_n 1, 1) := by decide +kernel
theorem d_M_init_189 : decode c_M_init 189 = .ok (.iadd, 1) := by decide +kernel
theorem d_M_init_190 : decode c_M_init 190 = .ok (.aload_n 0, 1) := by decide +kernel
theorem d_M_init_191 : decode c_M_init 191 = .ok (.iload_n 2, 1) := by decide +kernel
theorem d_M_init_192 : decode c_M_init 192 = .ok (.iconst 2, 1) := by decide +kernel
theorem d_M_init_193 : decode c_M_init 193 = .ok (.invokevirtual 71, 3) := by decide +kernel
theorem d_M_init_196 : decode c_M_init 196 = .ok (.iastore, 1) := by decide +kernel
theorem d_M_init_197 : decode c_M_init 197 = .ok (.iinc 1 1, 3) := by decide +kernel
theorem d_M_init_200 : decode c_M_init 200 = .ok (.iinc 2 1, 3) := by decide +kernel
theorem d_M_init_203 : decode c_M_init 203 = .ok (.goto (-55), 3) := by decide +kernel
theorem d_M_init_206 : decode c_M_init 206 = .ok (.return_, 1) := by decide +kernel
abbrev c_M_thrown : ByteArray := prog_9_method_2_code
abbrev y_M_thrown : MethodName := ⟨"BlobStoreModel", "thrown", "()I"⟩
theorem i_M_thrown : bIs y_M_thrown 1 := Or.inl ⟨_, _, t3_179⟩
theorem d_M_thrown_0 : decode c_M_thrown 0 = .ok (.aload_n 0, 1) := by decide +kernel
theorem d_M_thrown_1 : decode c_M_thrown 1 = .ok (.getfield 75, 3) := by decide +kernel
theorem d_M_thrown_4 : decode c_M_thrown 4 = .ok (.ireturn, 1) := by decide +kernel
abbrev c_M_says : ByteArray := prog_9_method_3_code
abbrev y_M_says : MethodName := ⟨"BlobStoreModel", "says", "(I)Z"⟩
theorem i_M_says : bIs y_M_says 2 := Or.inl ⟨_, _, t3_190⟩
theorem d_M_says_0 : decode c_M_says 0 = .ok (.aload_n 0, 1) := by decide +kernel
theorem d_M_says_1 : decode c_M_says 1 = .ok (.iload_n 1, 1) := by decide +kernel
theorem d_M_says_2 : decode c_M_says 2 = .ok (.putfield 75, 3) := by decide +kernel
theorem d_M_says_5 : decode c_M_says 5 = .ok (.iload_n 1, 1) := by decide +kernel
theorem d_M_says_6 : decode c_M_says 6 = .ok (.ifCond .ne 7, 3) := by decide +kernel
theorem d_M_says_9 : decode c_M_says 9 = .ok (.iconst 1, 1) := by decide +kernel
theorem d_M_says_10 : decode c_M_says 10 = .ok (.goto 4, 3) := by decide +kernel
theorem d_M_says_13 : decode c_M_says 13 = .ok (.iconst 0, 1) := by decide +kernel
theorem d_M_says_14 : decode c_M_says 14 = .ok (.ireturn, 1) := by decide +kernel
abbrev c_M_in : ByteArray := prog_9_method_4_code
abbrev y_M_in : MethodName := ⟨"BlobStoreModel", "in", "(III)Z"⟩
theorem i_M_in : bIs y_M_in 3 := Or.inl ⟨_, _, t3_186⟩
theorem d_M_in_0 : decode c_M_in 0 = .ok (.iload_n 0, 1) := by decide +kernel
theorem d_M_in_1 : decode c_M_in 1 = .ok (.iload_n 1, 1) := by decide +kernel
theorem d_M_in_2 : decode c_M_in 2 = .ok (.if_icmp .lt 12, 3) := by decide +kernel
theorem d_M_in_5 : decode c_M_in 5 = .ok (.iload_n 0, 1) := by decide +kernel
theorem d_M_in_6 : decode c_M_in 6 = .ok (.iload_n 2, 1) := by decide +kernel
theorem d_M_in_7 : decode c_M_in 7 = .ok (.if_icmp .gt 7, 3) := by decide +kernel
theorem d_M_in_10 : decode c_M_in 10 = .ok (.iconst 1, 1) := by decide +kernel
theorem d_M_in_11 : decode c_M_in 11 = .ok (.goto 4, 3) := by decide +kernel
theorem d_M_in_14 : decode c_M_in 14 = .ok (.iconst 0, 1) := by decide +kernel
theorem d_M_in_15 : decode c_M_in 15 = .ok (.ireturn, 1) := by decide +kernel
abbrev c_M_isPrime : ByteArray := prog_9_method_5_code
abbrev y_M_isPrime : MethodName := ⟨"BlobStoreModel", "isPrime", "(I)Z"⟩
theorem i_M_isPrime : bIs y_M_isPrime 2 := Or.inl ⟨_, _, t3_97⟩
theorem d_M_isPrime_0 : decode c_M_isPrime 0 = .ok (.iconst 2, 1) := by decide +kernel
theorem d_M_isPrime_1 : decode c_M_isPrime 1 = .ok (.istore_n 1, 1) := by decide +kernel
theorem d_M_isPrime_2 : decode c_M_isPrime 2 = .ok (.iload_n 1, 1) := by decide +kernel
theorem d_M_isPrime_3 : decode c_M_isPrime 3 = .ok (.iload_n 1, 1) := by decide +kernel
theorem d_M_isPrime_4 : decode c_M_isPrime 4 = .ok (.imul, 1) := by decide +kernel
theorem d_M_isPrime_5 : decode c_M_isPrime 5 = .ok (.iload_n 0, 1) := by decide +kernel
theorem d_M_isPrime_6 : decode c_M_isPrime 6 = .ok (.if_icmp .gt 17, 3) := by decide +kernel
theorem d_M_isPrime_9 : decode c_M_isPrime 9 = .ok (.iload_n 0, 1) := by decide +kernel
theorem d_M_isPrime_10 : decode c_M_isPrime 10 = .ok (.iload_n 1, 1) := by decide +kernel
theorem d_M_isPrime_11 : decode c_M_isPrime 11 = .ok (.irem, 1) := by decide +kernel
theorem d_M_isPrime_12 : decode c_M_isPrime 12 = .ok (.ifCond .ne 5, 3) := by decide +kernel
theorem d_M_isPrime_15 : decode c_M_isPrime 15 = .ok (.iconst 0, 1) := by decide +kernel
theorem d_M_isPrime_16 : decode c_M_isPrime 16 = .ok (.ireturn, 1) := by decide +kernel
theorem d_M_isPrime_17 : decode c_M_isPrime 17 = .ok (.iinc 1 1, 3) := by decide +kernel
theorem d_M_isPrime_20 : decode c_M_isPrime 20 = .ok (.goto (-18), 3) := by decide +kernel
theorem d_M_isPrime_23 : decode c_M_isPrime 23 = .ok (.iconst 1, 1) := by decide +kernel
theorem d_M_isPrime_24 : decode c_M_isPrime 24 = .ok (.ireturn, 1) := by decide +kernel
abbrev c_M_root : ByteArray := prog_9_method_6_code
abbrev y_M_root : MethodName := ⟨"BlobStoreModel", "root", "(II)I"⟩
theorem i_M_root : bIs y_M_root 6 := Or.inl ⟨_, _, t3_101⟩
theorem d_M_root_0 : decode c_M_root 0 = .ok (.lconst 0, 1) := by decide +kernel
theorem d_M_root_1 : decode c_M_root 1 = .ok (.lstore_n 3, 1) := by decide +kernel
theorem d_M_root_2 : decode c_M_root 2 = .ok (.bipush 35, 2) := by decide +kernel
theorem d_M_root_4 : decode c_M_root 4 = .ok (.istore 5, 2) := by decide +kernel
theorem d_M_root_6 : decode c_M_root 6 = .ok (.iload 5, 2) := by decide +kernel
theorem d_M_root_8 : decode c_M_root 8 = .ok (.ifCond .lt 31, 3) := by decide +kernel
theorem d_M_root_11 : decode c_M_root 11 = .ok (.aload_n 0, 1) := by decide +kernel
theorem d_M_root_12 : decode c_M_root 12 = .ok (.lload_n 3, 1) := by decide +kernel
theorem d_M_root_13 : decode c_M_root 13 = .ok (.lconst 1, 1) := by decide +kernel
theorem d_M_root_14 : decode c_M_root 14 = .ok (.iload 5, 2) := by decide +kernel
theorem d_M_root_16 : decode c_M_root 16 = .ok (.lshl, 1) := by decide +kernel
theorem d_M_root_17 : decode c_M_root 17 = .ok (.lor, 1) := by decide +kernel
theorem d_M_root_18 : decode c_M_root 18 = .ok (.iload_n 1, 1) := by decide +kernel
theorem d_M_root_19 : decode c_M_root 19 = .ok (.iload_n 2, 1) := by decide +kernel
theorem d_M_root_20 : decode c_M_root 20 = .ok (.invokevirtual 78, 3) := by decide +kernel
theorem d_M_root_23 : decode c_M_root 23 = .ok (.ifCond .ne 10, 3) := by decide +kernel
theorem d_M_root_26 : decode c_M_root 26 = .ok (.lload_n 3, 1) := by decide +kernel
theorem d_M_root_27 : decode c_M_root 27 = .ok (.lconst 1, 1) := by decide +kernel
theorem d_M_root_28 : decode c_M_root 28 = .ok (.iload 5, 2) := by decide +kernel
theorem d_M_root_30 : decode c_M_root 30 = .ok (.lshl, 1) := by decide +kernel
theorem d_M_root_31 : decode c_M_root 31 = .ok (.lor, 1) := by decide +kernel
theorem d_M_root_32 : decode c_M_root 32 = .ok (.lstore_n 3, 1) := by decide +kernel
theorem d_M_root_33 : decode c_M_root 33 = .ok (.iinc 5 (-1), 3) := by decide +kernel
theorem d_M_root_36 : decode c_M_root 36 = .ok (.goto (-30), 3) := by decide +kernel
theorem d_M_root_39 : decode c_M_root 39 = .ok (.lload_n 3, 1) := by decide +kernel
theorem d_M_root_40 : decode c_M_root 40 = .ok (.l2i, 1) := by decide +kernel
theorem d_M_root_41 : decode c_M_root 41 = .ok (.ireturn, 1) := by decide +kernel
abbrev c_M_isAbove : ByteArray := prog_9_method_7_code
abbrev y_M_isAbove : MethodName := ⟨"BlobStoreModel", "isAbove", "(JII)Z"⟩
theorem i_M_isAbove : bIs y_M_isAbove 15 := Or.inl ⟨_, _, t3_105⟩
theorem d_M_isAbove_0 : decode c_M_isAbove 0 = .ok (.lload_n 1, 1) := by decide +kernel
theorem d_M_isAbove_1 : decode c_M_isAbove 1 = .ok (.ldc2_w 82, 3) := by decide +kernel
theorem d_M_isAbove_4 : decode c_M_isAbove 4 = .ok (.land, 1) := by decide +kernel
theorem d_M_isAbove_5 : decode c_M_isAbove 5 = .ok (.lstore 5, 2) := by decide +kernel
theorem d_M_isAbove_7 : decode c_M_isAbove 7 = .ok (.lload_n 1, 1) := by decide +kernel
theorem d_M_isAbove_8 : decode c_M_isAbove 8 = .ok (.bipush 20, 2) := by decide +kernel
theorem d_M_isAbove_10 : decode c_M_isAbove 10 = .ok (.lshr, 1) := by decide +kernel
theorem d_M_isAbove_11 : decode c_M_isAbove 11 = .ok (.lstore 7, 2) := by decide +kernel
theorem d_M_isAbove_13 : decode c_M_isAbove 13 = .ok (.iconst 0, 1) := by decide +kernel
theorem d_M_isAbove_14 : decode c_M_isAbove 14 = .ok (.istore 9, 2) := by decide +kernel
theorem d_M_isAbove_16 : decode c_M_isAbove 16 = .ok (.iload 9, 2) := by decide +kernel
theorem d_M_isAbove_18 : decode c_M_isAbove 18 = .ok (.bipush 8, 2) := by decide +kernel
theorem d_M_isAbove_20 : decode c_M_isAbove 20 = .ok (.if_icmp .ge 26, 3) := by decide +kernel
theorem d_M_isAbove_23 : decode c_M_isAbove 23 = .ok (.aload_n 0, 1) := by decide +kernel
theorem d_M_isAbove_24 : decode c_M_isAbove 24 = .ok (.getfield 63, 3) := by decide +kernel
theorem d_M_isAbove_27 : decode c_M_isAbove 27 = .ok (.iload 9, 2) := by decide +kernel
theorem d_M_isAbove_29 : decode c_M_isAbove 29 = .ok (.iload 9, 2) := by decide +kernel
theorem d_M_isAbove_31 : decode c_M_isAbove 31 = .ok (.ifCond .ne 7, 3) := by decide +kernel
theorem d_M_isAbove_34 : decode c_M_isAbove 34 = .ok (.lconst 1, 1) := by decide +kernel
theorem d_M_isAbove_35 : decode c_M_isAbove 35 = .ok (.goto 4, 3) := by decide +kernel
theorem d_M_isAbove_38 : decode c_M_isAbove 38 = .ok (.lconst 0, 1) := by decide +kernel
theorem d_M_isAbove_39 : decode c_M_isAbove 39 = .ok (.lastore, 1) := by decide +kernel
theorem d_M_isAbove_40 : decode c_M_isAbove 40 = .ok (.iinc 9 1, 3) := by decide +kernel
theorem d_M_isAbove_43 : decode c_M_isAbove 43 = .ok (.goto (-27), 3) := by decide +kernel
theorem d_M_isAbove_46 : decode c_M_isAbove 46 = .ok (.iconst 0, 1) := by decide +kernel
theorem d_M_isAbove_47 : decode c_M_isAbove 47 = .ok (.istore 9, 2) := by decide +kernel
theorem d_M_isAbove_49 : decode c_M_isAbove 49 = .ok (.iload 9, 2) := by decide +kernel
theorem d_M_isAbove_51 : decode c_M_isAbove 51 = .ok (.iload 4, 2) := by decide +kernel
theorem d_M_isAbove_53 : decode c_M_isAbove 53 = .ok (.if_icmp .ge 119, 3) := by decide +kernel
theorem d_M_isAbove_56 : decode c_M_isAbove 56 = .ok (.bipush 7, 2) := by decide +kernel
theorem d_M_isAbove_58 : decode c_M_isAbove 58 = .ok (.istore 10, 2) := by decide +kernel
theorem d_M_isAbove_60 : decode c_M_isAbove 60 = .ok (.iload 10, 2) := by decide +kernel
theorem d_M_isAbove_62 : decode c_M_isAbove 62 = .ok (.ifCond .lt 48, 3) := by decide +kernel
theorem d_M_isAbove_65 : decode c_M_isAbove 65 = .ok (.aload_n 0, 1) := by decide +kernel
theorem d_M_isAbove_66 : decode c_M_isAbove 66 = .ok (.getfield 63, 3) := by decide +kernel
theorem d_M_isAbove_69 : decode c_M_isAbove 69 = .ok (.iload 10, 2) := by decide +kernel
theorem d_M_isAbove_71 : decode c_M_isAbove 71 = .ok (.aload_n 0, 1) := by decide +kernel
theorem d_M_isAbove_72 : decode c_M_isAbove 72 = .ok (.getfield 63, 3) := by decide +kernel
theorem d_M_isAbove_75 : decode c_M_isAbove 75 = .ok (.iload 10, 2) := by decide +kernel
theorem d_M_isAbove_77 : decode c_M_isAbove 77 = .ok (.laload, 1) := by decide +kernel
theorem d_M_isAbove_78 : decode c_M_isAbove 78 = .ok (.lload 5, 2) := by decide +kernel
theorem d_M_isAbove_80 : decode c_M_isAbove 80 = .ok (.lmul, 1) := by decide +kernel
theorem d_M_isAbove_81 : decode c_M_isAbove 81 = .ok (.iload 10, 2) := by decide +kernel
theorem d_M_isAbove_83 : decode c_M_isAbove 83 = .ok (.ifCond .le 18, 3) := by decide +kernel
theorem d_M_isAbove_86 : decode c_M_isAbove 86 = .ok (.aload_n 0, 1) := by decide +kernel
theorem d_M_isAbove_87 : decode c_M_isAbove 87 = .ok (.getfield 63, 3) := by decide +kernel
theorem d_M_isAbove_90 : decode c_M_isAbove 90 = .ok (.iload 10, 2) := by decide +kernel
theorem d_M_isAbove_92 : decode c_M_isAbove 92 = .ok (.iconst 1, 1) := by decide +kernel
theorem d_M_isAbove_93 : decode c_M_isAbove 93 = .ok (.isub, 1) := by decide +kernel
theorem d_M_isAbove_94 : decode c_M_isAbove 94 = .ok (.laload, 1) := by decide +kernel
theorem d_M_isAbove_95 : decode c_M_isAbove 95 = .ok (.lload 7, 2) := by decide +kernel
theorem d_M_isAbove_97 : decode c_M_isAbove 97 = .ok (.lmul, 1) := by decide +kernel
theorem d_M_isAbove_98 : decode c_M_isAbove 98 = .ok (.goto 4, 3) := by decide +kernel
theorem d_M_isAbove_101 : decode c_M_isAbove 101 = .ok (.lconst 0, 1) := by decide +kernel
theorem d_M_isAbove_102 : decode c_M_isAbove 102 = .ok (.ladd, 1) := by decide +kernel
theorem d_M_isAbove_103 : decode c_M_isAbove 103 = .ok (.lastore, 1) := by decide +kernel
theorem d_M_isAbove_104 : decode c_M_isAbove 104 = .ok (.iinc 10 (-1), 3) := by decide +kernel
theorem d_M_isAbove_107 : decode c_M_isAbove 107 = .ok (.goto (-47), 3) := by decide +kernel
theorem d_M_isAbove_110 : decode c_M_isAbove 110 = .ok (.iconst 0, 1) := by decide +kernel
theorem d_M_isAbove_111 : decode c_M_isAbove 111 = .ok (.istore 10, 2) := by decide +kernel
theorem d_M_isAbove_113 : decode c_M_isAbove 113 = .ok (.iload 10, 2) := by decide +kernel
theorem d_M_isAbove_115 : decode c_M_isAbove 115 = .ok (.bipush 7, 2) := by decide +kernel
theorem d_M_isAbove_117 : decode c_M_isAbove 117 = .ok (.if_icmp .ge 49, 3) := by decide +kernel
theorem d_M_isAbove_120 : decode c_M_isAbove 120 = .ok (.aload_n 0, 1) := by decide +kernel
theorem d_M_isAbove_121 : decode c_M_isAbove 121 = .ok (.getfield 63, 3) := by decide +kernel
theorem d_M_isAbove_124 : decode c_M_isAbove 124 = .ok (.iload 10, 2) := by decide +kernel
theorem d_M_isAbove_126 : decode c_M_isAbove 126 = .ok (.iconst 1, 1) := by decide +kernel
theorem d_M_isAbove_127 : decode c_M_isAbove 127 = .ok (.iadd, 1) := by decide +kernel
theorem d_M_isAbove_128 : decode c_M_isAbove 128 = .ok (.dup2, 1) := by decide +kernel
theorem d_M_isAbove_129 : decode c_M_isAbove 129 = .ok (.laload, 1) := by decide +kernel
theorem d_M_isAbove_130 : decode c_M_isAbove 130 = .ok (.aload_n 0, 1) := by decide +kernel
theorem d_M_isAbove_131 : decode c_M_isAbove 131 = .ok (.getfield 63, 3) := by decide +kernel
theorem d_M_isAbove_134 : decode c_M_isAbove 134 = .ok (.iload 10, 2) := by decide +kernel
theorem d_M_isAbove_136 : decode c_M_isAbove 136 = .ok (.laload, 1) := by decide +kernel
theorem d_M_isAbove_137 : decode c_M_isAbove 137 = .ok (.bipush 20, 2) := by decide +kernel
theorem d_M_isAbove_139 : decode c_M_isAbove 139 = .ok (.lshr, 1) := by decide +kernel
theorem d_M_isAbove_140 : decode c_M_isAbove 140 = .ok (.ladd, 1) := by decide +kernel
theorem d_M_isAbove_141 : decode c_M_isAbove 141 = .ok (.lastore, 1) := by decide +kernel
theorem d_M_isAbove_142 : decode c_M_isAbove 142 = .ok (.aload_n 0, 1) := by decide +kernel
theorem d_M_isAbove_143 : decode c_M_isAbove 143 = .ok (.getfield 63, 3) := by decide +kernel
theorem d_M_isAbove_146 : decode c_M_isAbove 146 = .ok (.iload 10, 2) := by decide +kernel
theorem d_M_isAbove_148 : decode c_M_isAbove 148 = .ok (.aload_n 0, 1) := by decide +kernel
theorem d_M_isAbove_149 : decode c_M_isAbove 149 = .ok (.getfield 63, 3) := by decide +kernel
theorem d_M_isAbove_152 : decode c_M_isAbove 152 = .ok (.iload 10, 2) := by decide +kernel
theorem d_M_isAbove_154 : decode c_M_isAbove 154 = .ok (.laload, 1) := by decide +kernel
theorem d_M_isAbove_155 : decode c_M_isAbove 155 = .ok (.ldc2_w 82, 3) := by decide +kernel
theorem d_M_isAbove_158 : decode c_M_isAbove 158 = .ok (.land, 1) := by decide +kernel
theorem d_M_isAbove_159 : decode c_M_isAbove 159 = .ok (.lastore, 1) := by decide +kernel
theorem d_M_isAbove_160 : decode c_M_isAbove 160 = .ok (.iinc 10 1, 3) := by decide +kernel
theorem d_M_isAbove_163 : decode c_M_isAbove 163 = .ok (.goto (-50), 3) := by decide +kernel
theorem d_M_isAbove_166 : decode c_M_isAbove 166 = .ok (.iinc 9 1, 3) := by decide +kernel
theorem d_M_isAbove_169 : decode c_M_isAbove 169 = .ok (.goto (-120), 3) := by decide +kernel
theorem d_M_isAbove_172 : decode c_M_isAbove 172 = .ok (.bipush 32, 2) := by decide +kernel
theorem d_M_isAbove_174 : decode c_M_isAbove 174 = .ok (.iload 4, 2) := by decide +kernel
theorem d_M_isAbove_176 : decode c_M_isAbove 176 = .ok (.imul, 1) := by decide +kernel
theorem d_M_isAbove_177 : decode c_M_isAbove 177 = .ok (.bipush 20, 2) := by decide +kernel
theorem d_M_isAbove_179 : decode c_M_isAbove 179 = .ok (.idiv, 1) := by decide +kernel
theorem d_M_isAbove_180 : decode c_M_isAbove 180 = .ok (.istore 9, 2) := by decide +kernel
theorem d_M_isAbove_182 : decode c_M_isAbove 182 = .ok (.iload_n 3, 1) := by decide +kernel
theorem d_M_isAbove_183 : decode c_M_isAbove 183 = .ok (.i2l, 1) := by decide +kernel
theorem d_M_isAbove_184 : decode c_M_isAbove 184 = .ok (.bipush 32, 2) := by decide +kernel
theorem d_M_isAbove_186 : decode c_M_isAbove 186 = .ok (.iload 4, 2) := by decide +kernel
theorem d_M_isAbove_188 : decode c_M_isAbove 188 = .ok (.imul, 1) := by decide +kernel
theorem d_M_isAbove_189 : decode c_M_isAbove 189 = .ok (.bipush 20, 2) := by decide +kernel
theorem d_M_isAbove_191 : decode c_M_isAbove 191 = .ok (.irem, 1) := by decide +kernel
theorem d_M_isAbove_192 : decode c_M_isAbove 192 = .ok (.lshl, 1) := by decide +kernel
theorem d_M_isAbove_193 : decode c_M_isAbove 193 = .ok (.lstore 10, 2) := by decide +kernel
theorem d_M_isAbove_195 : decode c_M_isAbove 195 = .ok (.bipush 7, 2) := by decide +kernel
theorem d_M_isAbove_197 : decode c_M_isAbove 197 = .ok (.istore 12, 2) := by decide +kernel
theorem d_M_isAbove_199 : decode c_M_isAbove 199 = .ok (.iload 12, 2) := by decide +kernel
theorem d_M_isAbove_201 : decode c_M_isAbove 201 = .ok (.ifCond .lt 77, 3) := by decide +kernel
theorem d_M_isAbove_204 : decode c_M_isAbove 204 = .ok (.iload 12, 2) := by decide +kernel
theorem d_M_isAbove_206 : decode c_M_isAbove 206 = .ok (.iload 9, 2) := by decide +kernel
theorem d_M_isAbove_208 : decode c_M_isAbove 208 = .ok (.if_icmp .ne 12, 3) := by decide +kernel
theorem d_M_isAbove_211 : decode c_M_isAbove 211 = .ok (.lload 10, 2) := by decide +kernel
theorem d_M_isAbove_213 : decode c_M_isAbove 213 = .ok (.ldc2_w 82, 3) := by decide +kernel
theorem d_M_isAbove_216 : decode c_M_isAbove 216 = .ok (.land, 1) := by decide +kernel
theorem d_M_isAbove_217 : decode c_M_isAbove 217 = .ok (.goto 21, 3) := by decide +kernel
theorem d_M_isAbove_220 : decode c_M_isAbove 220 = .ok (.iload 12, 2) := by decide +kernel
theorem d_M_isAbove_222 : decode c_M_isAbove 222 = .ok (.iload 9, 2) := by decide +kernel
theorem d_M_isAbove_224 : decode c_M_isAbove 224 = .ok (.iconst 1, 1) := by decide +kernel
theorem d_M_isAbove_225 : decode c_M_isAbove 225 = .ok (.iadd, 1) := by decide +kernel
theorem d_M_isAbove_226 : decode c_M_isAbove 226 = .ok (.if_icmp .ne 11, 3) := by decide +kernel
theorem d_M_isAbove_229 : decode c_M_isAbove 229 = .ok (.lload 10, 2) := by decide +kernel
theorem d_M_isAbove_231 : decode c_M_isAbove 231 = .ok (.bipush 20, 2) := by decide +kernel
theorem d_M_isAbove_233 : decode c_M_isAbove 233 = .ok (.lshr, 1) := by decide +kernel
theorem d_M_isAbove_234 : decode c_M_isAbove 234 = .ok (.goto 4, 3) := by decide +kernel
theorem d_M_isAbove_237 : decode c_M_isAbove 237 = .ok (.lconst 0, 1) := by decide +kernel
theorem d_M_isAbove_238 : decode c_M_isAbove 238 = .ok (.lstore 13, 2) := by decide +kernel
theorem d_M_isAbove_240 : decode c_M_isAbove 240 = .ok (.aload_n 0, 1) := by decide +kernel
theorem d_M_isAbove_241 : decode c_M_isAbove 241 = .ok (.getfield 63, 3) := by decide +kernel
theorem d_M_isAbove_244 : decode c_M_isAbove 244 = .ok (.iload 12, 2) := by decide +kernel
theorem d_M_isAbove_246 : decode c_M_isAbove 246 = .ok (.laload, 1) := by decide +kernel
theorem d_M_isAbove_247 : decode c_M_isAbove 247 = .ok (.lload 13, 2) := by decide +kernel
theorem d_M_isAbove_249 : decode c_M_isAbove 249 = .ok (.lcmp, 1) := by decide +kernel
theorem d_M_isAbove_250 : decode c_M_isAbove 250 = .ok (.ifCond .eq 22, 3) := by decide +kernel
theorem d_M_isAbove_253 : decode c_M_isAbove 253 = .ok (.aload_n 0, 1) := by decide +kernel
theorem d_M_isAbove_254 : decode c_M_isAbove 254 = .ok (.getfield 63, 3) := by decide +kernel
theorem d_M_isAbove_257 : decode c_M_isAbove 257 = .ok (.iload 12, 2) := by decide +kernel
theorem d_M_isAbove_259 : decode c_M_isAbove 259 = .ok (.laload, 1) := by decide +kernel
theorem d_M_isAbove_260 : decode c_M_isAbove 260 = .ok (.lload 13, 2) := by decide +kernel
theorem d_M_isAbove_262 : decode c_M_isAbove 262 = .ok (.lcmp, 1) := by decide +kernel
theorem d_M_isAbove_263 : decode c_M_isAbove 263 = .ok (.ifCond .le 7, 3) := by decide +kernel
theorem d_M_isAbove_266 : decode c_M_isAbove 266 = .ok (.iconst 1, 1) := by decide +kernel
theorem d_M_isAbove_267 : decode c_M_isAbove 267 = .ok (.goto 4, 3) := by decide +kernel
theorem d_M_isAbove_270 : decode c_M_isAbove 270 = .ok (.iconst 0, 1) := by decide +kernel
theorem d_M_isAbove_271 : decode c_M_isAbove 271 = .ok (.ireturn, 1) := by decide +kernel
theorem d_M_isAbove_272 : decode c_M_isAbove 272 = .ok (.iinc 12 (-1), 3) := by decide +kernel
theorem d_M_isAbove_275 : decode c_M_isAbove 275 = .ok (.goto (-76), 3) := by decide +kernel
theorem d_M_isAbove_278 : decode c_M_isAbove 278 = .ok (.iconst 0, 1) := by decide +kernel
theorem d_M_isAbove_279 : decode c_M_isAbove 279 = .ok (.ireturn, 1) := by decide +kernel
abbrev c_M_turn : ByteArray := prog_9_method_8_code
abbrev y_M_turn : MethodName := ⟨"BlobStoreModel", "turn", "(II)I"⟩
theorem i_M_turn : bIs y_M_turn 2 := Or.inl ⟨_, _, t4_57⟩
theorem d_M_turn_0 : decode c_M_turn 0 = .ok (.iload_n 0, 1) := by decide +kernel
theorem d_M_turn_1 : decode c_M_turn 1 = .ok (.iload_n 1, 1) := by decide +kernel
theorem d_M_turn_2 : decode c_M_turn 2 = .ok (.iushr, 1) := by decide +kernel
theorem d_M_turn_3 : decode c_M_turn 3 = .ok (.iload_n 0, 1) := by decide +kernel
theorem d_M_turn_4 : decode c_M_turn 4 = .ok (.bipush 32, 2) := by decide +kernel
theorem d_M_turn_6 : decode c_M_turn 6 = .ok (.iload_n 1, 1) := by decide +kernel
theorem d_M_turn_7 : decode c_M_turn 7 = .ok (.isub, 1) := by decide +kernel
theorem d_M_turn_8 : decode c_M_turn 8 = .ok (.ishl, 1) := by decide +kernel
theorem d_M_turn_9 : decode c_M_turn 9 = .ok (.ior, 1) := by decide +kernel
theorem d_M_turn_10 : decode c_M_turn 10 = .ok (.ireturn, 1) := by decide +kernel
abbrev c_M_addressOf : ByteArray := prog_9_method_9_code
abbrev y_M_addressOf : MethodName := ⟨"BlobStoreModel", "addressOf", "(I)V"⟩
theorem i_M_addressOf : bIs y_M_addressOf 9 := Or.inl ⟨_, _, t4_54⟩
theorem d_M_addressOf_0 : decode c_M_addressOf 0 = .ok (.aload_n 0, 1) := by decide +kernel
theorem d_M_addressOf_1 : decode c_M_addressOf 1 = .ok (.getfield 7, 3) := by decide +kernel
theorem d_M_addressOf_4 : decode c_M_addressOf 4 = .ok (.iload_n 1, 1) := by decide +kernel
theorem d_M_addressOf_5 : decode c_M_addressOf 5 = .ok (.iaload, 1) := by decide +kernel
theorem d_M_addressOf_6 : decode c_M_addressOf 6 = .ok (.istore_n 2, 1) := by decide +kernel
theorem d_M_addressOf_7 : decode c_M_addressOf 7 = .ok (.iconst 0, 1) := by decide +kernel
theorem d_M_addressOf_8 : decode c_M_addressOf 8 = .ok (.istore_n 3, 1) := by decide +kernel
theorem d_M_addressOf_9 : decode c_M_addressOf 9 = .ok (.iload_n 3, 1) := by decide +kernel
theorem d_M_addressOf_10 : decode c_M_addressOf 10 = .ok (.bipush 16, 2) := by decide +kernel
theorem d_M_addressOf_12 : decode c_M_addressOf 12 = .ok (.if_icmp .ge 16, 3) := by decide +kernel
theorem d_M_addressOf_15 : decode c_M_addressOf 15 = .ok (.aload_n 0, 1) := by decide +kernel
theorem d_M_addressOf_16 : decode c_M_addressOf 16 = .ok (.getfield 54, 3) := by decide +kernel
theorem d_M_addressOf_19 : decode c_M_addressOf 19 = .ok (.iload_n 3, 1) := by decide +kernel
theorem d_M_addressOf_20 : decode c_M_addressOf 20 = .ok (.iconst 0, 1) := by decide +kernel
theorem d_M_addressOf_21 : decode c_M_addressOf 21 = .ok (.iastore, 1) := by decide +kernel
theorem d_M_addressOf_22 : decode c_M_addressOf 22 = .ok (.iinc 3 1, 3) := by decide +kernel
theorem d_M_addressOf_25 : decode c_M_addressOf 25 = .ok (.goto (-16), 3) := by decide +kernel
theorem d_M_addressOf_28 : decode c_M_addressOf 28 = .ok (.iconst 0, 1) := by decide +kernel
theorem d_M_addressOf_29 : decode c_M_addressOf 29 = .ok (.istore_n 3, 1) := by decide +kernel
theorem d_M_addressOf_30 : decode c_M_addressOf 30 = .ok (.iload_n 3, 1) := by decide +kernel
theorem d_M_addressOf_31 : decode c_M_addressOf 31 = .ok (.iload_n 2, 1) := by decide +kernel
theorem d_M_addressOf_32 : decode c_M_addressOf 32 = .ok (.if_icmp .ge 41, 3) := by decide +kernel
theorem d_M_addressOf_35 : decode c_M_addressOf 35 = .ok (.aload_n 0, 1) := by decide +kernel
theorem d_M_addressOf_36 : decode c_M_addressOf 36 = .ok (.getfield 54, 3) := by decide +kernel
theorem d_M_addressOf_39 : decode c_M_addressOf 39 = .ok (.iload_n 3, 1) := by decide +kernel
theorem d_M_addressOf_40 : decode c_M_addressOf 40 = .ok (.iconst 4, 1) := by decide +kernel
theorem d_M_addressOf_41 : decode c_M_addressOf 41 = .ok (.idiv, 1) := by decide +kernel
theorem d_M_addressOf_42 : decode c_M_addressOf 42 = .ok (.dup2, 1) := by decide +kernel
theorem d_M_addressOf_43 : decode c_M_addressOf 43 = .ok (.iaload, 1) := by decide +kernel
theorem d_M_addressOf_44 : decode c_M_addressOf 44 = .ok (.aload_n 0, 1) := by decide +kernel
theorem d_M_addressOf_45 : decode c_M_addressOf 45 = .ok (.getfield 13, 3) := by decide +kernel
theorem d_M_addressOf_48 : decode c_M_addressOf 48 = .ok (.bipush 8, 2) := by decide +kernel
theorem d_M_addressOf_50 : decode c_M_addressOf 50 = .ok (.iload_n 1, 1) := by decide +kernel
theorem d_M_addressOf_51 : decode c_M_addressOf 51 = .ok (.imul, 1) := by decide +kernel
theorem d_M_addressOf_52 : decode c_M_addressOf 52 = .ok (.iload_n 3, 1) := by decide +kernel
theorem d_M_addressOf_53 : decode c_M_addressOf 53 = .ok (.iadd, 1) := by decide +kernel
theorem d_M_addressOf_54 : decode c_M_addressOf 54 = .ok (.iaload, 1) := by decide +kernel
theorem d_M_addressOf_55 : decode c_M_addressOf 55 = .ok (.bipush 24, 2) := by decide +kernel
theorem d_M_addressOf_57 : decode c_M_addressOf 57 = .ok (.bipush 8, 2) := by decide +kernel
theorem d_M_addressOf_59 : decode c_M_addressOf 59 = .ok (.iload_n 3, 1) := by decide +kernel
theorem d_M_addressOf_60 : decode c_M_addressOf 60 = .ok (.iconst 4, 1) := by decide +kernel
theorem d_M_addressOf_61 : decode c_M_addressOf 61 = .ok (.irem, 1) := by decide +kernel
theorem d_M_addressOf_62 : decode c_M_addressOf 62 = .ok (.imul, 1) := by decide +kernel
theorem d_M_addressOf_63 : decode c_M_addressOf 63 = .ok (.isub, 1) := by decide +kernel
theorem d_M_addressOf_64 : decode c_M_addressOf 64 = .ok (.ishl, 1) := by decide +kernel
theorem d_M_addressOf_65 : decode c_M_addressOf 65 = .ok (.ior, 1) := by decide +kernel
theorem d_M_addressOf_66 : decode c_M_addressOf 66 = .ok (.iastore, 1) := by decide +kernel
theorem d_M_addressOf_67 : decode c_M_addressOf 67 = .ok (.iinc 3 1, 3) := by decide +kernel
theorem d_M_addressOf_70 : decode c_M_addressOf 70 = .ok (.goto (-40), 3) := by decide +kernel
theorem d_M_addressOf_73 : decode c_M_addressOf 73 = .ok (.aload_n 0, 1) := by decide +kernel
theorem d_M_addressOf_74 : decode c_M_addressOf 74 = .ok (.getfield 54, 3) := by decide +kernel
theorem d_M_addressOf_77 : decode c_M_addressOf 77 = .ok (.iload_n 2, 1) := by decide +kernel
theorem d_M_addressOf_78 : decode c_M_addressOf 78 = .ok (.iconst 4, 1) := by decide +kernel
theorem d_M_addressOf_79 : decode c_M_addressOf 79 = .ok (.idiv, 1) := by decide +kernel
theorem d_M_addressOf_80 : decode c_M_addressOf 80 = .ok (.dup2, 1) := by decide +kernel
theorem d_M_addressOf_81 : decode c_M_addressOf 81 = .ok (.iaload, 1) := by decide +kernel
theorem d_M_addressOf_82 : decode c_M_addressOf 82 = .ok (.sipush 128, 3) := by decide +kernel
theorem d_M_addressOf_85 : decode c_M_addressOf 85 = .ok (.bipush 24, 2) := by decide +kernel
theorem d_M_addressOf_87 : decode c_M_addressOf 87 = .ok (.bipush 8, 2) := by decide +kernel
theorem d_M_addressOf_89 : decode c_M_addressOf 89 = .ok (.iload_n 2, 1) := by decide +kernel
theorem d_M_addressOf_90 : decode c_M_addressOf 90 = .ok (.iconst 4, 1) := by decide +kernel
theorem d_M_addressOf_91 : decode c_M_addressOf 91 = .ok (.irem, 1) := by decide +kernel
theorem d_M_addressOf_92 : decode c_M_addressOf 92 = .ok (.imul, 1) := by decide +kernel
theorem d_M_addressOf_93 : decode c_M_addressOf 93 = .ok (.isub, 1) := by decide +kernel
theorem d_M_addressOf_94 : decode c_M_addressOf 94 = .ok (.ishl, 1) := by decide +kernel
theorem d_M_addressOf_95 : decode c_M_addressOf 95 = .ok (.ior, 1) := by decide +kernel
theorem d_M_addressOf_96 : decode c_M_addressOf 96 = .ok (.iastore, 1) := by decide +kernel
theorem d_M_addressOf_97 : decode c_M_addressOf 97 = .ok (.aload_n 0, 1) := by decide +kernel
theorem d_M_addressOf_98 : decode c_M_addressOf 98 = .ok (.getfield 54, 3) := by decide +kernel
theorem d_M_addressOf_101 : decode c_M_addressOf 101 = .ok (.bipush 15, 2) := by decide +kernel
theorem d_M_addressOf_103 : decode c_M_addressOf 103 = .ok (.bipush 8, 2) := by decide +kernel
theorem d_M_addressOf_105 : decode c_M_addressOf 105 = .ok (.iload_n 2, 1) := by decide +kernel
theorem d_M_addressOf_106 : decode c_M_addressOf 106 = .ok (.imul, 1) := by decide +kernel
theorem d_M_addressOf_107 : decode c_M_addressOf 107 = .ok (.iastore, 1) := by decide +kernel
theorem d_M_addressOf_108 : decode c_M_addressOf 108 = .ok (.bipush 16, 2) := by decide +kernel
theorem d_M_addressOf_110 : decode c_M_addressOf 110 = .ok (.istore_n 3, 1) := by decide +kernel
theorem d_M_addressOf_111 : decode c_M_addressOf 111 = .ok (.iload_n 3, 1) := by decide +kernel
theorem d_M_addressOf_112 : decode c_M_addressOf 112 = .ok (.bipush 64, 2) := by decide +kernel
theorem d_M_addressOf_114 : decode c_M_addressOf 114 = .ok (.if_icmp .ge 98, 3) := by decide +kernel
theorem d_M_addressOf_117 : decode c_M_addressOf 117 = .ok (.aload_n 0, 1) := by decide +kernel
theorem d_M_addressOf_118 : decode c_M_addressOf 118 = .ok (.getfield 54, 3) := by decide +kernel
theorem d_M_addressOf_121 : decode c_M_addressOf 121 = .ok (.iload_n 3, 1) := by decide +kernel
theorem d_M_addressOf_122 : decode c_M_addressOf 122 = .ok (.bipush 15, 2) := by decide +kernel
theorem d_M_addressOf_124 : decode c_M_addressOf 124 = .ok (.isub, 1) := by decide +kernel
theorem d_M_addressOf_125 : decode c_M_addressOf 125 = .ok (.iaload, 1) := by decide +kernel
theorem d_M_addressOf_126 : decode c_M_addressOf 126 = .ok (.istore 4, 2) := by decide +kernel
theorem d_M_addressOf_128 : decode c_M_addressOf 128 = .ok (.aload_n 0, 1) := by decide +kernel
theorem d_M_addressOf_129 : decode c_M_addressOf 129 = .ok (.getfield 54, 3) := by decide +kernel
theorem d_M_addressOf_132 : decode c_M_addressOf 132 = .ok (.iload_n 3, 1) := by decide +kernel
theorem d_M_addressOf_133 : decode c_M_addressOf 133 = .ok (.iconst 2, 1) := by decide +kernel
theorem d_M_addressOf_134 : decode c_M_addressOf 134 = .ok (.isub, 1) := by decide +kernel
theorem d_M_addressOf_135 : decode c_M_addressOf 135 = .ok (.iaload, 1) := by decide +kernel
theorem d_M_addressOf_136 : decode c_M_addressOf 136 = .ok (.istore 5, 2) := by decide +kernel
theorem d_M_addressOf_138 : decode c_M_addressOf 138 = .ok (.aload_n 0, 1) := by decide +kernel
theorem d_M_addressOf_139 : decode c_M_addressOf 139 = .ok (.getfield 54, 3) := by decide +kernel
theorem d_M_addressOf_142 : decode c_M_addressOf 142 = .ok (.iload_n 3, 1) := by decide +kernel
theorem d_M_addressOf_143 : decode c_M_addressOf 143 = .ok (.aload_n 0, 1) := by decide +kernel
theorem d_M_addressOf_144 : decode c_M_addressOf 144 = .ok (.getfield 54, 3) := by decide +kernel
theorem d_M_addressOf_147 : decode c_M_addressOf 147 = .ok (.iload_n 3, 1) := by decide +kernel
theorem d_M_addressOf_148 : decode c_M_addressOf 148 = .ok (.bipush 16, 2) := by decide +kernel
theorem d_M_addressOf_150 : decode c_M_addressOf 150 = .ok (.isub, 1) := by decide +kernel
theorem d_M_addressOf_151 : decode c_M_addressOf 151 = .ok (.iaload, 1) := by decide +kernel
theorem d_M_addressOf_152 : decode c_M_addressOf 152 = .ok (.iload 4, 2) := by decide +kernel
theorem d_M_addressOf_154 : decode c_M_addressOf 154 = .ok (.bipush 7, 2) := by decide +kernel
theorem d_M_addressOf_156 : decode c_M_addressOf 156 = .ok (.invokestatic 84, 3) := by decide +kernel
theorem d_M_addressOf_159 : decode c_M_addressOf 159 = .ok (.iload 4, 2) := by decide +kernel
theorem d_M_addressOf_161 : decode c_M_addressOf 161 = .ok (.bipush 18, 2) := by decide +kernel
theorem d_M_addressOf_163 : decode c_M_addressOf 163 = .ok (.invokestatic 84, 3) := by decide +kernel
theorem d_M_addressOf_166 : decode c_M_addressOf 166 = .ok (.ixor, 1) := by decide +kernel
theorem d_M_addressOf_167 : decode c_M_addressOf 167 = .ok (.iload 4, 2) := by decide +kernel
theorem d_M_addressOf_169 : decode c_M_addressOf 169 = .ok (.iconst 3, 1) := by decide +kernel
theorem d_M_addressOf_170 : decode c_M_addressOf 170 = .ok (.iushr, 1) := by decide +kernel
theorem d_M_addressOf_171 : decode c_M_addressOf 171 = .ok (.ixor, 1) := by decide +kernel
theorem d_M_addressOf_172 : decode c_M_addressOf 172 = .ok (.iadd, 1) := by decide +kernel
theorem d_M_addressOf_173 : decode c_M_addressOf 173 = .ok (.aload_n 0, 1) := by decide +kernel
theorem d_M_addressOf_174 : decode c_M_addressOf 174 = .ok (.getfield 54, 3) := by decide +kernel
theorem d_M_addressOf_177 : decode c_M_addressOf 177 = .ok (.iload_n 3, 1) := by decide +kernel
theorem d_M_addressOf_178 : decode c_M_addressOf 178 = .ok (.bipush 7, 2) := by decide +kernel
theorem d_M_addressOf_180 : decode c_M_addressOf 180 = .ok (.isub, 1) := by decide +kernel
theorem d_M_addressOf_181 : decode c_M_addressOf 181 = .ok (.iaload, 1) := by decide +kernel
theorem d_M_addressOf_182 : decode c_M_addressOf 182 = .ok (.iadd, 1) := by decide +kernel
theorem d_M_addressOf_183 : decode c_M_addressOf 183 = .ok (.iload 5, 2) := by decide +kernel
theorem d_M_addressOf_185 : decode c_M_addressOf 185 = .ok (.bipush 17, 2) := by decide +kernel
theorem d_M_addressOf_187 : decode c_M_addressOf 187 = .ok (.invokestatic 84, 3) := by decide +kernel
theorem d_M_addressOf_190 : decode c_M_addressOf 190 = .ok (.iload 5, 2) := by decide +kernel
theorem d_M_addressOf_192 : decode c_M_addressOf 192 = .ok (.bipush 19, 2) := by decide +kernel
theorem d_M_addressOf_194 : decode c_M_addressOf 194 = .ok (.invokestatic 84, 3) := by decide +kernel
theorem d_M_addressOf_197 : decode c_M_addressOf 197 = .ok (.ixor, 1) := by decide +kernel
theorem d_M_addressOf_198 : decode c_M_addressOf 198 = .ok (.iload 5, 2) := by decide +kernel
theorem d_M_addressOf_200 : decode c_M_addressOf 200 = .ok (.bipush 10, 2) := by decide +kernel
theorem d_M_addressOf_202 : decode c_M_addressOf 202 = .ok (.iushr, 1) := by decide +kernel
theorem d_M_addressOf_203 : decode c_M_addressOf 203 = .ok (.ixor, 1) := by decide +kernel
theorem d_M_addressOf_204 : decode c_M_addressOf 204 = .ok (.iadd, 1) := by decide +kernel
theorem d_M_addressOf_205 : decode c_M_addressOf 205 = .ok (.iastore, 1) := by decide +kernel
theorem d_M_addressOf_206 : decode c_M_addressOf 206 = .ok (.iinc 3 1, 3) := by decide +kernel
theorem d_M_addressOf_209 : decode c_M_addressOf 209 = .ok (.goto (-98), 3) := by decide +kernel
theorem d_M_addressOf_212 : decode c_M_addressOf 212 = .ok (.iconst 0, 1) := by decide +kernel
theorem d_M_addressOf_213 : decode c_M_addressOf 213 = .ok (.istore_n 3, 1) := by decide +kernel
theorem d_M_addressOf_214 : decode c_M_addressOf 214 = .ok (.iload_n 3, 1) := by decide +kernel
theorem d_M_addressOf_215 : decode c_M_addressOf 215 = .ok (.bipush 8, 2) := by decide +kernel
theorem d_M_addressOf_217 : decode c_M_addressOf 217 = .ok (.if_icmp .ge 24, 3) := by decide +kernel
theorem d_M_addressOf_220 : decode c_M_addressOf 220 = .ok (.aload_n 0, 1) := by decide +kernel
theorem d_M_addressOf_221 : decode c_M_addressOf 221 = .ok (.getfield 57, 3) := by decide +kernel
theorem d_M_addressOf_224 : decode c_M_addressOf 224 = .ok (.iload_n 3, 1) := by decide +kernel
theorem d_M_addressOf_225 : decode c_M_addressOf 225 = .ok (.aload_n 0, 1) := by decide +kernel
theorem d_M_addressOf_226 : decode c_M_addressOf 226 = .ok (.getfield 51, 3) := by decide +kernel
theorem d_M_addressOf_229 : decode c_M_addressOf 229 = .ok (.bipush 64, 2) := by decide +kernel
theorem d_M_addressOf_231 : decode c_M_addressOf 231 = .ok (.iload_n 3, 1) := by decide +kernel
theorem d_M_addressOf_232 : decode c_M_addressOf 232 = .ok (.iadd, 1) := by decide +kernel
theorem d_M_addressOf_233 : decode c_M_addressOf 233 = .ok (.iaload, 1) := by decide +kernel
theorem d_M_addressOf_234 : decode c_M_addressOf 234 = .ok (.iastore, 1) := by decide +kernel
theorem d_M_addressOf_235 : decode c_M_addressOf 235 = .ok (.iinc 3 1, 3) := by decide +kernel
theorem d_M_addressOf_238 : decode c_M_addressOf 238 = .ok (.goto (-24), 3) := by decide +kernel
theorem d_M_addressOf_241 : decode c_M_addressOf 241 = .ok (.iconst 0, 1) := by decide +kernel
theorem d_M_addressOf_242 : decode c_M_addressOf 242 = .ok (.istore_n 3, 1) := by decide +kernel
theorem d_M_addressOf_243 : decode c_M_addressOf 243 = .ok (.iload_n 3, 1) := by decide +kernel
theorem d_M_addressOf_244 : decode c_M_addressOf 244 = .ok (.bipush 64, 2) := by decide +kernel
theorem d_M_addressOf_246 : decode c_M_addressOf 246 = .ok (.if_icmp .ge 206, 3) := by decide +kernel
theorem d_M_addressOf_249 : decode c_M_addressOf 249 = .ok (.aload_n 0, 1) := by decide +kernel
theorem d_M_addressOf_250 : decode c_M_addressOf 250 = .ok (.getfield 57, 3) := by decide +kernel
theorem d_M_addressOf_253 : decode c_M_addressOf 253 = .ok (.iconst 4, 1) := by decide +kernel
theorem d_M_addressOf_254 : decode c_M_addressOf 254 = .ok (.iaload, 1) := by decide +kernel
theorem d_M_addressOf_255 : decode c_M_addressOf 255 = .ok (.istore 4, 2) := by decide +kernel
theorem d_M_addressOf_257 : decode c_M_addressOf 257 = .ok (.aload_n 0, 1) := by decide +kernel
theorem d_M_addressOf_258 : decode c_M_addressOf 258 = .ok (.getfield 57, 3) := by decide +kernel
theorem d_M_addressOf_261 : decode c_M_addressOf 261 = .ok (.iconst 0, 1) := by decide +kernel
theorem d_M_addressOf_262 : decode c_M_addressOf 262 = .ok (.iaload, 1) := by decide +kernel
theorem d_M_addressOf_263 : decode c_M_addressOf 263 = .ok (.istore 5, 2) := by decide +kernel
theorem d_M_addressOf_265 : decode c_M_addressOf 265 = .ok (.aload_n 0, 1) := by decide +kernel
theorem d_M_addressOf_266 : decode c_M_addressOf 266 = .ok (.getfield 57, 3) := by decide +kernel
theorem d_M_addressOf_269 : decode c_M_addressOf 269 = .ok (.bipush 7, 2) := by decide +kernel
theorem d_M_addressOf_271 : decode c_M_addressOf 271 = .ok (.iaload, 1) := by decide +kernel
theorem d_M_addressOf_272 : decode c_M_addressOf 272 = .ok (.iload 4, 2) := by decide +kernel
theorem d_M_addressOf_274 : decode c_M_addressOf 274 = .ok (.bipush 6, 2) := by decide +kernel
theorem d_M_addressOf_276 : decode c_M_addressOf 276 = .ok (.invokestatic 84, 3) := by decide +kernel
theorem d_M_addressOf_279 : decode c_M_addressOf 279 = .ok (.iload 4, 2) := by decide +kernel
theorem d_M_addressOf_281 : decode c_M_addressOf 281 = .ok (.bipush 11, 2) := by decide +kernel
theorem d_M_addressOf_283 : decode c_M_addressOf 283 = .ok (.invokestatic 84, 3) := by decide +kernel
theorem d_M_addressOf_286 : decode c_M_addressOf 286 = .ok (.ixor, 1) := by decide +kernel
theorem d_M_addressOf_287 : decode c_M_addressOf 287 = .ok (.iload 4, 2) := by decide +kernel
theorem d_M_addressOf_289 : decode c_M_addressOf 289 = .ok (.bipush 25, 2) := by decide +kernel
theorem d_M_addressOf_291 : decode c_M_addressOf 291 = .ok (.invokestatic 84, 3) := by decide +kernel
theorem d_M_addressOf_294 : decode c_M_addressOf 294 = .ok (.ixor, 1) := by decide +kernel
theorem d_M_addressOf_295 : decode c_M_addressOf 295 = .ok (.iadd, 1) := by decide +kernel
theorem d_M_addressOf_296 : decode c_M_addressOf 296 = .ok (.iload 4, 2) := by decide +kernel
theorem d_M_addressOf_298 : decode c_M_addressOf 298 = .ok (.aload_n 0, 1) := by decide +kernel
theorem d_M_addressOf_299 : decode c_M_addressOf 299 = .ok (.getfield 57, 3) := by decide +kernel
theorem d_M_addressOf_302 : decode c_M_addressOf 302 = .ok (.iconst 5, 1) := by decide +kernel
theorem d_M_addressOf_303 : decode c_M_addressOf 303 = .ok (.iaload, 1) := by decide +kernel
theorem d_M_addressOf_304 : decode c_M_addressOf 304 = .ok (.iand, 1) := by decide +kernel
theorem d_M_addressOf_305 : decode c_M_addressOf 305 = .ok (.iload 4, 2) := by decide +kernel
theorem d_M_addressOf_307 : decode c_M_addressOf 307 = .ok (.iconst (-1), 1) := by decide +kernel
theorem d_M_addressOf_308 : decode c_M_addressOf 308 = .ok (.ixor, 1) := by decide +kernel
theorem d_M_addressOf_309 : decode c_M_addressOf 309 = .ok (.aload_n 0, 1) := by decide +kernel
theorem d_M_addressOf_310 : decode c_M_addressOf 310 = .ok (.getfield 57, 3) := by decide +kernel
theorem d_M_addressOf_313 : decode c_M_addressOf 313 = .ok (.bipush 6, 2) := by decide +kernel
theorem d_M_addressOf_315 : decode c_M_addressOf 315 = .ok (.iaload, 1) := by decide +kernel
theorem d_M_addressOf_316 : decode c_M_addressOf 316 = .ok (.iand, 1) := by decide +kernel
theorem d_M_addressOf_317 : decode c_M_addressOf 317 = .ok (.ixor, 1) := by decide +kernel
theorem d_M_addressOf_318 : decode c_M_addressOf 318 = .ok (.iadd, 1) := by decide +kernel
theorem d_M_addressOf_319 : decode c_M_addressOf 319 = .ok (.aload_n 0, 1) := by decide +kernel
theorem d_M_addressOf_320 : decode c_M_addressOf 320 = .ok (.getfield 51, 3) := by decide +kernel
theorem d_M_addressOf_323 : decode c_M_addressOf 323 = .ok (.iload_n 3, 1) := by decide +kernel
theorem d_M_addressOf_324 : decode c_M_addressOf 324 = .ok (.iaload, 1) := by decide +kernel
theorem d_M_addressOf_325 : decode c_M_addressOf 325 = .ok (.iadd, 1) := by decide +kernel
theorem d_M_addressOf_326 : decode c_M_addressOf 326 = .ok (.aload_n 0, 1) := by decide +kernel
theorem d_M_addressOf_327 : decode c_M_addressOf 327 = .ok (.getfield 54, 3) := by decide +kernel
theorem d_M_addressOf_330 : decode c_M_addressOf 330 = .ok (.iload_n 3, 1) := by decide +kernel
theorem d_M_addressOf_331 : decode c_M_addressOf 331 = .ok (.iaload, 1) := by decide +kernel
theorem d_M_addressOf_332 : decode c_M_addressOf 332 = .ok (.iadd, 1) := by decide +kernel
theorem d_M_addressOf_333 : decode c_M_addressOf 333 = .ok (.istore 6, 2) := by decide +kernel
theorem d_M_addressOf_335 : decode c_M_addressOf 335 = .ok (.iload 5, 2) := by decide +kernel
theorem d_M_addressOf_337 : decode c_M_addressOf 337 = .ok (.iconst 2, 1) := by decide +kernel
theorem d_M_addressOf_338 : decode c_M_addressOf 338 = .ok (.invokestatic 84, 3) := by decide +kernel
theorem d_M_addressOf_341 : decode c_M_addressOf 341 = .ok (.iload 5, 2) := by decide +kernel
theorem d_M_addressOf_343 : decode c_M_addressOf 343 = .ok (.bipush 13, 2) := by decide +kernel
theorem d_M_addressOf_345 : decode c_M_addressOf 345 = .ok (.invokestatic 84, 3) := by decide +kernel
theorem d_M_addressOf_348 : decode c_M_addressOf 348 = .ok (.ixor, 1) := by decide +kernel
theorem d_M_addressOf_349 : decode c_M_addressOf 349 = .ok (.iload 5, 2) := by decide +kernel
theorem d_M_addressOf_351 : decode c_M_addressOf 351 = .ok (.bipush 22, 2) := by decide +kernel
theorem d_M_addressOf_353 : decode c_M_addressOf 353 = .ok (.invokestatic 84, 3) := by decide +kernel
theorem d_M_addressOf_356 : decode c_M_addressOf 356 = .ok (.ixor, 1) := by decide +kernel
theorem d_M_addressOf_357 : decode c_M_addressOf 357 = .ok (.iload 5, 2) := by decide +kernel
theorem d_M_addressOf_359 : decode c_M_addressOf 359 = .ok (.aload_n 0, 1) := by decide +kernel
theorem d_M_addressOf_360 : decode c_M_addressOf 360 = .ok (.getfield 57, 3) := by decide +kernel
theorem d_M_addressOf_363 : decode c_M_addressOf 363 = .ok (.iconst 1, 1) := by decide +kernel
theorem d_M_addressOf_364 : decode c_M_addressOf 364 = .ok (.iaload, 1) := by decide +kernel
theorem d_M_addressOf_365 : decode c_M_addressOf 365 = .ok (.iand, 1) := by decide +kernel
theorem d_M_addressOf_366 : decode c_M_addressOf 366 = .ok (.iload 5, 2) := by decide +kernel
theorem d_M_addressOf_368 : decode c_M_addressOf 368 = .ok (.aload_n 0, 1) := by decide +kernel
theorem d_M_addressOf_369 : decode c_M_addressOf 369 = .ok (.getfield 57, 3) := by decide +kernel
theorem d_M_addressOf_372 : decode c_M_addressOf 372 = .ok (.iconst 2, 1) := by decide +kernel
theorem d_M_addressOf_373 : decode c_M_addressOf 373 = .ok (.iaload, 1) := by decide +kernel
theorem d_M_addressOf_374 : decode c_M_addressOf 374 = .ok (.iand, 1) := by decide +kernel
theorem d_M_addressOf_375 : decode c_M_addressOf 375 = .ok (.ixor, 1) := by decide +kernel
theorem d_M_addressOf_376 : decode c_M_addressOf 376 = .ok (.aload_n 0, 1) := by decide +kernel
theorem d_M_addressOf_377 : decode c_M_addressOf 377 = .ok (.getfield 57, 3) := by decide +kernel
theorem d_M_addressOf_380 : decode c_M_addressOf 380 = .ok (.iconst 1, 1) := by decide +kernel
theorem d_M_addressOf_381 : decode c_M_addressOf 381 = .ok (.iaload, 1) := by decide +kernel
theorem d_M_addressOf_382 : decode c_M_addressOf 382 = .ok (.aload_n 0, 1) := by decide +kernel
theorem d_M_addressOf_383 : decode c_M_addressOf 383 = .ok (.getfield 57, 3) := by decide +kernel
theorem d_M_addressOf_386 : decode c_M_addressOf 386 = .ok (.iconst 2, 1) := by decide +kernel
theorem d_M_addressOf_387 : decode c_M_addressOf 387 = .ok (.iaload, 1) := by decide +kernel
theorem d_M_addressOf_388 : decode c_M_addressOf 388 = .ok (.iand, 1) := by decide +kernel
theorem d_M_addressOf_389 : decode c_M_addressOf 389 = .ok (.ixor, 1) := by decide +kernel
theorem d_M_addressOf_390 : decode c_M_addressOf 390 = .ok (.iadd, 1) := by decide +kernel
theorem d_M_addressOf_391 : decode c_M_addressOf 391 = .ok (.istore 7, 2) := by decide +kernel
theorem d_M_addressOf_393 : decode c_M_addressOf 393 = .ok (.bipush 7, 2) := by decide +kernel
theorem d_M_addressOf_395 : decode c_M_addressOf 395 = .ok (.istore 8, 2) := by decide +kernel
theorem d_M_addressOf_397 : decode c_M_addressOf 397 = .ok (.iload 8, 2) := by decide +kernel
theorem d_M_addressOf_399 : decode c_M_addressOf 399 = .ok (.ifCond .le 25, 3) := by decide +kernel
theorem d_M_addressOf_402 : decode c_M_addressOf 402 = .ok (.aload_n 0, 1) := by decide +kernel
theorem d_M_addressOf_403 : decode c_M_addressOf 403 = .ok (.getfield 57, 3) := by decide +kernel
theorem d_M_addressOf_406 : decode c_M_addressOf 406 = .ok (.iload 8, 2) := by decide +kernel
theorem d_M_addressOf_408 : decode c_M_addressOf 408 = .ok (.aload_n 0, 1) := by decide +kernel
theorem d_M_addressOf_409 : decode c_M_addressOf 409 = .ok (.getfield 57, 3) := by decide +kernel
theorem d_M_addressOf_412 : decode c_M_addressOf 412 = .ok (.iload 8, 2) := by decide +kernel
theorem d_M_addressOf_414 : decode c_M_addressOf 414 = .ok (.iconst 1, 1) := by decide +kernel
theorem d_M_addressOf_415 : decode c_M_addressOf 415 = .ok (.isub, 1) := by decide +kernel
theorem d_M_addressOf_416 : decode c_M_addressOf 416 = .ok (.iaload, 1) := by decide +kernel
theorem d_M_addressOf_417 : decode c_M_addressOf 417 = .ok (.iastore, 1) := by decide +kernel
theorem d_M_addressOf_418 : decode c_M_addressOf 418 = .ok (.iinc 8 (-1), 3) := by decide +kernel
theorem d_M_addressOf_421 : decode c_M_addressOf 421 = .ok (.goto (-24), 3) := by decide +kernel
theorem d_M_addressOf_424 : decode c_M_addressOf 424 = .ok (.aload_n 0, 1) := by decide +kernel
theorem d_M_addressOf_425 : decode c_M_addressOf 425 = .ok (.getfield 57, 3) := by decide +kernel
theorem d_M_addressOf_428 : decode c_M_addressOf 428 = .ok (.iconst 4, 1) := by decide +kernel
theorem d_M_addressOf_429 : decode c_M_addressOf 429 = .ok (.dup2, 1) := by decide +kernel
theorem d_M_addressOf_430 : decode c_M_addressOf 430 = .ok (.iaload, 1) := by decide +kernel
theorem d_M_addressOf_431 : decode c_M_addressOf 431 = .ok (.iload 6, 2) := by decide +kernel
theorem d_M_addressOf_433 : decode c_M_addressOf 433 = .ok (.iadd, 1) := by decide +kernel
theorem d_M_addressOf_434 : decode c_M_addressOf 434 = .ok (.iastore, 1) := by decide +kernel
theorem d_M_addressOf_435 : decode c_M_addressOf 435 = .ok (.aload_n 0, 1) := by decide +kernel
theorem d_M_addressOf_436 : decode c_M_addressOf 436 = .ok (.getfield 57, 3) := by decide +kernel
theorem d_M_addressOf_439 : decode c_M_addressOf 439 = .ok (.iconst 0, 1) := by decide +kernel
theorem d_M_addressOf_440 : decode c_M_addressOf 440 = .ok (.iload 6, 2) := by decide +kernel
theorem d_M_addressOf_442 : decode c_M_addressOf 442 = .ok (.iload 7, 2) := by decide +kernel
theorem d_M_addressOf_444 : decode c_M_addressOf 444 = .ok (.iadd, 1) := by decide +kernel
theorem d_M_addressOf_445 : decode c_M_addressOf 445 = .ok (.iastore, 1) := by decide +kernel
theorem d_M_addressOf_446 : decode c_M_addressOf 446 = .ok (.iinc 3 1, 3) := by decide +kernel
theorem d_M_addressOf_449 : decode c_M_addressOf 449 = .ok (.goto (-206), 3) := by decide +kernel
theorem d_M_addressOf_452 : decode c_M_addressOf 452 = .ok (.iconst 0, 1) := by decide +kernel
theorem d_M_addressOf_453 : decode c_M_addressOf 453 = .ok (.istore_n 3, 1) := by decide +kernel
theorem d_M_addressOf_454 : decode c_M_addressOf 454 = .ok (.iload_n 3, 1) := by decide +kernel
theorem d_M_addressOf_455 : decode c_M_addressOf 455 = .ok (.bipush 8, 2) := by decide +kernel
theorem d_M_addressOf_457 : decode c_M_addressOf 457 = .ok (.if_icmp .ge 27, 3) := by decide +kernel
theorem d_M_addressOf_460 : decode c_M_addressOf 460 = .ok (.aload_n 0, 1) := by decide +kernel
theorem d_M_addressOf_461 : decode c_M_addressOf 461 = .ok (.getfield 57, 3) := by decide +kernel
theorem d_M_addressOf_464 : decode c_M_addressOf 464 = .ok (.iload_n 3, 1) := by decide +kernel
theorem d_M_addressOf_465 : decode c_M_addressOf 465 = .ok (.dup2, 1) := by decide +kernel
theorem d_M_addressOf_466 : decode c_M_addressOf 466 = .ok (.iaload, 1) := by decide +kernel
theorem d_M_addressOf_467 : decode c_M_addressOf 467 = .ok (.aload_n 0, 1) := by decide +kernel
theorem d_M_addressOf_468 : decode c_M_addressOf 468 = .ok (.getfield 51, 3) := by decide +kernel
theorem d_M_addressOf_471 : decode c_M_addressOf 471 = .ok (.bipush 64, 2) := by decide +kernel
theorem d_M_addressOf_473 : decode c_M_addressOf 473 = .ok (.iload_n 3, 1) := by decide +kernel
theorem d_M_addressOf_474 : decode c_M_addressOf 474 = .ok (.iadd, 1) := by decide +kernel
theorem d_M_addressOf_475 : decode c_M_addressOf 475 = .ok (.iaload, 1) := by decide +kernel
theorem d_M_addressOf_476 : decode c_M_addressOf 476 = .ok (.iadd, 1) := by decide +kernel
theorem d_M_addressOf_477 : decode c_M_addressOf 477 = .ok (.iastore, 1) := by decide +kernel
theorem d_M_addressOf_478 : decode c_M_addressOf 478 = .ok (.iinc 3 1, 3) := by decide +kernel
theorem d_M_addressOf_481 : decode c_M_addressOf 481 = .ok (.goto (-27), 3) := by decide +kernel
theorem d_M_addressOf_484 : decode c_M_addressOf 484 = .ok (.return_, 1) := by decide +kernel
abbrev c_M_writes : ByteArray := prog_9_method_10_code
abbrev y_M_writes : MethodName := ⟨"BlobStoreModel", "writes", "(I)Z"⟩
theorem i_M_writes : bIs y_M_writes 2 := Or.inl ⟨_, _, t3_194⟩
theorem d_M_writes_0 : decode c_M_writes 0 = .ok (.aload_n 0, 1) := by decide +kernel
theorem d_M_writes_1 : decode c_M_writes 1 = .ok (.getfield 47, 3) := by decide +kernel
theorem d_M_writes_4 : decode c_M_writes 4 = .ok (.ifCond .ne 20, 3) := by decide +kernel
theorem d_M_writes_7 : decode c_M_writes 7 = .ok (.aload_n 0, 1) := by decide +kernel
theorem d_M_writes_8 : decode c_M_writes 8 = .ok (.iconst (-1), 1) := by decide +kernel
theorem d_M_writes_9 : decode c_M_writes 9 = .ok (.putfield 47, 3) := by decide +kernel
theorem d_M_writes_12 : decode c_M_writes 12 = .ok (.aload_n 0, 1) := by decide +kernel
theorem d_M_writes_13 : decode c_M_writes 13 = .ok (.iconst 1, 1) := by decide +kernel
theorem d_M_writes_14 : decode c_M_writes 14 = .ok (.putfield 87, 3) := by decide +kernel
theorem d_M_writes_17 : decode c_M_writes 17 = .ok (.aload_n 0, 1) := by decide +kernel
theorem d_M_writes_18 : decode c_M_writes 18 = .ok (.iload_n 1, 1) := by decide +kernel
theorem d_M_writes_19 : decode c_M_writes 19 = .ok (.putfield 75, 3) := by decide +kernel
theorem d_M_writes_22 : decode c_M_writes 22 = .ok (.iconst 0, 1) := by decide +kernel
theorem d_M_writes_23 : decode c_M_writes 23 = .ok (.ireturn, 1) := by decide +kernel
theorem d_M_writes_24 : decode c_M_writes 24 = .ok (.aload_n 0, 1) := by decide +kernel
theorem d_M_writes_25 : decode c_M_writes 25 = .ok (.dup, 1) := by decide +kernel
theorem d_M_writes_26 : decode c_M_writes 26 = .ok (.getfield 47, 3) := by decide +kernel
theorem d_M_writes_29 : decode c_M_writes 29 = .ok (.aload_n 0, 1) := by decide +kernel
theorem d_M_writes_30 : decode c_M_writes 30 = .ok (.getfield 47, 3) := by decide +kernel
theorem d_M_writes_33 : decode c_M_writes 33 = .ok (.ifCond .le 7, 3) := by decide +kernel
theorem d_M_writes_36 : decode c_M_writes 36 = .ok (.iconst 1, 1) := by decide +kernel
theorem d_M_writes_37 : decode c_M_writes 37 = .ok (.goto 4, 3) := by decide +kernel
theorem d_M_writes_40 : decode c_M_writes 40 = .ok (.iconst 0, 1) := by decide +kernel
theorem d_M_writes_41 : decode c_M_writes 41 = .ok (.isub, 1) := by decide +kernel
theorem d_M_writes_42 : decode c_M_writes 42 = .ok (.putfield 47, 3) := by decide +kernel
theorem d_M_writes_45 : decode c_M_writes 45 = .ok (.aload_n 0, 1) := by decide +kernel
theorem d_M_writes_46 : decode c_M_writes 46 = .ok (.dup, 1) := by decide +kernel
theorem d_M_writes_47 : decode c_M_writes 47 = .ok (.getfield 91, 3) := by decide +kernel
theorem d_M_writes_50 : decode c_M_writes 50 = .ok (.iconst 1, 1) := by decide +kernel
theorem d_M_writes_51 : decode c_M_writes 51 = .ok (.iadd, 1) := by decide +kernel
theorem d_M_writes_52 : decode c_M_writes 52 = .ok (.putfield 91, 3) := by decide +kernel
theorem d_M_writes_55 : decode c_M_writes 55 = .ok (.iconst 1, 1) := by decide +kernel
theorem d_M_writes_56 : decode c_M_writes 56 = .ok (.ireturn, 1) := by decide +kernel
abbrev c_M_isThere : ByteArray := prog_9_method_11_code
abbrev y_M_isThere : MethodName := ⟨"BlobStoreModel", "isThere", "(III)Z"⟩
theorem i_M_isThere : bIs y_M_isThere 5 := Or.inl ⟨_, _, t3_222⟩
theorem d_M_isThere_0 : decode c_M_isThere 0 = .ok (.aload_n 0, 1) := by decide +kernel
theorem d_M_isThere_1 : decode c_M_isThere 1 = .ok (.getfield 7, 3) := by decide +kernel
theorem d_M_isThere_4 : decode c_M_isThere 4 = .ok (.iload_n 1, 1) := by decide +kernel
theorem d_M_isThere_5 : decode c_M_isThere 5 = .ok (.iaload, 1) := by decide +kernel
theorem d_M_isThere_6 : decode c_M_isThere 6 = .ok (.iload_n 3, 1) := by decide +kernel
theorem d_M_isThere_7 : decode c_M_isThere 7 = .ok (.if_icmp .eq 5, 3) := by decide +kernel
theorem d_M_isThere_10 : decode c_M_isThere 10 = .ok (.iconst 0, 1) := by decide +kernel
theorem d_M_isThere_11 : decode c_M_isThere 11 = .ok (.ireturn, 1) := by decide +kernel
theorem d_M_isThere_12 : decode c_M_isThere 12 = .ok (.iconst 0, 1) := by decide +kernel
theorem d_M_isThere_13 : decode c_M_isThere 13 = .ok (.istore 4, 2) := by decide +kernel
theorem d_M_isThere_15 : decode c_M_isThere 15 = .ok (.iload 4, 2) := by decide +kernel
theorem d_M_isThere_17 : decode c_M_isThere 17 = .ok (.iload_n 3, 1) := by decide +kernel
theorem d_M_isThere_18 : decode c_M_isThere 18 = .ok (.if_icmp .ge 35, 3) := by decide +kernel
theorem d_M_isThere_21 : decode c_M_isThere 21 = .ok (.aload_n 0, 1) := by decide +kernel
theorem d_M_isThere_22 : decode c_M_isThere 22 = .ok (.getfield 13, 3) := by decide +kernel
theorem d_M_isThere_25 : decode c_M_isThere 25 = .ok (.bipush 8, 2) := by decide +kernel
theorem d_M_isThere_27 : decode c_M_isThere 27 = .ok (.iload_n 1, 1) := by decide +kernel
theorem d_M_isThere_28 : decode c_M_isThere 28 = .ok (.imul, 1) := by decide +kernel
theorem d_M_isThere_29 : decode c_M_isThere 29 = .ok (.iload 4, 2) := by decide +kernel
theorem d_M_isThere_31 : decode c_M_isThere 31 = .ok (.iadd, 1) := by decide +kernel
theorem d_M_isThere_32 : decode c_M_isThere 32 = .ok (.iaload, 1) := by decide +kernel
theorem d_M_isThere_33 : decode c_M_isThere 33 = .ok (.aload_n 0, 1) := by decide +kernel
theorem d_M_isThere_34 : decode c_M_isThere 34 = .ok (.getfield 60, 3) := by decide +kernel
theorem d_M_isThere_37 : decode c_M_isThere 37 = .ok (.iload_n 2, 1) := by decide +kernel
theorem d_M_isThere_38 : decode c_M_isThere 38 = .ok (.iload 4, 2) := by decide +kernel
theorem d_M_isThere_40 : decode c_M_isThere 40 = .ok (.iadd, 1) := by decide +kernel
theorem d_M_isThere_41 : decode c_M_isThere 41 = .ok (.iaload, 1) := by decide +kernel
theorem d_M_isThere_42 : decode c_M_isThere 42 = .ok (.if_icmp .eq 5, 3) := by decide +kernel
theorem d_M_isThere_45 : decode c_M_isThere 45 = .ok (.iconst 0, 1) := by decide +kernel
theorem d_M_isThere_46 : decode c_M_isThere 46 = .ok (.ireturn, 1) := by decide +kernel
theorem d_M_isThere_47 : decode c_M_isThere 47 = .ok (.iinc 4 1, 3) := by decide +kernel
theorem d_M_isThere_50 : decode c_M_isThere 50 = .ok (.goto (-35), 3) := by decide +kernel
theorem d_M_isThere_53 : decode c_M_isThere 53 = .ok (.iconst 1, 1) := by decide +kernel
theorem d_M_isThere_54 : decode c_M_isThere 54 = .ok (.ireturn, 1) := by decide +kernel
abbrev c_M_find : ByteArray := prog_9_method_12_code
abbrev y_M_find : MethodName := ⟨"BlobStoreModel", "find", "(II)I"⟩
theorem i_M_find : bIs y_M_find 4 := Or.inl ⟨_, _, t3_218⟩
theorem d_M_find_0 : decode c_M_find 0 = .ok (.iconst 0, 1) := by decide +kernel
theorem d_M_find_1 : decode c_M_find 1 = .ok (.istore_n 3, 1) := by decide +kernel
theorem d_M_find_2 : decode c_M_find 2 = .ok (.iload_n 3, 1) := by decide +kernel
theorem d_M_find_3 : decode c_M_find 3 = .ok (.bipush 48, 2) := by decide +kernel
theorem d_M_find_5 : decode c_M_find 5 = .ok (.if_icmp .ge 21, 3) := by decide +kernel
theorem d_M_find_8 : decode c_M_find 8 = .ok (.aload_n 0, 1) := by decide +kernel
theorem d_M_find_9 : decode c_M_find 9 = .ok (.iload_n 3, 1) := by decide +kernel
theorem d_M_find_10 : decode c_M_find 10 = .ok (.iload_n 1, 1) := by decide +kernel
theorem d_M_find_11 : decode c_M_find 11 = .ok (.iload_n 2, 1) := by decide +kernel
theorem d_M_find_12 : decode c_M_find 12 = .ok (.invokevirtual 94, 3) := by decide +kernel
theorem d_M_find_15 : decode c_M_find 15 = .ok (.ifCond .eq 5, 3) := by decide +kernel
theorem d_M_find_18 : decode c_M_find 18 = .ok (.iload_n 3, 1) := by decide +kernel
theorem d_M_find_19 : decode c_M_find 19 = .ok (.ireturn, 1) := by decide +kernel
theorem d_M_find_20 : decode c_M_find 20 = .ok (.iinc 3 1, 3) := by decide +kernel
theorem d_M_find_23 : decode c_M_find 23 = .ok (.goto (-21), 3) := by decide +kernel
theorem d_M_find_26 : decode c_M_find 26 = .ok (.iconst (-1), 1) := by decide +kernel
theorem d_M_find_27 : decode c_M_find 27 = .ok (.ireturn, 1) := by decide +kernel
abbrev c_M_chunkSize : ByteArray := prog_9_method_13_code
abbrev y_M_chunkSize : MethodName := ⟨"BlobStoreModel", "chunkSize", "(II)I"⟩
theorem i_M_chunkSize : bIs y_M_chunkSize 2 := Or.inl ⟨_, _, t3_214⟩
theorem d_M_chunkSize_0 : decode c_M_chunkSize 0 = .ok (.iload_n 0, 1) := by decide +kernel
theorem d_M_chunkSize_1 : decode c_M_chunkSize 1 = .ok (.iload_n 1, 1) := by decide +kernel
theorem d_M_chunkSize_2 : decode c_M_chunkSize 2 = .ok (.isub, 1) := by decide +kernel
theorem d_M_chunkSize_3 : decode c_M_chunkSize 3 = .ok (.bipush 8, 2) := by decide +kernel
theorem d_M_chunkSize_5 : decode c_M_chunkSize 5 = .ok (.if_icmp .ge 9, 3) := by decide +kernel
theorem d_M_chunkSize_8 : decode c_M_chunkSize 8 = .ok (.iload_n 0, 1) := by decide +kernel
theorem d_M_chunkSize_9 : decode c_M_chunkSize 9 = .ok (.iload_n 1, 1) := by decide +kernel
theorem d_M_chunkSize_10 : decode c_M_chunkSize 10 = .ok (.isub, 1) := by decide +kernel
theorem d_M_chunkSize_11 : decode c_M_chunkSize 11 = .ok (.goto 5, 3) := by decide +kernel
theorem d_M_chunkSize_14 : decode c_M_chunkSize 14 = .ok (.bipush 8, 2) := by decide +kernel
theorem d_M_chunkSize_16 : decode c_M_chunkSize 16 = .ok (.ireturn, 1) := by decide +kernel
abbrev c_M_isAlike : ByteArray := prog_9_method_14_code
abbrev y_M_isAlike : MethodName := ⟨"BlobStoreModel", "isAlike", "(III)Z"⟩
theorem i_M_isAlike : bIs y_M_isAlike 5 := Or.inl ⟨_, _, t3_226⟩
theorem d_M_isAlike_0 : decode c_M_isAlike 0 = .ok (.iconst 0, 1) := by decide +kernel
theorem d_M_isAlike_1 : decode c_M_isAlike 1 = .ok (.istore 4, 2) := by decide +kernel
theorem d_M_isAlike_3 : decode c_M_isAlike 3 = .ok (.iload 4, 2) := by decide +kernel
theorem d_M_isAlike_5 : decode c_M_isAlike 5 = .ok (.iload_n 3, 1) := by decide +kernel
theorem d_M_isAlike_6 : decode c_M_isAlike 6 = .ok (.if_icmp .ge 32, 3) := by decide +kernel
theorem d_M_isAlike_9 : decode c_M_isAlike 9 = .ok (.aload_n 0, 1) := by decide +kernel
theorem d_M_isAlike_10 : decode c_M_isAlike 10 = .ok (.getfield 60, 3) := by decide +kernel
theorem d_M_isAlike_13 : decode c_M_isAlike 13 = .ok (.iload_n 1, 1) := by decide +kernel
theorem d_M_isAlike_14 : decode c_M_isAlike 14 = .ok (.iload 4, 2) := by decide +kernel
theorem d_M_isAlike_16 : decode c_M_isAlike 16 = .ok (.iadd, 1) := by decide +kernel
theorem d_M_isAlike_17 : decode c_M_isAlike 17 = .ok (.iaload, 1) := by decide +kernel
theorem d_M_isAlike_18 : decode c_M_isAlike 18 = .ok (.aload_n 0, 1) := by decide +kernel
theorem d_M_isAlike_19 : decode c_M_isAlike 19 = .ok (.getfield 60, 3) := by decide +kernel
theorem d_M_isAlike_22 : decode c_M_isAlike 22 = .ok (.iload_n 2, 1) := by decide +kernel
theorem d_M_isAlike_23 : decode c_M_isAlike 23 = .ok (.iload 4, 2) := by decide +kernel
theorem d_M_isAlike_25 : decode c_M_isAlike 25 = .ok (.iadd, 1) := by decide +kernel
theorem d_M_isAlike_26 : decode c_M_isAlike 26 = .ok (.iaload, 1) := by decide +kernel
theorem d_M_isAlike_27 : decode c_M_isAlike 27 = .ok (.if_icmp .eq 5, 3) := by decide +kernel
theorem d_M_isAlike_30 : decode c_M_isAlike 30 = .ok (.iconst 0, 1) := by decide +kernel
theorem d_M_isAlike_31 : decode c_M_isAlike 31 = .ok (.ireturn, 1) := by decide +kernel
theorem d_M_isAlike_32 : decode c_M_isAlike 32 = .ok (.iinc 4 1, 3) := by decide +kernel
theorem d_M_isAlike_35 : decode c_M_isAlike 35 = .ok (.goto (-32), 3) := by decide +kernel
theorem d_M_isAlike_38 : decode c_M_isAlike 38 = .ok (.iconst 1, 1) := by decide +kernel
theorem d_M_isAlike_39 : decode c_M_isAlike 39 = .ok (.ireturn, 1) := by decide +kernel
abbrev c_M_missing : ByteArray := prog_9_method_15_code
abbrev y_M_missing : MethodName := ⟨"BlobStoreModel", "missing", "(I)I"⟩
theorem i_M_missing : bIs y_M_missing 7 := Or.inl ⟨_, _, t3_211⟩
theorem d_M_missing_0 : decode c_M_missing 0 = .ok (.iconst 0, 1) := by decide +kernel
theorem d_M_missing_1 : decode c_M_missing 1 = .ok (.istore_n 2, 1) := by decide +kernel
theorem d_M_missing_2 : decode c_M_missing 2 = .ok (.iconst 0, 1) := by decide +kernel
theorem d_M_missing_3 : decode c_M_missing 3 = .ok (.istore_n 3, 1) := by decide +kernel
theorem d_M_missing_4 : decode c_M_missing 4 = .ok (.iload_n 3, 1) := by decide +kernel
theorem d_M_missing_5 : decode c_M_missing 5 = .ok (.iload_n 1, 1) := by decide +kernel
theorem d_M_missing_6 : decode c_M_missing 6 = .ok (.if_icmp .ge 92, 3) := by decide +kernel
theorem d_M_missing_9 : decode c_M_missing 9 = .ok (.iload_n 1, 1) := by decide +kernel
theorem d_M_missing_10 : decode c_M_missing 10 = .ok (.iload_n 3, 1) := by decide +kernel
theorem d_M_missing_11 : decode c_M_missing 11 = .ok (.invokestatic 98, 3) := by decide +kernel
theorem d_M_missing_14 : decode c_M_missing 14 = .ok (.istore 4, 2) := by decide +kernel
theorem d_M_missing_16 : decode c_M_missing 16 = .ok (.aload_n 0, 1) := by decide +kernel
theorem d_M_missing_17 : decode c_M_missing 17 = .ok (.iload_n 3, 1) := by decide +kernel
theorem d_M_missing_18 : decode c_M_missing 18 = .ok (.iload 4, 2) := by decide +kernel
theorem d_M_missing_20 : decode c_M_missing 20 = .ok (.invokevirtual 101, 3) := by decide +kernel
theorem d_M_missing_23 : decode c_M_missing 23 = .ok (.ifCond .ge 7, 3) := by decide +kernel
theorem d_M_missing_26 : decode c_M_missing 26 = .ok (.iconst 1, 1) := by decide +kernel
theorem d_M_missing_27 : decode c_M_missing 27 = .ok (.goto 4, 3) := by decide +kernel
theorem d_M_missing_30 : decode c_M_missing 30 = .ok (.iconst 0, 1) := by decide +kernel
theorem d_M_missing_31 : decode c_M_missing 31 = .ok (.istore 5, 2) := by decide +kernel
theorem d_M_missing_33 : decode c_M_missing 33 = .ok (.iconst 0, 1) := by decide +kernel
theorem d_M_missing_34 : decode c_M_missing 34 = .ok (.istore 6, 2) := by decide +kernel
theorem d_M_missing_36 : decode c_M_missing 36 = .ok (.iload 6, 2) := by decide +kernel
theorem d_M_missing_38 : decode c_M_missing 38 = .ok (.iload_n 3, 1) := by decide +kernel
theorem d_M_missing_39 : decode c_M_missing 39 = .ok (.if_icmp .ge 40, 3) := by decide +kernel
theorem d_M_missing_42 : decode c_M_missing 42 = .ok (.iload 5, 2) := by decide +kernel
theorem d_M_missing_44 : decode c_M_missing 44 = .ok (.ifCond .eq 35, 3) := by decide +kernel
theorem d_M_missing_47 : decode c_M_missing 47 = .ok (.iload 4, 2) := by decide +kernel
theorem d_M_missing_49 : decode c_M_missing 49 = .ok (.bipush 8, 2) := by decide +kernel
theorem d_M_missing_51 : decode c_M_missing 51 = .ok (.if_icmp .lt 15, 3) := by decide +kernel
theorem d_M_missing_54 : decode c_M_missing 54 = .ok (.aload_n 0, 1) := by decide +kernel
theorem d_M_missing_55 : decode c_M_missing 55 = .ok (.iload_n 3, 1) := by decide +kernel
theorem d_M_missing_56 : decode c_M_missing 56 = .ok (.iload 6, 2) := by decide +kernel
theorem d_M_missing_58 : decode c_M_missing 58 = .ok (.bipush 8, 2) := by decide +kernel
theorem d_M_missing_60 : decode c_M_missing 60 = .ok (.invokevirtual 104, 3) := by decide +kernel
theorem d_M_missing_63 : decode c_M_missing 63 = .ok (.ifCond .ne 7, 3) := by decide +kernel
theorem d_M_missing_66 : decode c_M_missing 66 = .ok (.iconst 1, 1) := by decide +kernel
theorem d_M_missing_67 : decode c_M_missing 67 = .ok (.goto 4, 3) := by decide +kernel
theorem d_M_missing_70 : decode c_M_missing 70 = .ok (.iconst 0, 1) := by decide +kernel
theorem d_M_missing_71 : decode c_M_missing 71 = .ok (.istore 5, 2) := by decide +kernel
theorem d_M_missing_73 : decode c_M_missing 73 = .ok (.iinc 6 8, 3) := by decide +kernel
theorem d_M_missing_76 : decode c_M_missing 76 = .ok (.goto (-40), 3) := by decide +kernel
theorem d_M_missing_79 : decode c_M_missing 79 = .ok (.iload_n 2, 1) := by decide +kernel
theorem d_M_missing_80 : decode c_M_missing 80 = .ok (.iload 5, 2) := by decide +kernel
theorem d_M_missing_82 : decode c_M_missing 82 = .ok (.ifCond .eq 7, 3) := by decide +kernel
theorem d_M_missing_85 : decode c_M_missing 85 = .ok (.iconst 1, 1) := by decide +kernel
theorem d_M_missing_86 : decode c_M_missing 86 = .ok (.goto 4, 3) := by decide +kernel
theorem d_M_missing_89 : decode c_M_missing 89 = .ok (.iconst 0, 1) := by decide +kernel
theorem d_M_missing_90 : decode c_M_missing 90 = .ok (.iadd, 1) := by decide +kernel
theorem d_M_missing_91 : decode c_M_missing 91 = .ok (.istore_n 2, 1) := by decide +kernel
theorem d_M_missing_92 : decode c_M_missing 92 = .ok (.iinc 3 8, 3) := by decide +kernel
theorem d_M_missing_95 : decode c_M_missing 95 = .ok (.goto (-91), 3) := by decide +kernel
theorem d_M_missing_98 : decode c_M_missing 98 = .ok (.iload_n 2, 1) := by decide +kernel
theorem d_M_missing_99 : decode c_M_missing 99 = .ok (.ireturn, 1) := by decide +kernel
abbrev c_M_freeSlots : ByteArray := prog_9_method_16_code
abbrev y_M_freeSlots : MethodName := ⟨"BlobStoreModel", "freeSlots", "()I"⟩
theorem i_M_freeSlots : bIs y_M_freeSlots 3 := Or.inl ⟨_, _, t3_230⟩
theorem d_M_freeSlots_0 : decode c_M_freeSlots 0 = .ok (.iconst 0, 1) := by decide +kernel
theorem d_M_freeSlots_1 : decode c_M_freeSlots 1 = .ok (.istore_n 1, 1) := by decide +kernel
theorem d_M_freeSlots_2 : decode c_M_freeSlots 2 = .ok (.iconst 0, 1) := by decide +kernel
theorem d_M_freeSlots_3 : decode c_M_freeSlots 3 = .ok (.istore_n 2, 1) := by decide +kernel
theorem d_M_freeSlots_4 : decode c_M_freeSlots 4 = .ok (.iload_n 2, 1) := by decide +kernel
theorem d_M_freeSlots_5 : decode c_M_freeSlots 5 = .ok (.bipush 48, 2) := by decide +kernel
theorem d_M_freeSlots_7 : decode c_M_freeSlots 7 = .ok (.if_icmp .ge 26, 3) := by decide +kernel
theorem d_M_freeSlots_10 : decode c_M_freeSlots 10 = .ok (.iload_n 1, 1) := by decide +kernel
theorem d_M_freeSlots_11 : decode c_M_freeSlots 11 = .ok (.aload_n 0, 1) := by decide +kernel
theorem d_M_freeSlots_12 : decode c_M_freeSlots 12 = .ok (.getfield 7, 3) := by decide +kernel
theorem d_M_freeSlots_15 : decode c_M_freeSlots 15 = .ok (.iload_n 2, 1) := by decide +kernel
theorem d_M_freeSlots_16 : decode c_M_freeSlots 16 = .ok (.iaload, 1) := by decide +kernel
theorem d_M_freeSlots_17 : decode c_M_freeSlots 17 = .ok (.ifCond .ne 7, 3) := by decide +kernel
theorem d_M_freeSlots_20 : decode c_M_freeSlots 20 = .ok (.iconst 1, 1) := by decide +kernel
theorem d_M_freeSlots_21 : decode c_M_freeSlots 21 = .ok (.goto 4, 3) := by decide +kernel
theorem d_M_freeSlots_24 : decode c_M_freeSlots 24 = .ok (.iconst 0, 1) := by decide +kernel
theorem d_M_freeSlots_25 : decode c_M_freeSlots 25 = .ok (.iadd, 1) := by decide +kernel
theorem d_M_freeSlots_26 : decode c_M_freeSlots 26 = .ok (.istore_n 1, 1) := by decide +kernel
theorem d_M_freeSlots_27 : decode c_M_freeSlots 27 = .ok (.iinc 2 1, 3) := by decide +kernel
theorem d_M_freeSlots_30 : decode c_M_freeSlots 30 = .ok (.goto (-26), 3) := by decide +kernel
theorem d_M_freeSlots_33 : decode c_M_freeSlots 33 = .ok (.iload_n 1, 1) := by decide +kernel
theorem d_M_freeSlots_34 : decode c_M_freeSlots 34 = .ok (.ireturn, 1) := by decide +kernel
abbrev c_M_firstFree : ByteArray := prog_9_method_17_code
abbrev y_M_firstFree : MethodName := ⟨"BlobStoreModel", "firstFree", "()I"⟩
theorem i_M_firstFree : bIs y_M_firstFree 2 := Or.inl ⟨_, _, t3_234⟩
theorem d_M_firstFree_0 : decode c_M_firstFree 0 = .ok (.iconst 0, 1) := by decide +kernel
theorem d_M_firstFree_1 : decode c_M_firstFree 1 = .ok (.istore_n 1, 1) := by decide +kernel
theorem d_M_firstFree_2 : decode c_M_firstFree 2 = .ok (.aload_n 0, 1) := by decide +kernel
theorem d_M_firstFree_3 : decode c_M_firstFree 3 = .ok (.getfield 7, 3) := by decide +kernel
theorem d_M_firstFree_6 : decode c_M_firstFree 6 = .ok (.iload_n 1, 1) := by decide +kernel
theorem d_M_firstFree_7 : decode c_M_firstFree 7 = .ok (.iaload, 1) := by decide +kernel
theorem d_M_firstFree_8 : decode c_M_firstFree 8 = .ok (.ifCond .le 9, 3) := by decide +kernel
theorem d_M_firstFree_11 : decode c_M_firstFree 11 = .ok (.iinc 1 1, 3) := by decide +kernel
theorem d_M_firstFree_14 : decode c_M_firstFree 14 = .ok (.goto (-12), 3) := by decide +kernel
theorem d_M_firstFree_17 : decode c_M_firstFree 17 = .ok (.iload_n 1, 1) := by decide +kernel
theorem d_M_firstFree_18 : decode c_M_firstFree 18 = .ok (.ireturn, 1) := by decide +kernel
abbrev c_M_lay : ByteArray := prog_9_method_18_code
abbrev y_M_lay : MethodName := ⟨"BlobStoreModel", "lay", "(JJJ)V"⟩
theorem i_M_lay : bIs y_M_lay 8 := Or.inl ⟨_, _, t3_206⟩
theorem d_M_lay_0 : decode c_M_lay 0 = .ok (.iconst 0, 1) := by decide +kernel
theorem d_M_lay_1 : decode c_M_lay 1 = .ok (.istore 7, 2) := by decide +kernel
theorem d_M_lay_3 : decode c_M_lay 3 = .ok (.iload 7, 2) := by decide +kernel
theorem d_M_lay_5 : decode c_M_lay 5 = .ok (.bipush 24, 2) := by decide +kernel
theorem d_M_lay_7 : decode c_M_lay 7 = .ok (.if_icmp .ge 57, 3) := by decide +kernel
theorem d_M_lay_10 : decode c_M_lay 10 = .ok (.aload_n 0, 1) := by decide +kernel
theorem d_M_lay_11 : decode c_M_lay 11 = .ok (.getfield 60, 3) := by decide +kernel
theorem d_M_lay_14 : decode c_M_lay 14 = .ok (.iload 7, 2) := by decide +kernel
theorem d_M_lay_16 : decode c_M_lay 16 = .ok (.iload 7, 2) := by decide +kernel
theorem d_M_lay_18 : decode c_M_lay 18 = .ok (.bipush 8, 2) := by decide +kernel
theorem d_M_lay_20 : decode c_M_lay 20 = .ok (.if_icmp .ge 7, 3) := by decide +kernel
theorem d_M_lay_23 : decode c_M_lay 23 = .ok (.lload_n 1, 1) := by decide +kernel
theorem d_M_lay_24 : decode c_M_lay 24 = .ok (.goto 16, 3) := by decide +kernel
theorem d_M_lay_27 : decode c_M_lay 27 = .ok (.iload 7, 2) := by decide +kernel
theorem d_M_lay_29 : decode c_M_lay 29 = .ok (.bipush 16, 2) := by decide +kernel
theorem d_M_lay_31 : decode c_M_lay 31 = .ok (.if_icmp .ge 7, 3) := by decide +kernel
theorem d_M_lay_34 : decode c_M_lay 34 = .ok (.lload_n 3, 1) := by decide +kernel
theorem d_M_lay_35 : decode c_M_lay 35 = .ok (.goto 5, 3) := by decide +kernel
theorem d_M_lay_38 : decode c_M_lay 38 = .ok (.lload 5, 2) := by decide +kernel
theorem d_M_lay_40 : decode c_M_lay 40 = .ok (.bipush 56, 2) := by decide +kernel
theorem d_M_lay_42 : decode c_M_lay 42 = .ok (.bipush 8, 2) := by decide +kernel
theorem d_M_lay_44 : decode c_M_lay 44 = .ok (.iload 7, 2) := by decide +kernel
theorem d_M_lay_46 : decode c_M_lay 46 = .ok (.bipush 8, 2) := by decide +kernel
theorem d_M_lay_48 : decode c_M_lay 48 = .ok (.irem, 1) := by decide +kernel
theorem d_M_lay_49 : decode c_M_lay 49 = .ok (.imul, 1) := by decide +kernel
theorem d_M_lay_50 : decode c_M_lay 50 = .ok (.isub, 1) := by decide +kernel
theorem d_M_lay_51 : decode c_M_lay 51 = .ok (.lshr, 1) := by decide +kernel
theorem d_M_lay_52 : decode c_M_lay 52 = .ok (.ldc2_w 107, 3) := by decide +kernel
theorem d_M_lay_55 : decode c_M_lay 55 = .ok (.land, 1) := by decide +kernel
theorem d_M_lay_56 : decode c_M_lay 56 = .ok (.l2i, 1) := by decide +kernel
theorem d_M_lay_57 : decode c_M_lay 57 = .ok (.iastore, 1) := by decide +kernel
theorem d_M_lay_58 : decode c_M_lay 58 = .ok (.iinc 7 1, 3) := by decide +kernel
theorem d_M_lay_61 : decode c_M_lay 61 = .ok (.goto (-58), 3) := by decide +kernel
theorem d_M_lay_64 : decode c_M_lay 64 = .ok (.return_, 1) := by decide +kernel
abbrev c_M_isOpen : ByteArray := prog_9_method_19_code
abbrev y_M_isOpen : MethodName := ⟨"BlobStoreModel", "isOpen", "(I)Z"⟩
theorem i_M_isOpen : bIs y_M_isOpen 2 := Or.inl ⟨_, _, t3_202⟩
theorem d_M_isOpen_0 : decode c_M_isOpen 0 = .ok (.iload_n 1, 1) := by decide +kernel
theorem d_M_isOpen_1 : decode c_M_isOpen 1 = .ok (.iconst 0, 1) := by decide +kernel
theorem d_M_isOpen_2 : decode c_M_isOpen 2 = .ok (.iconst 4, 1) := by decide +kernel
theorem d_M_isOpen_3 : decode c_M_isOpen 3 = .ok (.invokestatic 109, 3) := by decide +kernel
theorem d_M_isOpen_6 : decode c_M_isOpen 6 = .ok (.ifCond .eq 16, 3) := by decide +kernel
theorem d_M_isOpen_9 : decode c_M_isOpen 9 = .ok (.aload_n 0, 1) := by decide +kernel
theorem d_M_isOpen_10 : decode c_M_isOpen 10 = .ok (.getfield 16, 3) := by decide +kernel
theorem d_M_isOpen_13 : decode c_M_isOpen 13 = .ok (.iload_n 1, 1) := by decide +kernel
theorem d_M_isOpen_14 : decode c_M_isOpen 14 = .ok (.baload, 1) := by decide +kernel
theorem d_M_isOpen_15 : decode c_M_isOpen 15 = .ok (.ifCond .eq 7, 3) := by decide +kernel
theorem d_M_isOpen_18 : decode c_M_isOpen 18 = .ok (.iconst 1, 1) := by decide +kernel
theorem d_M_isOpen_19 : decode c_M_isOpen 19 = .ok (.goto 4, 3) := by decide +kernel
theorem d_M_isOpen_22 : decode c_M_isOpen 22 = .ok (.iconst 0, 1) := by decide +kernel
theorem d_M_isOpen_23 : decode c_M_isOpen 23 = .ok (.ireturn, 1) := by decide +kernel
abbrev c_M_begin : ByteArray := prog_9_method_20_code
abbrev y_M_begin : MethodName := ⟨"BlobStoreModel", "begin", "(II)I"⟩
theorem i_M_begin : bIs y_M_begin 5 := Or.inl ⟨_, _, t3_183⟩
theorem d_M_begin_0 : decode c_M_begin 0 = .ok (.iconst 0, 1) := by decide +kernel
theorem d_M_begin_1 : decode c_M_begin 1 = .ok (.istore_n 3, 1) := by decide +kernel
theorem d_M_begin_2 : decode c_M_begin 2 = .ok (.iload_n 3, 1) := by decide +kernel
theorem d_M_begin_3 : decode c_M_begin 3 = .ok (.iconst 5, 1) := by decide +kernel
theorem d_M_begin_4 : decode c_M_begin 4 = .ok (.if_icmp .ge 18, 3) := by decide +kernel
theorem d_M_begin_7 : decode c_M_begin 7 = .ok (.aload_n 0, 1) := by decide +kernel
theorem d_M_begin_8 : decode c_M_begin 8 = .ok (.getfield 16, 3) := by decide +kernel
theorem d_M_begin_11 : decode c_M_begin 11 = .ok (.iload_n 3, 1) := by decide +kernel
theorem d_M_begin_12 : decode c_M_begin 12 = .ok (.baload, 1) := by decide +kernel
theorem d_M_begin_13 : decode c_M_begin 13 = .ok (.ifCond .eq 9, 3) := by decide +kernel
theorem d_M_begin_16 : decode c_M_begin 16 = .ok (.iinc 3 1, 3) := by decide +kernel
theorem d_M_begin_19 : decode c_M_begin 19 = .ok (.goto (-17), 3) := by decide +kernel
theorem d_M_begin_22 : decode c_M_begin 22 = .ok (.aload_n 0, 1) := by decide +kernel
theorem d_M_begin_23 : decode c_M_begin 23 = .ok (.aload_n 0, 1) := by decide +kernel
theorem d_M_begin_24 : decode c_M_begin 24 = .ok (.getfield 87, 3) := by decide +kernel
theorem d_M_begin_27 : decode c_M_begin 27 = .ok (.ifCond .ne 8, 3) := by decide +kernel
theorem d_M_begin_30 : decode c_M_begin 30 = .ok (.iload_n 3, 1) := by decide +kernel
theorem d_M_begin_31 : decode c_M_begin 31 = .ok (.iconst 5, 1) := by decide +kernel
theorem d_M_begin_32 : decode c_M_begin 32 = .ok (.if_icmp .ne 7, 3) := by decide +kernel
theorem d_M_begin_35 : decode c_M_begin 35 = .ok (.iconst 1, 1) := by decide +kernel
theorem d_M_begin_36 : decode c_M_begin 36 = .ok (.goto 27, 3) := by decide +kernel
theorem d_M_begin_39 : decode c_M_begin 39 = .ok (.iload_n 1, 1) := by decide +kernel
theorem d_M_begin_40 : decode c_M_begin 40 = .ok (.iconst 0, 1) := by decide +kernel
theorem d_M_begin_41 : decode c_M_begin 41 = .ok (.iconst 3, 1) := by decide +kernel
theorem d_M_begin_42 : decode c_M_begin 42 = .ok (.invokestatic 109, 3) := by decide +kernel
theorem d_M_begin_45 : decode c_M_begin 45 = .ok (.ifCond .eq 13, 3) := by decide +kernel
theorem d_M_begin_48 : decode c_M_begin 48 = .ok (.iload_n 2, 1) := by decide +kernel
theorem d_M_begin_49 : decode c_M_begin 49 = .ok (.iconst 0, 1) := by decide +kernel
theorem d_M_begin_50 : decode c_M_begin 50 = .ok (.bipush 7, 2) := by decide +kernel
theorem d_M_begin_52 : decode c_M_begin 52 = .ok (.invokestatic 109, 3) := by decide +kernel
theorem d_M_begin_55 : decode c_M_begin 55 = .ok (.ifCond .ne 7, 3) := by decide +kernel
theorem d_M_begin_58 : decode c_M_begin 58 = .ok (.iconst 2, 1) := by decide +kernel
theorem d_M_begin_59 : decode c_M_begin 59 = .ok (.goto 4, 3) := by decide +kernel
theorem d_M_begin_62 : decode c_M_begin 62 = .ok (.iconst 0, 1) := by decide +kernel
theorem d_M_begin_63 : decode c_M_begin 63 = .ok (.invokevirtual 112, 3) := by decide +kernel
theorem d_M_begin_66 : decode c_M_begin 66 = .ok (.ifCond .eq 11, 3) := by decide +kernel
theorem d_M_begin_69 : decode c_M_begin 69 = .ok (.aload_n 0, 1) := by decide +kernel
theorem d_M_begin_70 : decode c_M_begin 70 = .ok (.iconst 3, 1) := by decide +kernel
theorem d_M_begin_71 : decode c_M_begin 71 = .ok (.invokevirtual 115, 3) := by decide +kernel
theorem d_M_begin_74 : decode c_M_begin 74 = .ok (.ifCond .ne 5, 3) := by decide +kernel
theorem d_M_begin_77 : decode c_M_begin 77 = .ok (.iconst 0, 1) := by decide +kernel
theorem d_M_begin_78 : decode c_M_begin 78 = .ok (.ireturn, 1) := by decide +kernel
theorem d_M_begin_79 : decode c_M_begin 79 = .ok (.aload_n 0, 1) := by decide +kernel
theorem d_M_begin_80 : decode c_M_begin 80 = .ok (.getfield 16, 3) := by decide +kernel
theorem d_M_begin_83 : decode c_M_begin 83 = .ok (.iload_n 3, 1) := by decide +kernel
theorem d_M_begin_84 : decode c_M_begin 84 = .ok (.iconst 1, 1) := by decide +kernel
theorem d_M_begin_85 : decode c_M_begin 85 = .ok (.bastore, 1) := by decide +kernel
theorem d_M_begin_86 : decode c_M_begin 86 = .ok (.aload_n 0, 1) := by decide +kernel
theorem d_M_begin_87 : decode c_M_begin 87 = .ok (.getfield 20, 3) := by decide +kernel
theorem d_M_begin_90 : decode c_M_begin 90 = .ok (.iload_n 3, 1) := by decide +kernel
theorem d_M_begin_91 : decode c_M_begin 91 = .ok (.iload_n 1, 1) := by decide +kernel
theorem d_M_begin_92 : decode c_M_begin 92 = .ok (.iastore, 1) := by decide +kernel
theorem d_M_begin_93 : decode c_M_begin 93 = .ok (.aload_n 0, 1) := by decide +kernel
theorem d_M_begin_94 : decode c_M_begin 94 = .ok (.getfield 23, 3) := by decide +kernel
theorem d_M_begin_97 : decode c_M_begin 97 = .ok (.iload_n 3, 1) := by decide +kernel
theorem d_M_begin_98 : decode c_M_begin 98 = .ok (.iload_n 2, 1) := by decide +kernel
theorem d_M_begin_99 : decode c_M_begin 99 = .ok (.iastore, 1) := by decide +kernel
theorem d_M_begin_100 : decode c_M_begin 100 = .ok (.iconst 0, 1) := by decide +kernel
theorem d_M_begin_101 : decode c_M_begin 101 = .ok (.istore 4, 2) := by decide +kernel
theorem d_M_begin_103 : decode c_M_begin 103 = .ok (.iload 4, 2) := by decide +kernel
theorem d_M_begin_105 : decode c_M_begin 105 = .ok (.bipush 7, 2) := by decide +kernel
theorem d_M_begin_107 : decode c_M_begin 107 = .ok (.if_icmp .ge 22, 3) := by decide +kernel
theorem d_M_begin_110 : decode c_M_begin 110 = .ok (.aload_n 0, 1) := by decide +kernel
theorem d_M_begin_111 : decode c_M_begin 111 = .ok (.getfield 26, 3) := by decide +kernel
theorem d_M_begin_114 : decode c_M_begin 114 = .ok (.bipush 7, 2) := by decide +kernel
theorem d_M_begin_116 : decode c_M_begin 116 = .ok (.iload_n 3, 1) := by decide +kernel
theorem d_M_begin_117 : decode c_M_begin 117 = .ok (.imul, 1) := by decide +kernel
theorem d_M_begin_118 : decode c_M_begin 118 = .ok (.iload 4, 2) := by decide +kernel
theorem d_M_begin_120 : decode c_M_begin 120 = .ok (.iadd, 1) := by decide +kernel
theorem d_M_begin_121 : decode c_M_begin 121 = .ok (.iconst (-1), 1) := by decide +kernel
theorem d_M_begin_122 : decode c_M_begin 122 = .ok (.iastore, 1) := by decide +kernel
theorem d_M_begin_123 : decode c_M_begin 123 = .ok (.iinc 4 1, 3) := by decide +kernel
theorem d_M_begin_126 : decode c_M_begin 126 = .ok (.goto (-23), 3) := by decide +kernel
theorem d_M_begin_129 : decode c_M_begin 129 = .ok (.iload_n 3, 1) := by decide +kernel
theorem d_M_begin_130 : decode c_M_begin 130 = .ok (.ireturn, 1) := by decide +kernel
abbrev c_M_part : ByteArray := prog_9_method_21_code
abbrev y_M_part : MethodName := ⟨"BlobStoreModel", "part", "(IIIJJJ)I"⟩
theorem i_M_part : bIs y_M_part 15 := Or.inl ⟨_, _, t3_198⟩
theorem d_M_part_0 : decode c_M_part 0 = .ok (.aload_n 0, 1) := by decide +kernel
theorem d_M_part_1 : decode c_M_part 1 = .ok (.aload_n 0, 1) := by decide +kernel
theorem d_M_part_2 : decode c_M_part 2 = .ok (.getfield 87, 3) := by decide +kernel
theorem d_M_part_5 : decode c_M_part 5 = .ok (.ifCond .eq 7, 3) := by decide +kernel
theorem d_M_part_8 : decode c_M_part 8 = .ok (.iconst 1, 1) := by decide +kernel
theorem d_M_part_9 : decode c_M_part 9 = .ok (.goto 36, 3) := by decide +kernel
theorem d_M_part_12 : decode c_M_part 12 = .ok (.aload_n 0, 1) := by decide +kernel
theorem d_M_part_13 : decode c_M_part 13 = .ok (.iload_n 1, 1) := by decide +kernel
theorem d_M_part_14 : decode c_M_part 14 = .ok (.invokevirtual 117, 3) := by decide +kernel
theorem d_M_part_17 : decode c_M_part 17 = .ok (.ifCond .eq 23, 3) := by decide +kernel
theorem d_M_part_20 : decode c_M_part 20 = .ok (.iload_n 2, 1) := by decide +kernel
theorem d_M_part_21 : decode c_M_part 21 = .ok (.iconst 1, 1) := by decide +kernel
theorem d_M_part_22 : decode c_M_part 22 = .ok (.bipush 6, 2) := by decide +kernel
theorem d_M_part_24 : decode c_M_part 24 = .ok (.invokestatic 109, 3) := by decide +kernel
theorem d_M_part_27 : decode c_M_part 27 = .ok (.ifCond .eq 13, 3) := by decide +kernel
theorem d_M_part_30 : decode c_M_part 30 = .ok (.iload_n 3, 1) := by decide +kernel
theorem d_M_part_31 : decode c_M_part 31 = .ok (.iconst 0, 1) := by decide +kernel
theorem d_M_part_32 : decode c_M_part 32 = .ok (.bipush 24, 2) := by decide +kernel
theorem d_M_part_34 : decode c_M_part 34 = .ok (.invokestatic 109, 3) := by decide +kernel
theorem d_M_part_37 : decode c_M_part 37 = .ok (.ifCond .ne 7, 3) := by decide +kernel
theorem d_M_part_40 : decode c_M_part 40 = .ok (.iconst 2, 1) := by decide +kernel
theorem d_M_part_41 : decode c_M_part 41 = .ok (.goto 4, 3) := by decide +kernel
theorem d_M_part_44 : decode c_M_part 44 = .ok (.iconst 0, 1) := by decide +kernel
theorem d_M_part_45 : decode c_M_part 45 = .ok (.invokevirtual 112, 3) := by decide +kernel
theorem d_M_part_48 : decode c_M_part 48 = .ok (.ifCond .ne 5, 3) := by decide +kernel
theorem d_M_part_51 : decode c_M_part 51 = .ok (.iconst 0, 1) := by decide +kernel
theorem d_M_part_52 : decode c_M_part 52 = .ok (.ireturn, 1) := by decide +kernel
theorem d_M_part_53 : decode c_M_part 53 = .ok (.aload_n 0, 1) := by decide +kernel
theorem d_M_part_54 : decode c_M_part 54 = .ok (.lload 4, 2) := by decide +kernel
theorem d_M_part_56 : decode c_M_part 56 = .ok (.lload 6, 2) := by decide +kernel
theorem d_M_part_58 : decode c_M_part 58 = .ok (.lload 8, 2) := by decide +kernel
theorem d_M_part_60 : decode c_M_part 60 = .ok (.invokevirtual 120, 3) := by decide +kernel
theorem d_M_part_63 : decode c_M_part 63 = .ok (.aload_n 0, 1) := by decide +kernel
theorem d_M_part_64 : decode c_M_part 64 = .ok (.aload_n 0, 1) := by decide +kernel
theorem d_M_part_65 : decode c_M_part 65 = .ok (.iload_n 3, 1) := by decide +kernel
theorem d_M_part_66 : decode c_M_part 66 = .ok (.invokevirtual 124, 3) := by decide +kernel
theorem d_M_part_69 : decode c_M_part 69 = .ok (.aload_n 0, 1) := by decide +kernel
theorem d_M_part_70 : decode c_M_part 70 = .ok (.invokevirtual 128, 3) := by decide +kernel
theorem d_M_part_73 : decode c_M_part 73 = .ok (.if_icmp .le 7, 3) := by decide +kernel
theorem d_M_part_76 : decode c_M_part 76 = .ok (.iconst 3, 1) := by decide +kernel
theorem d_M_part_77 : decode c_M_part 77 = .ok (.goto 4, 3) := by decide +kernel
theorem d_M_part_80 : decode c_M_part 80 = .ok (.iconst 0, 1) := by decide +kernel
theorem d_M_part_81 : decode c_M_part 81 = .ok (.invokevirtual 112, 3) := by decide +kernel
theorem d_M_part_84 : decode c_M_part 84 = .ok (.ifCond .ne 5, 3) := by decide +kernel
theorem d_M_part_87 : decode c_M_part 87 = .ok (.iconst 0, 1) := by decide +kernel
theorem d_M_part_88 : decode c_M_part 88 = .ok (.ireturn, 1) := by decide +kernel
theorem d_M_part_89 : decode c_M_part 89 = .ok (.iconst 0, 1) := by decide +kernel
theorem d_M_part_90 : decode c_M_part 90 = .ok (.istore 10, 2) := by decide +kernel
theorem d_M_part_92 : decode c_M_part 92 = .ok (.iconst 0, 1) := by decide +kernel
theorem d_M_part_93 : decode c_M_part 93 = .ok (.istore 11, 2) := by decide +kernel
theorem d_M_part_95 : decode c_M_part 95 = .ok (.iload 11, 2) := by decide +kernel
theorem d_M_part_97 : decode c_M_part 97 = .ok (.iload_n 3, 1) := by decide +kernel
theorem d_M_part_98 : decode c_M_part 98 = .ok (.if_icmp .ge 98, 3) := by decide +kernel
theorem d_M_part_101 : decode c_M_part 101 = .ok (.iload_n 3, 1) := by decide +kernel
theorem d_M_part_102 : decode c_M_part 102 = .ok (.iload 11, 2) := by decide +kernel
theorem d_M_part_104 : decode c_M_part 104 = .ok (.invokestatic 98, 3) := by decide +kernel
theorem d_M_part_107 : decode c_M_part 107 = .ok (.istore 12, 2) := by decide +kernel
theorem d_M_part_109 : decode c_M_part 109 = .ok (.aload_n 0, 1) := by decide +kernel
theorem d_M_part_110 : decode c_M_part 110 = .ok (.iload 11, 2) := by decide +kernel
theorem d_M_part_112 : decode c_M_part 112 = .ok (.iload 12, 2) := by decide +kernel
theorem d_M_part_114 : decode c_M_part 114 = .ok (.invokevirtual 101, 3) := by decide +kernel
theorem d_M_part_117 : decode c_M_part 117 = .ok (.ifCond .lt 6, 3) := by decide +kernel
theorem d_M_part_120 : decode c_M_part 120 = .ok (.goto 70, 3) := by decide +kernel
theorem d_M_part_123 : decode c_M_part 123 = .ok (.aload_n 0, 1) := by decide +kernel
theorem d_M_part_124 : decode c_M_part 124 = .ok (.iconst 4, 1) := by decide +kernel
theorem d_M_part_125 : decode c_M_part 125 = .ok (.invokevirtual 115, 3) := by decide +kernel
theorem d_M_part_128 : decode c_M_part 128 = .ok (.ifCond .ne 5, 3) := by decide +kernel
theorem d_M_part_131 : decode c_M_part 131 = .ok (.iconst 0, 1) := by decide +kernel
theorem d_M_part_132 : decode c_M_part 132 = .ok (.ireturn, 1) := by decide +kernel
theorem d_M_part_133 : decode c_M_part 133 = .ok (.aload_n 0, 1) := by decide +kernel
theorem d_M_part_134 : decode c_M_part 134 = .ok (.invokevirtual 132, 3) := by decide +kernel
theorem d_M_part_137 : decode c_M_part 137 = .ok (.istore 13, 2) := by decide +kernel
theorem d_M_part_139 : decode c_M_part 139 = .ok (.aload_n 0, 1) := by decide +kernel
theorem d_M_part_140 : decode c_M_part 140 = .ok (.getfield 7, 3) := by decide +kernel
theorem d_M_part_143 : decode c_M_part 143 = .ok (.iload 13, 2) := by decide +kernel
theorem d_M_part_145 : decode c_M_part 145 = .ok (.iload 12, 2) := by decide +kernel
theorem d_M_part_147 : decode c_M_part 147 = .ok (.iastore, 1) := by decide +kernel
theorem d_M_part_148 : decode c_M_part 148 = .ok (.iconst 0, 1) := by decide +kernel
theorem d_M_part_149 : decode c_M_part 149 = .ok (.istore 14, 2) := by decide +kernel
theorem d_M_part_151 : decode c_M_part 151 = .ok (.iload 14, 2) := by decide +kernel
theorem d_M_part_153 : decode c_M_part 153 = .ok (.iload 12, 2) := by decide +kernel
theorem d_M_part_155 : decode c_M_part 155 = .ok (.if_icmp .ge 32, 3) := by decide +kernel
theorem d_M_part_158 : decode c_M_part 158 = .ok (.aload_n 0, 1) := by decide +kernel
theorem d_M_part_159 : decode c_M_part 159 = .ok (.getfield 13, 3) := by decide +kernel
theorem d_M_part_162 : decode c_M_part 162 = .ok (.bipush 8, 2) := by decide +kernel
theorem d_M_part_164 : decode c_M_part 164 = .ok (.iload 13, 2) := by decide +kernel
theorem d_M_part_166 : decode c_M_part 166 = .ok (.imul, 1) := by decide +kernel
theorem d_M_part_167 : decode c_M_part 167 = .ok (.iload 14, 2) := by decide +kernel
theorem d_M_part_169 : decode c_M_part 169 = .ok (.iadd, 1) := by decide +kernel
theorem d_M_part_170 : decode c_M_part 170 = .ok (.aload_n 0, 1) := by decide +kernel
theorem d_M_part_171 : decode c_M_part 171 = .ok (.getfield 60, 3) := by decide +kernel
theorem d_M_part_174 : decode c_M_part 174 = .ok (.iload 11, 2) := by decide +kernel
theorem d_M_part_176 : decode c_M_part 176 = .ok (.iload 14, 2) := by decide +kernel
theorem d_M_part_178 : decode c_M_part 178 = .ok (.iadd, 1) := by decide +kernel
theorem d_M_part_179 : decode c_M_part 179 = .ok (.iaload, 1) := by decide +kernel
theorem d_M_part_180 : decode c_M_part 180 = .ok (.iastore, 1) := by decide +kernel
theorem d_M_part_181 : decode c_M_part 181 = .ok (.iinc 14 1, 3) := by decide +kernel
theorem d_M_part_184 : decode c_M_part 184 = .ok (.goto (-33), 3) := by decide +kernel
theorem d_M_part_187 : decode c_M_part 187 = .ok (.iinc 10 1, 3) := by decide +kernel
theorem d_M_part_190 : decode c_M_part 190 = .ok (.iinc 11 8, 3) := by decide +kernel
theorem d_M_part_193 : decode c_M_part 193 = .ok (.goto (-98), 3) := by decide +kernel
theorem d_M_part_196 : decode c_M_part 196 = .ok (.aload_n 0, 1) := by decide +kernel
theorem d_M_part_197 : decode c_M_part 197 = .ok (.iconst 4, 1) := by decide +kernel
theorem d_M_part_198 : decode c_M_part 198 = .ok (.invokevirtual 115, 3) := by decide +kernel
theorem d_M_part_201 : decode c_M_part 201 = .ok (.ifCond .ne 5, 3) := by decide +kernel
theorem d_M_part_204 : decode c_M_part 204 = .ok (.iconst 0, 1) := by decide +kernel
theorem d_M_part_205 : decode c_M_part 205 = .ok (.ireturn, 1) := by decide +kernel
theorem d_M_part_206 : decode c_M_part 206 = .ok (.bipush 7, 2) := by decide +kernel
theorem d_M_part_208 : decode c_M_part 208 = .ok (.iload_n 1, 1) := by decide +kernel
theorem d_M_part_209 : decode c_M_part 209 = .ok (.imul, 1) := by decide +kernel
theorem d_M_part_210 : decode c_M_part 210 = .ok (.iload_n 2, 1) := by decide +kernel
theorem d_M_part_211 : decode c_M_part 211 = .ok (.iadd, 1) := by decide +kernel
theorem d_M_part_212 : decode c_M_part 212 = .ok (.istore 11, 2) := by decide +kernel
theorem d_M_part_214 : decode c_M_part 214 = .ok (.aload_n 0, 1) := by decide +kernel
theorem d_M_part_215 : decode c_M_part 215 = .ok (.getfield 26, 3) := by decide +kernel
theorem d_M_part_218 : decode c_M_part 218 = .ok (.iload 11, 2) := by decide +kernel
theorem d_M_part_220 : decode c_M_part 220 = .ok (.iload_n 3, 1) := by decide +kernel
theorem d_M_part_221 : decode c_M_part 221 = .ok (.bipush 7, 2) := by decide +kernel
theorem d_M_part_223 : decode c_M_part 223 = .ok (.iadd, 1) := by decide +kernel
theorem d_M_part_224 : decode c_M_part 224 = .ok (.bipush 8, 2) := by decide +kernel
theorem d_M_part_226 : decode c_M_part 226 = .ok (.idiv, 1) := by decide +kernel
theorem d_M_part_227 : decode c_M_part 227 = .ok (.iastore, 1) := by decide +kernel
theorem d_M_part_228 : decode c_M_part 228 = .ok (.iconst 0, 1) := by decide +kernel
theorem d_M_part_229 : decode c_M_part 229 = .ok (.istore 12, 2) := by decide +kernel
theorem d_M_part_231 : decode c_M_part 231 = .ok (.iload 12, 2) := by decide +kernel
theorem d_M_part_233 : decode c_M_part 233 = .ok (.iload_n 3, 1) := by decide +kernel
theorem d_M_part_234 : decode c_M_part 234 = .ok (.if_icmp .ge 36, 3) := by decide +kernel
theorem d_M_part_237 : decode c_M_part 237 = .ok (.aload_n 0, 1) := by decide +kernel
theorem d_M_part_238 : decode c_M_part 238 = .ok (.getfield 29, 3) := by decide +kernel
theorem d_M_part_241 : decode c_M_part 241 = .ok (.iconst 3, 1) := by decide +kernel
theorem d_M_part_242 : decode c_M_part 242 = .ok (.iload 11, 2) := by decide +kernel
theorem d_M_part_244 : decode c_M_part 244 = .ok (.imul, 1) := by decide +kernel
theorem d_M_part_245 : decode c_M_part 245 = .ok (.iload 12, 2) := by decide +kernel
theorem d_M_part_247 : decode c_M_part 247 = .ok (.bipush 8, 2) := by decide +kernel
theorem d_M_part_249 : decode c_M_part 249 = .ok (.idiv, 1) := by decide +kernel
theorem d_M_part_250 : decode c_M_part 250 = .ok (.iadd, 1) := by decide +kernel
theorem d_M_part_251 : decode c_M_part 251 = .ok (.aload_n 0, 1) := by decide +kernel
theorem d_M_part_252 : decode c_M_part 252 = .ok (.iload 12, 2) := by decide +kernel
theorem d_M_part_254 : decode c_M_part 254 = .ok (.iload_n 3, 1) := by decide +kernel
theorem d_M_part_255 : decode c_M_part 255 = .ok (.iload 12, 2) := by decide +kernel
theorem d_M_part_257 : decode c_M_part 257 = .ok (.invokestatic 98, 3) := by decide +kernel
theorem d_M_part_260 : decode c_M_part 260 = .ok (.invokevirtual 101, 3) := by decide +kernel
theorem d_M_part_263 : decode c_M_part 263 = .ok (.iastore, 1) := by decide +kernel
theorem d_M_part_264 : decode c_M_part 264 = .ok (.iinc 12 8, 3) := by decide +kernel
theorem d_M_part_267 : decode c_M_part 267 = .ok (.goto (-36), 3) := by decide +kernel
theorem d_M_part_270 : decode c_M_part 270 = .ok (.iload 10, 2) := by decide +kernel
theorem d_M_part_272 : decode c_M_part 272 = .ok (.ireturn, 1) := by decide +kernel
abbrev c_M_complete : ByteArray := prog_9_method_22_code
abbrev y_M_complete : MethodName := ⟨"BlobStoreModel", "complete", "(I)I"⟩
theorem i_M_complete : bIs y_M_complete 5 := Or.inl ⟨_, _, t3_238⟩
theorem d_M_complete_0 : decode c_M_complete 0 = .ok (.aload_n 0, 1) := by decide +kernel
theorem d_M_complete_1 : decode c_M_complete 1 = .ok (.aload_n 0, 1) := by decide +kernel
theorem d_M_complete_2 : decode c_M_complete 2 = .ok (.getfield 87, 3) := by decide +kernel
theorem d_M_complete_5 : decode c_M_complete 5 = .ok (.ifCond .ne 12, 3) := by decide +kernel
theorem d_M_complete_8 : decode c_M_complete 8 = .ok (.aload_n 0, 1) := by decide +kernel
theorem d_M_complete_9 : decode c_M_complete 9 = .ok (.getfield 135, 3) := by decide +kernel
theorem d_M_complete_12 : decode c_M_complete 12 = .ok (.bipush 40, 2) := by decide +kernel
theorem d_M_complete_14 : decode c_M_complete 14 = .ok (.if_icmp .ne 7, 3) := by decide +kernel
theorem d_M_complete_17 : decode c_M_complete 17 = .ok (.iconst 1, 1) := by decide +kernel
theorem d_M_complete_18 : decode c_M_complete 18 = .ok (.goto 16, 3) := by decide +kernel
theorem d_M_complete_21 : decode c_M_complete 21 = .ok (.aload_n 0, 1) := by decide +kernel
theorem d_M_complete_22 : decode c_M_complete 22 = .ok (.iload_n 1, 1) := by decide +kernel
theorem d_M_complete_23 : decode c_M_complete 23 = .ok (.invokevirtual 117, 3) := by decide +kernel
theorem d_M_complete_26 : decode c_M_complete 26 = .ok (.ifCond .ne 7, 3) := by decide +kernel
theorem d_M_complete_29 : decode c_M_complete 29 = .ok (.iconst 2, 1) := by decide +kernel
theorem d_M_complete_30 : decode c_M_complete 30 = .ok (.goto 4, 3) := by decide +kernel
theorem d_M_complete_33 : decode c_M_complete 33 = .ok (.iconst 0, 1) := by decide +kernel
theorem d_M_complete_34 : decode c_M_complete 34 = .ok (.invokevirtual 112, 3) := by decide +kernel
theorem d_M_complete_37 : decode c_M_complete 37 = .ok (.ifCond .eq 11, 3) := by decide +kernel
theorem d_M_complete_40 : decode c_M_complete 40 = .ok (.aload_n 0, 1) := by decide +kernel
theorem d_M_complete_41 : decode c_M_complete 41 = .ok (.iconst 3, 1) := by decide +kernel
theorem d_M_complete_42 : decode c_M_complete 42 = .ok (.invokevirtual 115, 3) := by decide +kernel
theorem d_M_complete_45 : decode c_M_complete 45 = .ok (.ifCond .ne 5, 3) := by decide +kernel
theorem d_M_complete_48 : decode c_M_complete 48 = .ok (.iconst 0, 1) := by decide +kernel
theorem d_M_complete_49 : decode c_M_complete 49 = .ok (.ireturn, 1) := by decide +kernel
theorem d_M_complete_50 : decode c_M_complete 50 = .ok (.aload_n 0, 1) := by decide +kernel
theorem d_M_complete_51 : decode c_M_complete 51 = .ok (.dup, 1) := by decide +kernel
theorem d_M_complete_52 : decode c_M_complete 52 = .ok (.getfield 135, 3) := by decide +kernel
theorem d_M_complete_55 : decode c_M_complete 55 = .ok (.iconst 1, 1) := by decide +kernel
theorem d_M_complete_56 : decode c_M_complete 56 = .ok (.iadd, 1) := by decide +kernel
theorem d_M_complete_57 : decode c_M_complete 57 = .ok (.putfield 135, 3) := by decide +kernel
theorem d_M_complete_60 : decode c_M_complete 60 = .ok (.aload_n 0, 1) := by decide +kernel
theorem d_M_complete_61 : decode c_M_complete 61 = .ok (.getfield 135, 3) := by decide +kernel
theorem d_M_complete_64 : decode c_M_complete 64 = .ok (.istore_n 2, 1) := by decide +kernel
theorem d_M_complete_65 : decode c_M_complete 65 = .ok (.aload_n 0, 1) := by decide +kernel
theorem d_M_complete_66 : decode c_M_complete 66 = .ok (.getfield 32, 3) := by decide +kernel
theorem d_M_complete_69 : decode c_M_complete 69 = .ok (.iload_n 2, 1) := by decide +kernel
theorem d_M_complete_70 : decode c_M_complete 70 = .ok (.iconst 1, 1) := by decide +kernel
theorem d_M_complete_71 : decode c_M_complete 71 = .ok (.bastore, 1) := by decide +kernel
theorem d_M_complete_72 : decode c_M_complete 72 = .ok (.aload_n 0, 1) := by decide +kernel
theorem d_M_complete_73 : decode c_M_complete 73 = .ok (.getfield 35, 3) := by decide +kernel
theorem d_M_complete_76 : decode c_M_complete 76 = .ok (.iload_n 2, 1) := by decide +kernel
theorem d_M_complete_77 : decode c_M_complete 77 = .ok (.aload_n 0, 1) := by decide +kernel
theorem d_M_complete_78 : decode c_M_complete 78 = .ok (.getfield 20, 3) := by decide +kernel
theorem d_M_complete_81 : decode c_M_complete 81 = .ok (.iload_n 1, 1) := by decide +kernel
theorem d_M_complete_82 : decode c_M_complete 82 = .ok (.iaload, 1) := by decide +kernel
theorem d_M_complete_83 : decode c_M_complete 83 = .ok (.iastore, 1) := by decide +kernel
theorem d_M_complete_84 : decode c_M_complete 84 = .ok (.aload_n 0, 1) := by decide +kernel
theorem d_M_complete_85 : decode c_M_complete 85 = .ok (.getfield 38, 3) := by decide +kernel
theorem d_M_complete_88 : decode c_M_complete 88 = .ok (.iload_n 2, 1) := by decide +kernel
theorem d_M_complete_89 : decode c_M_complete 89 = .ok (.aload_n 0, 1) := by decide +kernel
theorem d_M_complete_90 : decode c_M_complete 90 = .ok (.getfield 23, 3) := by decide +kernel
theorem d_M_complete_93 : decode c_M_complete 93 = .ok (.iload_n 1, 1) := by decide +kernel
theorem d_M_complete_94 : decode c_M_complete 94 = .ok (.iaload, 1) := by decide +kernel
theorem d_M_complete_95 : decode c_M_complete 95 = .ok (.iastore, 1) := by decide +kernel
theorem d_M_complete_96 : decode c_M_complete 96 = .ok (.aload_n 0, 1) := by decide +kernel
theorem d_M_complete_97 : decode c_M_complete 97 = .ok (.getfield 41, 3) := by decide +kernel
theorem d_M_complete_100 : decode c_M_complete 100 = .ok (.iload_n 2, 1) := by decide +kernel
theorem d_M_complete_101 : decode c_M_complete 101 = .ok (.iconst 0, 1) := by decide +kernel
theorem d_M_complete_102 : decode c_M_complete 102 = .ok (.iastore, 1) := by decide +kernel
theorem d_M_complete_103 : decode c_M_complete 103 = .ok (.bipush 7, 2) := by decide +kernel
theorem d_M_complete_105 : decode c_M_complete 105 = .ok (.iload_n 1, 1) := by decide +kernel
theorem d_M_complete_106 : decode c_M_complete 106 = .ok (.imul, 1) := by decide +kernel
theorem d_M_complete_107 : decode c_M_complete 107 = .ok (.istore_n 3, 1) := by decide +kernel
theorem d_M_complete_108 : decode c_M_complete 108 = .ok (.iload_n 3, 1) := by decide +kernel
theorem d_M_complete_109 : decode c_M_complete 109 = .ok (.bipush 7, 2) := by decide +kernel
theorem d_M_complete_111 : decode c_M_complete 111 = .ok (.iload_n 1, 1) := by decide +kernel
theorem d_M_complete_112 : decode c_M_complete 112 = .ok (.iconst 1, 1) := by decide +kernel
theorem d_M_complete_113 : decode c_M_complete 113 = .ok (.iadd, 1) := by decide +kernel
theorem d_M_complete_114 : decode c_M_complete 114 = .ok (.imul, 1) := by decide +kernel
theorem d_M_complete_115 : decode c_M_complete 115 = .ok (.if_icmp .ge 69, 3) := by decide +kernel
theorem d_M_complete_118 : decode c_M_complete 118 = .ok (.iconst 0, 1) := by decide +kernel
theorem d_M_complete_119 : decode c_M_complete 119 = .ok (.istore 4, 2) := by decide +kernel
theorem d_M_complete_121 : decode c_M_complete 121 = .ok (.iload 4, 2) := by decide +kernel
theorem d_M_complete_123 : decode c_M_complete 123 = .ok (.aload_n 0, 1) := by decide +kernel
theorem d_M_complete_124 : decode c_M_complete 124 = .ok (.getfield 26, 3) := by decide +kernel
theorem d_M_complete_127 : decode c_M_complete 127 = .ok (.iload_n 3, 1) := by decide +kernel
theorem d_M_complete_128 : decode c_M_complete 128 = .ok (.iaload, 1) := by decide +kernel
theorem d_M_complete_129 : decode c_M_complete 129 = .ok (.if_icmp .ge 49, 3) := by decide +kernel
theorem d_M_complete_132 : decode c_M_complete 132 = .ok (.aload_n 0, 1) := by decide +kernel
theorem d_M_complete_133 : decode c_M_complete 133 = .ok (.getfield 44, 3) := by decide +kernel
theorem d_M_complete_136 : decode c_M_complete 136 = .ok (.bipush 18, 2) := by decide +kernel
theorem d_M_complete_138 : decode c_M_complete 138 = .ok (.iload_n 2, 1) := by decide +kernel
theorem d_M_complete_139 : decode c_M_complete 139 = .ok (.imul, 1) := by decide +kernel
theorem d_M_complete_140 : decode c_M_complete 140 = .ok (.bipush 18, 2) := by decide +kernel
theorem d_M_complete_142 : decode c_M_complete 142 = .ok (.isub, 1) := by decide +kernel
theorem d_M_complete_143 : decode c_M_complete 143 = .ok (.aload_n 0, 1) := by decide +kernel
theorem d_M_complete_144 : decode c_M_complete 144 = .ok (.getfield 41, 3) := by decide +kernel
theorem d_M_complete_147 : decode c_M_complete 147 = .ok (.iload_n 2, 1) := by decide +kernel
theorem d_M_complete_148 : decode c_M_complete 148 = .ok (.iaload, 1) := by decide +kernel
theorem d_M_complete_149 : decode c_M_complete 149 = .ok (.iadd, 1) := by decide +kernel
theorem d_M_complete_150 : decode c_M_complete 150 = .ok (.aload_n 0, 1) := by decide +kernel
theorem d_M_complete_151 : decode c_M_complete 151 = .ok (.getfield 29, 3) := by decide +kernel
theorem d_M_complete_154 : decode c_M_complete 154 = .ok (.iconst 3, 1) := by decide +kernel
theorem d_M_complete_155 : decode c_M_complete 155 = .ok (.iload_n 3, 1) := by decide +kernel
theorem d_M_complete_156 : decode c_M_complete 156 = .ok (.imul, 1) := by decide +kernel
theorem d_M_complete_157 : decode c_M_complete 157 = .ok (.iload 4, 2) := by decide +kernel
theorem d_M_complete_159 : decode c_M_complete 159 = .ok (.iadd, 1) := by decide +kernel
theorem d_M_complete_160 : decode c_M_complete 160 = .ok (.iaload, 1) := by decide +kernel
theorem d_M_complete_161 : decode c_M_complete 161 = .ok (.iastore, 1) := by decide +kernel
theorem d_M_complete_162 : decode c_M_complete 162 = .ok (.aload_n 0, 1) := by decide +kernel
theorem d_M_complete_163 : decode c_M_complete 163 = .ok (.getfield 41, 3) := by decide +kernel
theorem d_M_complete_166 : decode c_M_complete 166 = .ok (.iload_n 2, 1) := by decide +kernel
theorem d_M_complete_167 : decode c_M_complete 167 = .ok (.dup2, 1) := by decide +kernel
theorem d_M_complete_168 : decode c_M_complete 168 = .ok (.iaload, 1) := by decide +kernel
theorem d_M_complete_169 : decode c_M_complete 169 = .ok (.iconst 1, 1) := by decide +kernel
theorem d_M_complete_170 : decode c_M_complete 170 = .ok (.iadd, 1) := by decide +kernel
theorem d_M_complete_171 : decode c_M_complete 171 = .ok (.iastore, 1) := by decide +kernel
theorem d_M_complete_172 : decode c_M_complete 172 = .ok (.iinc 4 1, 3) := by decide +kernel
theorem d_M_complete_175 : decode c_M_complete 175 = .ok (.goto (-54), 3) := by decide +kernel
theorem d_M_complete_178 : decode c_M_complete 178 = .ok (.iinc 3 1, 3) := by decide +kernel
theorem d_M_complete_181 : decode c_M_complete 181 = .ok (.goto (-73), 3) := by decide +kernel
theorem d_M_complete_184 : decode c_M_complete 184 = .ok (.aload_n 0, 1) := by decide +kernel
theorem d_M_complete_185 : decode c_M_complete 185 = .ok (.getfield 16, 3) := by decide +kernel
theorem d_M_complete_188 : decode c_M_complete 188 = .ok (.iload_n 1, 1) := by decide +kernel
theorem d_M_complete_189 : decode c_M_complete 189 = .ok (.iconst 0, 1) := by decide +kernel
theorem d_M_complete_190 : decode c_M_complete 190 = .ok (.bastore, 1) := by decide +kernel
theorem d_M_complete_191 : decode c_M_complete 191 = .ok (.iload_n 2, 1) := by decide +kernel
theorem d_M_complete_192 : decode c_M_complete 192 = .ok (.ireturn, 1) := by decide +kernel
abbrev c_M_abort : ByteArray := prog_9_method_23_code
abbrev y_M_abort : MethodName := ⟨"BlobStoreModel", "abort", "(I)V"⟩
theorem i_M_abort : bIs y_M_abort 2 := Or.inl ⟨_, _, t4_2⟩
theorem d_M_abort_0 : decode c_M_abort 0 = .ok (.aload_n 0, 1) := by decide +kernel
theorem d_M_abort_1 : decode c_M_abort 1 = .ok (.aload_n 0, 1) := by decide +kernel
theorem d_M_abort_2 : decode c_M_abort 2 = .ok (.getfield 87, 3) := by decide +kernel
theorem d_M_abort_5 : decode c_M_abort 5 = .ok (.ifCond .eq 7, 3) := by decide +kernel
theorem d_M_abort_8 : decode c_M_abort 8 = .ok (.iconst 1, 1) := by decide +kernel
theorem d_M_abort_9 : decode c_M_abort 9 = .ok (.goto 16, 3) := by decide +kernel
theorem d_M_abort_12 : decode c_M_abort 12 = .ok (.aload_n 0, 1) := by decide +kernel
theorem d_M_abort_13 : decode c_M_abort 13 = .ok (.iload_n 1, 1) := by decide +kernel
theorem d_M_abort_14 : decode c_M_abort 14 = .ok (.invokevirtual 117, 3) := by decide +kernel
theorem d_M_abort_17 : decode c_M_abort 17 = .ok (.ifCond .ne 7, 3) := by decide +kernel
theorem d_M_abort_20 : decode c_M_abort 20 = .ok (.iconst 2, 1) := by decide +kernel
theorem d_M_abort_21 : decode c_M_abort 21 = .ok (.goto 4, 3) := by decide +kernel
theorem d_M_abort_24 : decode c_M_abort 24 = .ok (.iconst 0, 1) := by decide +kernel
theorem d_M_abort_25 : decode c_M_abort 25 = .ok (.invokevirtual 112, 3) := by decide +kernel
theorem d_M_abort_28 : decode c_M_abort 28 = .ok (.ifCond .eq 18, 3) := by decide +kernel
theorem d_M_abort_31 : decode c_M_abort 31 = .ok (.aload_n 0, 1) := by decide +kernel
theorem d_M_abort_32 : decode c_M_abort 32 = .ok (.iconst 3, 1) := by decide +kernel
theorem d_M_abort_33 : decode c_M_abort 33 = .ok (.invokevirtual 115, 3) := by decide +kernel
theorem d_M_abort_36 : decode c_M_abort 36 = .ok (.ifCond .eq 10, 3) := by decide +kernel
theorem d_M_abort_39 : decode c_M_abort 39 = .ok (.aload_n 0, 1) := by decide +kernel
theorem d_M_abort_40 : decode c_M_abort 40 = .ok (.getfield 16, 3) := by decide +kernel
theorem d_M_abort_43 : decode c_M_abort 43 = .ok (.iload_n 1, 1) := by decide +kernel
theorem d_M_abort_44 : decode c_M_abort 44 = .ok (.iconst 0, 1) := by decide +kernel
theorem d_M_abort_45 : decode c_M_abort 45 = .ok (.bastore, 1) := by decide +kernel
theorem d_M_abort_46 : decode c_M_abort 46 = .ok (.return_, 1) := by decide +kernel
abbrev c_M_isLiving : ByteArray := prog_9_method_24_code
abbrev y_M_isLiving : MethodName := ⟨"BlobStoreModel", "isLiving", "(I)Z"⟩
theorem i_M_isLiving : bIs y_M_isLiving 2 := Or.inl ⟨_, _, t4_10⟩
theorem d_M_isLiving_0 : decode c_M_isLiving 0 = .ok (.iload_n 1, 1) := by decide +kernel
theorem d_M_isLiving_1 : decode c_M_isLiving 1 = .ok (.iconst 1, 1) := by decide +kernel
theorem d_M_isLiving_2 : decode c_M_isLiving 2 = .ok (.aload_n 0, 1) := by decide +kernel
theorem d_M_isLiving_3 : decode c_M_isLiving 3 = .ok (.getfield 135, 3) := by decide +kernel
theorem d_M_isLiving_6 : decode c_M_isLiving 6 = .ok (.invokestatic 109, 3) := by decide +kernel
theorem d_M_isLiving_9 : decode c_M_isLiving 9 = .ok (.ifCond .eq 16, 3) := by decide +kernel
theorem d_M_isLiving_12 : decode c_M_isLiving 12 = .ok (.aload_n 0, 1) := by decide +kernel
theorem d_M_isLiving_13 : decode c_M_isLiving 13 = .ok (.getfield 32, 3) := by decide +kernel
theorem d_M_isLiving_16 : decode c_M_isLiving 16 = .ok (.iload_n 1, 1) := by decide +kernel
theorem d_M_isLiving_17 : decode c_M_isLiving 17 = .ok (.baload, 1) := by decide +kernel
theorem d_M_isLiving_18 : decode c_M_isLiving 18 = .ok (.ifCond .eq 7, 3) := by decide +kernel
theorem d_M_isLiving_21 : decode c_M_isLiving 21 = .ok (.iconst 1, 1) := by decide +kernel
theorem d_M_isLiving_22 : decode c_M_isLiving 22 = .ok (.goto 4, 3) := by decide +kernel
theorem d_M_isLiving_25 : decode c_M_isLiving 25 = .ok (.iconst 0, 1) := by decide +kernel
theorem d_M_isLiving_26 : decode c_M_isLiving 26 = .ok (.ireturn, 1) := by decide +kernel
abbrev c_M_delete : ByteArray := prog_9_method_25_code
abbrev y_M_delete : MethodName := ⟨"BlobStoreModel", "delete", "(I)Z"⟩
theorem i_M_delete : bIs y_M_delete 2 := Or.inl ⟨_, _, t4_6⟩
theorem d_M_delete_0 : decode c_M_delete 0 = .ok (.aload_n 0, 1) := by decide +kernel
theorem d_M_delete_1 : decode c_M_delete 1 = .ok (.aload_n 0, 1) := by decide +kernel
theorem d_M_delete_2 : decode c_M_delete 2 = .ok (.getfield 87, 3) := by decide +kernel
theorem d_M_delete_5 : decode c_M_delete 5 = .ok (.ifCond .eq 7, 3) := by decide +kernel
theorem d_M_delete_8 : decode c_M_delete 8 = .ok (.iconst 1, 1) := by decide +kernel
theorem d_M_delete_9 : decode c_M_delete 9 = .ok (.goto 4, 3) := by decide +kernel
theorem d_M_delete_12 : decode c_M_delete 12 = .ok (.iconst 0, 1) := by decide +kernel
theorem d_M_delete_13 : decode c_M_delete 13 = .ok (.invokevirtual 112, 3) := by decide +kernel
theorem d_M_delete_16 : decode c_M_delete 16 = .ok (.ifCond .eq 19, 3) := by decide +kernel
theorem d_M_delete_19 : decode c_M_delete 19 = .ok (.aload_n 0, 1) := by decide +kernel
theorem d_M_delete_20 : decode c_M_delete 20 = .ok (.iload_n 1, 1) := by decide +kernel
theorem d_M_delete_21 : decode c_M_delete 21 = .ok (.invokevirtual 138, 3) := by decide +kernel
theorem d_M_delete_24 : decode c_M_delete 24 = .ok (.ifCond .eq 11, 3) := by decide +kernel
theorem d_M_delete_27 : decode c_M_delete 27 = .ok (.aload_n 0, 1) := by decide +kernel
theorem d_M_delete_28 : decode c_M_delete 28 = .ok (.iconst 2, 1) := by decide +kernel
theorem d_M_delete_29 : decode c_M_delete 29 = .ok (.invokevirtual 115, 3) := by decide +kernel
theorem d_M_delete_32 : decode c_M_delete 32 = .ok (.ifCond .ne 5, 3) := by decide +kernel
theorem d_M_delete_35 : decode c_M_delete 35 = .ok (.iconst 0, 1) := by decide +kernel
theorem d_M_delete_36 : decode c_M_delete 36 = .ok (.ireturn, 1) := by decide +kernel
theorem d_M_delete_37 : decode c_M_delete 37 = .ok (.aload_n 0, 1) := by decide +kernel
theorem d_M_delete_38 : decode c_M_delete 38 = .ok (.getfield 32, 3) := by decide +kernel
theorem d_M_delete_41 : decode c_M_delete 41 = .ok (.iload_n 1, 1) := by decide +kernel
theorem d_M_delete_42 : decode c_M_delete 42 = .ok (.iconst 0, 1) := by decide +kernel
theorem d_M_delete_43 : decode c_M_delete 43 = .ok (.bastore, 1) := by decide +kernel
theorem d_M_delete_44 : decode c_M_delete 44 = .ok (.iconst 1, 1) := by decide +kernel
theorem d_M_delete_45 : decode c_M_delete 45 = .ok (.ireturn, 1) := by decide +kernel
abbrev c_M_slotAt : ByteArray := prog_9_method_26_code
abbrev y_M_slotAt : MethodName := ⟨"BlobStoreModel", "slotAt", "(II)I"⟩
theorem i_M_slotAt : bIs y_M_slotAt 3 := Or.inl ⟨_, _, t4_22⟩
theorem d_M_slotAt_0 : decode c_M_slotAt 0 = .ok (.aload_n 0, 1) := by decide +kernel
theorem d_M_slotAt_1 : decode c_M_slotAt 1 = .ok (.getfield 44, 3) := by decide +kernel
theorem d_M_slotAt_4 : decode c_M_slotAt 4 = .ok (.bipush 18, 2) := by decide +kernel
theorem d_M_slotAt_6 : decode c_M_slotAt 6 = .ok (.iload_n 1, 1) := by decide +kernel
theorem d_M_slotAt_7 : decode c_M_slotAt 7 = .ok (.iconst 1, 1) := by decide +kernel
theorem d_M_slotAt_8 : decode c_M_slotAt 8 = .ok (.isub, 1) := by decide +kernel
theorem d_M_slotAt_9 : decode c_M_slotAt 9 = .ok (.imul, 1) := by decide +kernel
theorem d_M_slotAt_10 : decode c_M_slotAt 10 = .ok (.iload_n 2, 1) := by decide +kernel
theorem d_M_slotAt_11 : decode c_M_slotAt 11 = .ok (.iadd, 1) := by decide +kernel
theorem d_M_slotAt_12 : decode c_M_slotAt 12 = .ok (.iaload, 1) := by decide +kernel
theorem d_M_slotAt_13 : decode c_M_slotAt 13 = .ok (.ireturn, 1) := by decide +kernel
abbrev c_M_need : ByteArray := prog_9_method_27_code
abbrev y_M_need : MethodName := ⟨"BlobStoreModel", "need", "(I)I"⟩
theorem i_M_need : bIs y_M_need 5 := Or.inl ⟨_, _, t4_18⟩
theorem d_M_need_0 : decode c_M_need 0 = .ok (.iconst 0, 1) := by decide +kernel
theorem d_M_need_1 : decode c_M_need 1 = .ok (.istore_n 2, 1) := by decide +kernel
theorem d_M_need_2 : decode c_M_need 2 = .ok (.iconst 0, 1) := by decide +kernel
theorem d_M_need_3 : decode c_M_need 3 = .ok (.istore_n 3, 1) := by decide +kernel
theorem d_M_need_4 : decode c_M_need 4 = .ok (.iload_n 3, 1) := by decide +kernel
theorem d_M_need_5 : decode c_M_need 5 = .ok (.bipush 35, 2) := by decide +kernel
theorem d_M_need_7 : decode c_M_need 7 = .ok (.if_icmp .ge 64, 3) := by decide +kernel
theorem d_M_need_10 : decode c_M_need 10 = .ok (.iconst 0, 1) := by decide +kernel
theorem d_M_need_11 : decode c_M_need 11 = .ok (.istore 4, 2) := by decide +kernel
theorem d_M_need_13 : decode c_M_need 13 = .ok (.aload_n 0, 1) := by decide +kernel
theorem d_M_need_14 : decode c_M_need 14 = .ok (.getfield 16, 3) := by decide +kernel
theorem d_M_need_17 : decode c_M_need 17 = .ok (.iload_n 3, 1) := by decide +kernel
theorem d_M_need_18 : decode c_M_need 18 = .ok (.bipush 7, 2) := by decide +kernel
theorem d_M_need_20 : decode c_M_need 20 = .ok (.idiv, 1) := by decide +kernel
theorem d_M_need_21 : decode c_M_need 21 = .ok (.baload, 1) := by decide +kernel
theorem d_M_need_22 : decode c_M_need 22 = .ok (.ifCond .eq 43, 3) := by decide +kernel
theorem d_M_need_25 : decode c_M_need 25 = .ok (.iload 4, 2) := by decide +kernel
theorem d_M_need_27 : decode c_M_need 27 = .ok (.aload_n 0, 1) := by decide +kernel
theorem d_M_need_28 : decode c_M_need 28 = .ok (.getfield 26, 3) := by decide +kernel
theorem d_M_need_31 : decode c_M_need 31 = .ok (.iload_n 3, 1) := by decide +kernel
theorem d_M_need_32 : decode c_M_need 32 = .ok (.iaload, 1) := by decide +kernel
theorem d_M_need_33 : decode c_M_need 33 = .ok (.if_icmp .ge 32, 3) := by decide +kernel
theorem d_M_need_36 : decode c_M_need 36 = .ok (.iload_n 2, 1) := by decide +kernel
theorem d_M_need_37 : decode c_M_need 37 = .ok (.aload_n 0, 1) := by decide +kernel
theorem d_M_need_38 : decode c_M_need 38 = .ok (.getfield 29, 3) := by decide +kernel
theorem d_M_need_41 : decode c_M_need 41 = .ok (.iconst 3, 1) := by decide +kernel
theorem d_M_need_42 : decode c_M_need 42 = .ok (.iload_n 3, 1) := by decide +kernel
theorem d_M_need_43 : decode c_M_need 43 = .ok (.imul, 1) := by decide +kernel
theorem d_M_need_44 : decode c_M_need 44 = .ok (.iload 4, 2) := by decide +kernel
theorem d_M_need_46 : decode c_M_need 46 = .ok (.iadd, 1) := by decide +kernel
theorem d_M_need_47 : decode c_M_need 47 = .ok (.iaload, 1) := by decide +kernel
theorem d_M_need_48 : decode c_M_need 48 = .ok (.iload_n 1, 1) := by decide +kernel
theorem d_M_need_49 : decode c_M_need 49 = .ok (.if_icmp .ne 7, 3) := by decide +kernel
theorem d_M_need_52 : decode c_M_need 52 = .ok (.iconst 1, 1) := by decide +kernel
theorem d_M_need_53 : decode c_M_need 53 = .ok (.goto 4, 3) := by decide +kernel
theorem d_M_need_56 : decode c_M_need 56 = .ok (.iconst 0, 1) := by decide +kernel
theorem d_M_need_57 : decode c_M_need 57 = .ok (.iadd, 1) := by decide +kernel
theorem d_M_need_58 : decode c_M_need 58 = .ok (.istore_n 2, 1) := by decide +kernel
theorem d_M_need_59 : decode c_M_need 59 = .ok (.iinc 4 1, 3) := by decide +kernel
theorem d_M_need_62 : decode c_M_need 62 = .ok (.goto (-49), 3) := by decide +kernel
theorem d_M_need_65 : decode c_M_need 65 = .ok (.iinc 3 1, 3) := by decide +kernel
theorem d_M_need_68 : decode c_M_need 68 = .ok (.goto (-64), 3) := by decide +kernel
theorem d_M_need_71 : decode c_M_need 71 = .ok (.iconst 1, 1) := by decide +kernel
theorem d_M_need_72 : decode c_M_need 72 = .ok (.istore_n 3, 1) := by decide +kernel
theorem d_M_need_73 : decode c_M_need 73 = .ok (.iload_n 3, 1) := by decide +kernel
theorem d_M_need_74 : decode c_M_need 74 = .ok (.aload_n 0, 1) := by decide +kernel
theorem d_M_need_75 : decode c_M_need 75 = .ok (.getfield 135, 3) := by decide +kernel
theorem d_M_need_78 : decode c_M_need 78 = .ok (.if_icmp .gt 57, 3) := by decide +kernel
theorem d_M_need_81 : decode c_M_need 81 = .ok (.iconst 0, 1) := by decide +kernel
theorem d_M_need_82 : decode c_M_need 82 = .ok (.istore 4, 2) := by decide +kernel
theorem d_M_need_84 : decode c_M_need 84 = .ok (.aload_n 0, 1) := by decide +kernel
theorem d_M_need_85 : decode c_M_need 85 = .ok (.getfield 32, 3) := by decide +kernel
theorem d_M_need_88 : decode c_M_need 88 = .ok (.iload_n 3, 1) := by decide +kernel
theorem d_M_need_89 : decode c_M_need 89 = .ok (.baload, 1) := by decide +kernel
theorem d_M_need_90 : decode c_M_need 90 = .ok (.ifCond .eq 39, 3) := by decide +kernel
theorem d_M_need_93 : decode c_M_need 93 = .ok (.iload 4, 2) := by decide +kernel
theorem d_M_need_95 : decode c_M_need 95 = .ok (.aload_n 0, 1) := by decide +kernel
theorem d_M_need_96 : decode c_M_need 96 = .ok (.getfield 41, 3) := by decide +kernel
theorem d_M_need_99 : decode c_M_need 99 = .ok (.iload_n 3, 1) := by decide +kernel
theorem d_M_need_100 : decode c_M_need 100 = .ok (.iaload, 1) := by decide +kernel
theorem d_M_need_101 : decode c_M_need 101 = .ok (.if_icmp .ge 28, 3) := by decide +kernel
theorem d_M_need_104 : decode c_M_need 104 = .ok (.iload_n 2, 1) := by decide +kernel
theorem d_M_need_105 : decode c_M_need 105 = .ok (.aload_n 0, 1) := by decide +kernel
theorem d_M_need_106 : decode c_M_need 106 = .ok (.iload_n 3, 1) := by decide +kernel
theorem d_M_need_107 : decode c_M_need 107 = .ok (.iload 4, 2) := by decide +kernel
theorem d_M_need_109 : decode c_M_need 109 = .ok (.invokevirtual 141, 3) := by decide +kernel
theorem d_M_need_112 : decode c_M_need 112 = .ok (.iload_n 1, 1) := by decide +kernel
theorem d_M_need_113 : decode c_M_need 113 = .ok (.if_icmp .ne 7, 3) := by decide +kernel
theorem d_M_need_116 : decode c_M_need 116 = .ok (.iconst 1, 1) := by decide +kernel
theorem d_M_need_117 : decode c_M_need 117 = .ok (.goto 4, 3) := by decide +kernel
theorem d_M_need_120 : decode c_M_need 120 = .ok (.iconst 0, 1) := by decide +kernel
theorem d_M_need_121 : decode c_M_need 121 = .ok (.iadd, 1) := by decide +kernel
theorem d_M_need_122 : decode c_M_need 122 = .ok (.istore_n 2, 1) := by decide +kernel
theorem d_M_need_123 : decode c_M_need 123 = .ok (.iinc 4 1, 3) := by decide +kernel
theorem d_M_need_126 : decode c_M_need 126 = .ok (.goto (-42), 3) := by decide +kernel
theorem d_M_need_129 : decode c_M_need 129 = .ok (.iinc 3 1, 3) := by decide +kernel
theorem d_M_need_132 : decode c_M_need 132 = .ok (.goto (-59), 3) := by decide +kernel
theorem d_M_need_135 : decode c_M_need 135 = .ok (.iload_n 2, 1) := by decide +kernel
theorem d_M_need_136 : decode c_M_need 136 = .ok (.ireturn, 1) := by decide +kernel
abbrev c_M_collect : ByteArray := prog_9_method_28_code
abbrev y_M_collect : MethodName := ⟨"BlobStoreModel", "collect", "()I"⟩
theorem i_M_collect : bIs y_M_collect 3 := Or.inl ⟨_, _, t4_14⟩
theorem d_M_collect_0 : decode c_M_collect 0 = .ok (.aload_n 0, 1) := by decide +kernel
theorem d_M_collect_1 : decode c_M_collect 1 = .ok (.aload_n 0, 1) := by decide +kernel
theorem d_M_collect_2 : decode c_M_collect 2 = .ok (.getfield 87, 3) := by decide +kernel
theorem d_M_collect_5 : decode c_M_collect 5 = .ok (.ifCond .eq 7, 3) := by decide +kernel
theorem d_M_collect_8 : decode c_M_collect 8 = .ok (.iconst 1, 1) := by decide +kernel
theorem d_M_collect_9 : decode c_M_collect 9 = .ok (.goto 4, 3) := by decide +kernel
theorem d_M_collect_12 : decode c_M_collect 12 = .ok (.iconst 0, 1) := by decide +kernel
theorem d_M_collect_13 : decode c_M_collect 13 = .ok (.invokevirtual 112, 3) := by decide +kernel
theorem d_M_collect_16 : decode c_M_collect 16 = .ok (.ifCond .ne 5, 3) := by decide +kernel
theorem d_M_collect_19 : decode c_M_collect 19 = .ok (.iconst 0, 1) := by decide +kernel
theorem d_M_collect_20 : decode c_M_collect 20 = .ok (.ireturn, 1) := by decide +kernel
theorem d_M_collect_21 : decode c_M_collect 21 = .ok (.iconst 0, 1) := by decide +kernel
theorem d_M_collect_22 : decode c_M_collect 22 = .ok (.istore_n 1, 1) := by decide +kernel
theorem d_M_collect_23 : decode c_M_collect 23 = .ok (.iconst 0, 1) := by decide +kernel
theorem d_M_collect_24 : decode c_M_collect 24 = .ok (.istore_n 2, 1) := by decide +kernel
theorem d_M_collect_25 : decode c_M_collect 25 = .ok (.iload_n 2, 1) := by decide +kernel
theorem d_M_collect_26 : decode c_M_collect 26 = .ok (.bipush 48, 2) := by decide +kernel
theorem d_M_collect_28 : decode c_M_collect 28 = .ok (.if_icmp .ge 49, 3) := by decide +kernel
theorem d_M_collect_31 : decode c_M_collect 31 = .ok (.aload_n 0, 1) := by decide +kernel
theorem d_M_collect_32 : decode c_M_collect 32 = .ok (.getfield 7, 3) := by decide +kernel
theorem d_M_collect_35 : decode c_M_collect 35 = .ok (.iload_n 2, 1) := by decide +kernel
theorem d_M_collect_36 : decode c_M_collect 36 = .ok (.iaload, 1) := by decide +kernel
theorem d_M_collect_37 : decode c_M_collect 37 = .ok (.ifCond .eq 34, 3) := by decide +kernel
theorem d_M_collect_40 : decode c_M_collect 40 = .ok (.aload_n 0, 1) := by decide +kernel
theorem d_M_collect_41 : decode c_M_collect 41 = .ok (.iload_n 2, 1) := by decide +kernel
theorem d_M_collect_42 : decode c_M_collect 42 = .ok (.invokevirtual 144, 3) := by decide +kernel
theorem d_M_collect_45 : decode c_M_collect 45 = .ok (.ifCond .le 6, 3) := by decide +kernel
theorem d_M_collect_48 : decode c_M_collect 48 = .ok (.goto 23, 3) := by decide +kernel
theorem d_M_collect_51 : decode c_M_collect 51 = .ok (.aload_n 0, 1) := by decide +kernel
theorem d_M_collect_52 : decode c_M_collect 52 = .ok (.iconst 2, 1) := by decide +kernel
theorem d_M_collect_53 : decode c_M_collect 53 = .ok (.invokevirtual 115, 3) := by decide +kernel
theorem d_M_collect_56 : decode c_M_collect 56 = .ok (.ifCond .ne 5, 3) := by decide +kernel
theorem d_M_collect_59 : decode c_M_collect 59 = .ok (.iconst 0, 1) := by decide +kernel
theorem d_M_collect_60 : decode c_M_collect 60 = .ok (.ireturn, 1) := by decide +kernel
theorem d_M_collect_61 : decode c_M_collect 61 = .ok (.aload_n 0, 1) := by decide +kernel
theorem d_M_collect_62 : decode c_M_collect 62 = .ok (.getfield 7, 3) := by decide +kernel
theorem d_M_collect_65 : decode c_M_collect 65 = .ok (.iload_n 2, 1) := by decide +kernel
theorem d_M_collect_66 : decode c_M_collect 66 = .ok (.iconst 0, 1) := by decide +kernel
theorem d_M_collect_67 : decode c_M_collect 67 = .ok (.iastore, 1) := by decide +kernel
theorem d_M_collect_68 : decode c_M_collect 68 = .ok (.iinc 1 1, 3) := by decide +kernel
theorem d_M_collect_71 : decode c_M_collect 71 = .ok (.iinc 2 1, 3) := by decide +kernel
theorem d_M_collect_74 : decode c_M_collect 74 = .ok (.goto (-49), 3) := by decide +kernel
theorem d_M_collect_77 : decode c_M_collect 77 = .ok (.iload_n 1, 1) := by decide +kernel
theorem d_M_collect_78 : decode c_M_collect 78 = .ok (.ireturn, 1) := by decide +kernel
abbrev c_M_cutAfter : ByteArray := prog_9_method_29_code
abbrev y_M_cutAfter : MethodName := ⟨"BlobStoreModel", "cutAfter", "(I)V"⟩
theorem i_M_cutAfter : bIs y_M_cutAfter 2 := Or.inl ⟨_, _, t4_26⟩
theorem d_M_cutAfter_0 : decode c_M_cutAfter 0 = .ok (.aload_n 0, 1) := by decide +kernel
theorem d_M_cutAfter_1 : decode c_M_cutAfter 1 = .ok (.iload_n 1, 1) := by decide +kernel
theorem d_M_cutAfter_2 : decode c_M_cutAfter 2 = .ok (.iconst 0, 1) := by decide +kernel
theorem d_M_cutAfter_3 : decode c_M_cutAfter 3 = .ok (.sipush 1000, 3) := by decide +kernel
theorem d_M_cutAfter_6 : decode c_M_cutAfter 6 = .ok (.invokestatic 109, 3) := by decide +kernel
theorem d_M_cutAfter_9 : decode c_M_cutAfter 9 = .ok (.ifCond .eq 7, 3) := by decide +kernel
theorem d_M_cutAfter_12 : decode c_M_cutAfter 12 = .ok (.iconst 0, 1) := by decide +kernel
theorem d_M_cutAfter_13 : decode c_M_cutAfter 13 = .ok (.goto 4, 3) := by decide +kernel
theorem d_M_cutAfter_16 : decode c_M_cutAfter 16 = .ok (.iconst 1, 1) := by decide +kernel
theorem d_M_cutAfter_17 : decode c_M_cutAfter 17 = .ok (.invokevirtual 112, 3) := by decide +kernel
theorem d_M_cutAfter_20 : decode c_M_cutAfter 20 = .ok (.ifCond .eq 8, 3) := by decide +kernel
theorem d_M_cutAfter_23 : decode c_M_cutAfter 23 = .ok (.aload_n 0, 1) := by decide +kernel
theorem d_M_cutAfter_24 : decode c_M_cutAfter 24 = .ok (.iload_n 1, 1) := by decide +kernel
theorem d_M_cutAfter_25 : decode c_M_cutAfter 25 = .ok (.putfield 47, 3) := by decide +kernel
theorem d_M_cutAfter_28 : decode c_M_cutAfter 28 = .ok (.return_, 1) := by decide +kernel
abbrev c_M_recover : ByteArray := prog_9_method_30_code
abbrev y_M_recover : MethodName := ⟨"BlobStoreModel", "recover", "()Z"⟩
theorem i_M_recover : bIs y_M_recover 2 := Or.inl ⟨_, _, t4_30⟩
theorem d_M_recover_0 : decode c_M_recover 0 = .ok (.aload_n 0, 1) := by decide +kernel
theorem d_M_recover_1 : decode c_M_recover 1 = .ok (.iconst 0, 1) := by decide +kernel
theorem d_M_recover_2 : decode c_M_recover 2 = .ok (.putfield 75, 3) := by decide +kernel
theorem d_M_recover_5 : decode c_M_recover 5 = .ok (.aload_n 0, 1) := by decide +kernel
theorem d_M_recover_6 : decode c_M_recover 6 = .ok (.getfield 87, 3) := by decide +kernel
theorem d_M_recover_9 : decode c_M_recover 9 = .ok (.istore_n 1, 1) := by decide +kernel
theorem d_M_recover_10 : decode c_M_recover 10 = .ok (.aload_n 0, 1) := by decide +kernel
theorem d_M_recover_11 : decode c_M_recover 11 = .ok (.getfield 87, 3) := by decide +kernel
theorem d_M_recover_14 : decode c_M_recover 14 = .ok (.ifCond .eq 8, 3) := by decide +kernel
theorem d_M_recover_17 : decode c_M_recover 17 = .ok (.aload_n 0, 1) := by decide +kernel
theorem d_M_recover_18 : decode c_M_recover 18 = .ok (.iconst (-1), 1) := by decide +kernel
theorem d_M_recover_19 : decode c_M_recover 19 = .ok (.putfield 47, 3) := by decide +kernel
theorem d_M_recover_22 : decode c_M_recover 22 = .ok (.aload_n 0, 1) := by decide +kernel
theorem d_M_recover_23 : decode c_M_recover 23 = .ok (.iconst 0, 1) := by decide +kernel
theorem d_M_recover_24 : decode c_M_recover 24 = .ok (.putfield 87, 3) := by decide +kernel
theorem d_M_recover_27 : decode c_M_recover 27 = .ok (.iload_n 1, 1) := by decide +kernel
theorem d_M_recover_28 : decode c_M_recover 28 = .ok (.ireturn, 1) := by decide +kernel
abbrev c_M_latest : ByteArray := prog_9_method_31_code
abbrev y_M_latest : MethodName := ⟨"BlobStoreModel", "latest", "(II)I"⟩
theorem i_M_latest : bIs y_M_latest 4 := Or.inl ⟨_, _, t4_34⟩
theorem d_M_latest_0 : decode c_M_latest 0 = .ok (.aload_n 0, 1) := by decide +kernel
theorem d_M_latest_1 : decode c_M_latest 1 = .ok (.iconst 0, 1) := by decide +kernel
theorem d_M_latest_2 : decode c_M_latest 2 = .ok (.putfield 75, 3) := by decide +kernel
theorem d_M_latest_5 : decode c_M_latest 5 = .ok (.aload_n 0, 1) := by decide +kernel
theorem d_M_latest_6 : decode c_M_latest 6 = .ok (.getfield 135, 3) := by decide +kernel
theorem d_M_latest_9 : decode c_M_latest 9 = .ok (.istore_n 3, 1) := by decide +kernel
theorem d_M_latest_10 : decode c_M_latest 10 = .ok (.iload_n 3, 1) := by decide +kernel
theorem d_M_latest_11 : decode c_M_latest 11 = .ok (.ifCond .le 40, 3) := by decide +kernel
theorem d_M_latest_14 : decode c_M_latest 14 = .ok (.aload_n 0, 1) := by decide +kernel
theorem d_M_latest_15 : decode c_M_latest 15 = .ok (.getfield 32, 3) := by decide +kernel
theorem d_M_latest_18 : decode c_M_latest 18 = .ok (.iload_n 3, 1) := by decide +kernel
theorem d_M_latest_19 : decode c_M_latest 19 = .ok (.baload, 1) := by decide +kernel
theorem d_M_latest_20 : decode c_M_latest 20 = .ok (.ifCond .eq 25, 3) := by decide +kernel
theorem d_M_latest_23 : decode c_M_latest 23 = .ok (.aload_n 0, 1) := by decide +kernel
theorem d_M_latest_24 : decode c_M_latest 24 = .ok (.getfield 35, 3) := by decide +kernel
theorem d_M_latest_27 : decode c_M_latest 27 = .ok (.iload_n 3, 1) := by decide +kernel
theorem d_M_latest_28 : decode c_M_latest 28 = .ok (.iaload, 1) := by decide +kernel
theorem d_M_latest_29 : decode c_M_latest 29 = .ok (.iload_n 1, 1) := by decide +kernel
theorem d_M_latest_30 : decode c_M_latest 30 = .ok (.if_icmp .ne 15, 3) := by decide +kernel
theorem d_M_latest_33 : decode c_M_latest 33 = .ok (.aload_n 0, 1) := by decide +kernel
theorem d_M_latest_34 : decode c_M_latest 34 = .ok (.getfield 38, 3) := by decide +kernel
theorem d_M_latest_37 : decode c_M_latest 37 = .ok (.iload_n 3, 1) := by decide +kernel
theorem d_M_latest_38 : decode c_M_latest 38 = .ok (.iaload, 1) := by decide +kernel
theorem d_M_latest_39 : decode c_M_latest 39 = .ok (.iload_n 2, 1) := by decide +kernel
theorem d_M_latest_40 : decode c_M_latest 40 = .ok (.if_icmp .ne 5, 3) := by decide +kernel
theorem d_M_latest_43 : decode c_M_latest 43 = .ok (.iload_n 3, 1) := by decide +kernel
theorem d_M_latest_44 : decode c_M_latest 44 = .ok (.ireturn, 1) := by decide +kernel
theorem d_M_latest_45 : decode c_M_latest 45 = .ok (.iinc 3 (-1), 3) := by decide +kernel
theorem d_M_latest_48 : decode c_M_latest 48 = .ok (.goto (-38), 3) := by decide +kernel
theorem d_M_latest_51 : decode c_M_latest 51 = .ok (.iconst 0, 1) := by decide +kernel
theorem d_M_latest_52 : decode c_M_latest 52 = .ok (.ireturn, 1) := by decide +kernel
abbrev c_M_size : ByteArray := prog_9_method_32_code
abbrev y_M_size : MethodName := ⟨"BlobStoreModel", "size", "(I)I"⟩
theorem i_M_size : bIs y_M_size 4 := Or.inl ⟨_, _, t4_38⟩
theorem d_M_size_0 : decode c_M_size 0 = .ok (.aload_n 0, 1) := by decide +kernel
theorem d_M_size_1 : decode c_M_size 1 = .ok (.iconst 0, 1) := by decide +kernel
theorem d_M_size_2 : decode c_M_size 2 = .ok (.putfield 75, 3) := by decide +kernel
theorem d_M_size_5 : decode c_M_size 5 = .ok (.aload_n 0, 1) := by decide +kernel
theorem d_M_size_6 : decode c_M_size 6 = .ok (.iload_n 1, 1) := by decide +kernel
theorem d_M_size_7 : decode c_M_size 7 = .ok (.invokevirtual 138, 3) := by decide +kernel
theorem d_M_size_10 : decode c_M_size 10 = .ok (.ifCond .ne 5, 3) := by decide +kernel
theorem d_M_size_13 : decode c_M_size 13 = .ok (.iconst (-1), 1) := by decide +kernel
theorem d_M_size_14 : decode c_M_size 14 = .ok (.ireturn, 1) := by decide +kernel
theorem d_M_size_15 : decode c_M_size 15 = .ok (.iconst 0, 1) := by decide +kernel
theorem d_M_size_16 : decode c_M_size 16 = .ok (.istore_n 2, 1) := by decide +kernel
theorem d_M_size_17 : decode c_M_size 17 = .ok (.iconst 0, 1) := by decide +kernel
theorem d_M_size_18 : decode c_M_size 18 = .ok (.istore_n 3, 1) := by decide +kernel
theorem d_M_size_19 : decode c_M_size 19 = .ok (.iload_n 3, 1) := by decide +kernel
theorem d_M_size_20 : decode c_M_size 20 = .ok (.aload_n 0, 1) := by decide +kernel
theorem d_M_size_21 : decode c_M_size 21 = .ok (.getfield 41, 3) := by decide +kernel
theorem d_M_size_24 : decode c_M_size 24 = .ok (.iload_n 1, 1) := by decide +kernel
theorem d_M_size_25 : decode c_M_size 25 = .ok (.iaload, 1) := by decide +kernel
theorem d_M_size_26 : decode c_M_size 26 = .ok (.if_icmp .ge 23, 3) := by decide +kernel
theorem d_M_size_29 : decode c_M_size 29 = .ok (.iload_n 2, 1) := by decide +kernel
theorem d_M_size_30 : decode c_M_size 30 = .ok (.aload_n 0, 1) := by decide +kernel
theorem d_M_size_31 : decode c_M_size 31 = .ok (.getfield 7, 3) := by decide +kernel
theorem d_M_size_34 : decode c_M_size 34 = .ok (.aload_n 0, 1) := by decide +kernel
theorem d_M_size_35 : decode c_M_size 35 = .ok (.iload_n 1, 1) := by decide +kernel
theorem d_M_size_36 : decode c_M_size 36 = .ok (.iload_n 3, 1) := by decide +kernel
theorem d_M_size_37 : decode c_M_size 37 = .ok (.invokevirtual 141, 3) := by decide +kernel
theorem d_M_size_40 : decode c_M_size 40 = .ok (.iaload, 1) := by decide +kernel
theorem d_M_size_41 : decode c_M_size 41 = .ok (.iadd, 1) := by decide +kernel
theorem d_M_size_42 : decode c_M_size 42 = .ok (.istore_n 2, 1) := by decide +kernel
theorem d_M_size_43 : decode c_M_size 43 = .ok (.iinc 3 1, 3) := by decide +kernel
theorem d_M_size_46 : decode c_M_size 46 = .ok (.goto (-27), 3) := by decide +kernel
theorem d_M_size_49 : decode c_M_size 49 = .ok (.iload_n 2, 1) := by decide +kernel
theorem d_M_size_50 : decode c_M_size 50 = .ok (.ireturn, 1) := by decide +kernel
abbrev c_M_byteAt : ByteArray := prog_9_method_33_code
abbrev y_M_byteAt : MethodName := ⟨"BlobStoreModel", "byteAt", "(II)I"⟩
theorem i_M_byteAt : bIs y_M_byteAt 6 := Or.inl ⟨_, _, t4_42⟩
theorem d_M_byteAt_0 : decode c_M_byteAt 0 = .ok (.aload_n 0, 1) := by decide +kernel
theorem d_M_byteAt_1 : decode c_M_byteAt 1 = .ok (.iconst 0, 1) := by decide +kernel
theorem d_M_byteAt_2 : decode c_M_byteAt 2 = .ok (.putfield 75, 3) := by decide +kernel
theorem d_M_byteAt_5 : decode c_M_byteAt 5 = .ok (.aload_n 0, 1) := by decide +kernel
theorem d_M_byteAt_6 : decode c_M_byteAt 6 = .ok (.iload_n 1, 1) := by decide +kernel
theorem d_M_byteAt_7 : decode c_M_byteAt 7 = .ok (.invokevirtual 138, 3) := by decide +kernel
theorem d_M_byteAt_10 : decode c_M_byteAt 10 = .ok (.ifCond .eq 7, 3) := by decide +kernel
theorem d_M_byteAt_13 : decode c_M_byteAt 13 = .ok (.iload_n 2, 1) := by decide +kernel
theorem d_M_byteAt_14 : decode c_M_byteAt 14 = .ok (.ifCond .ge 5, 3) := by decide +kernel
theorem d_M_byteAt_17 : decode c_M_byteAt 17 = .ok (.iconst (-1), 1) := by decide +kernel
theorem d_M_byteAt_18 : decode c_M_byteAt 18 = .ok (.ireturn, 1) := by decide +kernel
theorem d_M_byteAt_19 : decode c_M_byteAt 19 = .ok (.iload_n 2, 1) := by decide +kernel
theorem d_M_byteAt_20 : decode c_M_byteAt 20 = .ok (.istore_n 3, 1) := by decide +kernel
theorem d_M_byteAt_21 : decode c_M_byteAt 21 = .ok (.iconst 0, 1) := by decide +kernel
theorem d_M_byteAt_22 : decode c_M_byteAt 22 = .ok (.istore 4, 2) := by decide +kernel
theorem d_M_byteAt_24 : decode c_M_byteAt 24 = .ok (.iload 4, 2) := by decide +kernel
theorem d_M_byteAt_26 : decode c_M_byteAt 26 = .ok (.aload_n 0, 1) := by decide +kernel
theorem d_M_byteAt_27 : decode c_M_byteAt 27 = .ok (.getfield 41, 3) := by decide +kernel
theorem d_M_byteAt_30 : decode c_M_byteAt 30 = .ok (.iload_n 1, 1) := by decide +kernel
theorem d_M_byteAt_31 : decode c_M_byteAt 31 = .ok (.iaload, 1) := by decide +kernel
theorem d_M_byteAt_32 : decode c_M_byteAt 32 = .ok (.if_icmp .ge 52, 3) := by decide +kernel
theorem d_M_byteAt_35 : decode c_M_byteAt 35 = .ok (.aload_n 0, 1) := by decide +kernel
theorem d_M_byteAt_36 : decode c_M_byteAt 36 = .ok (.iload_n 1, 1) := by decide +kernel
theorem d_M_byteAt_37 : decode c_M_byteAt 37 = .ok (.iload 4, 2) := by decide +kernel
theorem d_M_byteAt_39 : decode c_M_byteAt 39 = .ok (.invokevirtual 141, 3) := by decide +kernel
theorem d_M_byteAt_42 : decode c_M_byteAt 42 = .ok (.istore 5, 2) := by decide +kernel
theorem d_M_byteAt_44 : decode c_M_byteAt 44 = .ok (.iload_n 3, 1) := by decide +kernel
theorem d_M_byteAt_45 : decode c_M_byteAt 45 = .ok (.aload_n 0, 1) := by decide +kernel
theorem d_M_byteAt_46 : decode c_M_byteAt 46 = .ok (.getfield 7, 3) := by decide +kernel
theorem d_M_byteAt_49 : decode c_M_byteAt 49 = .ok (.iload 5, 2) := by decide +kernel
theorem d_M_byteAt_51 : decode c_M_byteAt 51 = .ok (.iaload, 1) := by decide +kernel
theorem d_M_byteAt_52 : decode c_M_byteAt 52 = .ok (.if_icmp .ge 16, 3) := by decide +kernel
theorem d_M_byteAt_55 : decode c_M_byteAt 55 = .ok (.aload_n 0, 1) := by decide +kernel
theorem d_M_byteAt_56 : decode c_M_byteAt 56 = .ok (.getfield 13, 3) := by decide +kernel
theorem d_M_byteAt_59 : decode c_M_byteAt 59 = .ok (.bipush 8, 2) := by decide +kernel
theorem d_M_byteAt_61 : decode c_M_byteAt 61 = .ok (.iload 5, 2) := by decide +kernel
theorem d_M_byteAt_63 : decode c_M_byteAt 63 = .ok (.imul, 1) := by decide +kernel
theorem d_M_byteAt_64 : decode c_M_byteAt 64 = .ok (.iload_n 3, 1) := by decide +kernel
theorem d_M_byteAt_65 : decode c_M_byteAt 65 = .ok (.iadd, 1) := by decide +kernel
theorem d_M_byteAt_66 : decode c_M_byteAt 66 = .ok (.iaload, 1) := by decide +kernel
theorem d_M_byteAt_67 : decode c_M_byteAt 67 = .ok (.ireturn, 1) := by decide +kernel
theorem d_M_byteAt_68 : decode c_M_byteAt 68 = .ok (.iload_n 3, 1) := by decide +kernel
theorem d_M_byteAt_69 : decode c_M_byteAt 69 = .ok (.aload_n 0, 1) := by decide +kernel
theorem d_M_byteAt_70 : decode c_M_byteAt 70 = .ok (.getfield 7, 3) := by decide +kernel
theorem d_M_byteAt_73 : decode c_M_byteAt 73 = .ok (.iload 5, 2) := by decide +kernel
theorem d_M_byteAt_75 : decode c_M_byteAt 75 = .ok (.iaload, 1) := by decide +kernel
theorem d_M_byteAt_76 : decode c_M_byteAt 76 = .ok (.isub, 1) := by decide +kernel
theorem d_M_byteAt_77 : decode c_M_byteAt 77 = .ok (.istore_n 3, 1) := by decide +kernel
theorem d_M_byteAt_78 : decode c_M_byteAt 78 = .ok (.iinc 4 1, 3) := by decide +kernel
theorem d_M_byteAt_81 : decode c_M_byteAt 81 = .ok (.goto (-57), 3) := by decide +kernel
theorem d_M_byteAt_84 : decode c_M_byteAt 84 = .ok (.iconst (-1), 1) := by decide +kernel
theorem d_M_byteAt_85 : decode c_M_byteAt 85 = .ok (.ireturn, 1) := by decide +kernel
abbrev c_M_hasChunk : ByteArray := prog_9_method_34_code
abbrev y_M_hasChunk : MethodName := ⟨"BlobStoreModel", "hasChunk", "(I)Z"⟩
theorem i_M_hasChunk : bIs y_M_hasChunk 2 := Or.inl ⟨_, _, t4_50⟩
theorem d_M_hasChunk_0 : decode c_M_hasChunk 0 = .ok (.iload_n 1, 1) := by decide +kernel
theorem d_M_hasChunk_1 : decode c_M_hasChunk 1 = .ok (.iconst 0, 1) := by decide +kernel
theorem d_M_hasChunk_2 : decode c_M_hasChunk 2 = .ok (.bipush 47, 2) := by decide +kernel
theorem d_M_hasChunk_4 : decode c_M_hasChunk 4 = .ok (.invokestatic 109, 3) := by decide +kernel
theorem d_M_hasChunk_7 : decode c_M_hasChunk 7 = .ok (.ifCond .eq 16, 3) := by decide +kernel
theorem d_M_hasChunk_10 : decode c_M_hasChunk 10 = .ok (.aload_n 0, 1) := by decide +kernel
theorem d_M_hasChunk_11 : decode c_M_hasChunk 11 = .ok (.getfield 7, 3) := by decide +kernel
theorem d_M_hasChunk_14 : decode c_M_hasChunk 14 = .ok (.iload_n 1, 1) := by decide +kernel
theorem d_M_hasChunk_15 : decode c_M_hasChunk 15 = .ok (.iaload, 1) := by decide +kernel
theorem d_M_hasChunk_16 : decode c_M_hasChunk 16 = .ok (.ifCond .le 7, 3) := by decide +kernel
theorem d_M_hasChunk_19 : decode c_M_hasChunk 19 = .ok (.iconst 1, 1) := by decide +kernel
theorem d_M_hasChunk_20 : decode c_M_hasChunk 20 = .ok (.goto 4, 3) := by decide +kernel
theorem d_M_hasChunk_23 : decode c_M_hasChunk 23 = .ok (.iconst 0, 1) := by decide +kernel
theorem d_M_hasChunk_24 : decode c_M_hasChunk 24 = .ok (.ireturn, 1) := by decide +kernel
abbrev c_M_address : ByteArray := prog_9_method_35_code
abbrev y_M_address : MethodName := ⟨"BlobStoreModel", "address", "(II)I"⟩
theorem i_M_address : bIs y_M_address 3 := Or.inl ⟨_, _, t4_46⟩
theorem d_M_address_0 : decode c_M_address 0 = .ok (.aload_n 0, 1) := by decide +kernel
theorem d_M_address_1 : decode c_M_address 1 = .ok (.aload_n 0, 1) := by decide +kernel
theorem d_M_address_2 : decode c_M_address 2 = .ok (.iload_n 1, 1) := by decide +kernel
theorem d_M_address_3 : decode c_M_address 3 = .ok (.invokevirtual 147, 3) := by decide +kernel
theorem d_M_address_6 : decode c_M_address 6 = .ok (.ifCond .eq 17, 3) := by decide +kernel
theorem d_M_address_9 : decode c_M_address 9 = .ok (.iload_n 2, 1) := by decide +kernel
theorem d_M_address_10 : decode c_M_address 10 = .ok (.iconst 0, 1) := by decide +kernel
theorem d_M_address_11 : decode c_M_address 11 = .ok (.bipush 7, 2) := by decide +kernel
theorem d_M_address_13 : decode c_M_address 13 = .ok (.invokestatic 109, 3) := by decide +kernel
theorem d_M_address_16 : decode c_M_address 16 = .ok (.ifCond .eq 7, 3) := by decide +kernel
theorem d_M_address_19 : decode c_M_address 19 = .ok (.iconst 0, 1) := by decide +kernel
theorem d_M_address_20 : decode c_M_address 20 = .ok (.goto 4, 3) := by decide +kernel
theorem d_M_address_23 : decode c_M_address 23 = .ok (.iconst 1, 1) := by decide +kernel
theorem d_M_address_24 : decode c_M_address 24 = .ok (.invokevirtual 112, 3) := by decide +kernel
theorem d_M_address_27 : decode c_M_address 27 = .ok (.ifCond .ne 5, 3) := by decide +kernel
theorem d_M_address_30 : decode c_M_address 30 = .ok (.iconst 0, 1) := by decide +kernel
theorem d_M_address_31 : decode c_M_address 31 = .ok (.ireturn, 1) := by decide +kernel
theorem d_M_address_32 : decode c_M_address 32 = .ok (.aload_n 0, 1) := by decide +kernel
theorem d_M_address_33 : decode c_M_address 33 = .ok (.iload_n 1, 1) := by decide +kernel
theorem d_M_address_34 : decode c_M_address 34 = .ok (.invokevirtual 150, 3) := by decide +kernel
theorem d_M_address_37 : decode c_M_address 37 = .ok (.aload_n 0, 1) := by decide +kernel
theorem d_M_address_38 : decode c_M_address 38 = .ok (.getfield 57, 3) := by decide +kernel
theorem d_M_address_41 : decode c_M_address 41 = .ok (.iload_n 2, 1) := by decide +kernel
theorem d_M_address_42 : decode c_M_address 42 = .ok (.iaload, 1) := by decide +kernel
theorem d_M_address_43 : decode c_M_address 43 = .ok (.ireturn, 1) := by decide +kernel
abbrev c_M_needed : ByteArray := prog_9_method_36_code
abbrev y_M_needed : MethodName := ⟨"BlobStoreModel", "needed", "(I)I"⟩
theorem i_M_needed : bIs y_M_needed 2 := Or.inl ⟨_, _, t4_61⟩
theorem d_M_needed_0 : decode c_M_needed 0 = .ok (.aload_n 0, 1) := by decide +kernel
theorem d_M_needed_1 : decode c_M_needed 1 = .ok (.iconst 0, 1) := by decide +kernel
theorem d_M_needed_2 : decode c_M_needed 2 = .ok (.putfield 75, 3) := by decide +kernel
theorem d_M_needed_5 : decode c_M_needed 5 = .ok (.aload_n 0, 1) := by decide +kernel
theorem d_M_needed_6 : decode c_M_needed 6 = .ok (.iload_n 1, 1) := by decide +kernel
theorem d_M_needed_7 : decode c_M_needed 7 = .ok (.invokevirtual 147, 3) := by decide +kernel
theorem d_M_needed_10 : decode c_M_needed 10 = .ok (.ifCond .eq 11, 3) := by decide +kernel
theorem d_M_needed_13 : decode c_M_needed 13 = .ok (.aload_n 0, 1) := by decide +kernel
theorem d_M_needed_14 : decode c_M_needed 14 = .ok (.iload_n 1, 1) := by decide +kernel
theorem d_M_needed_15 : decode c_M_needed 15 = .ok (.invokevirtual 144, 3) := by decide +kernel
theorem d_M_needed_18 : decode c_M_needed 18 = .ok (.goto 4, 3) := by decide +kernel
theorem d_M_needed_21 : decode c_M_needed 21 = .ok (.iconst (-1), 1) := by decide +kernel
theorem d_M_needed_22 : decode c_M_needed 22 = .ok (.ireturn, 1) := by decide +kernel
abbrev c_M_slotOf : ByteArray := prog_9_method_37_code
abbrev y_M_slotOf : MethodName := ⟨"BlobStoreModel", "slotOf", "(IJ)I"⟩
theorem i_M_slotOf : bIs y_M_slotOf 4 := Or.inl ⟨_, _, t4_65⟩
theorem d_M_slotOf_0 : decode c_M_slotOf 0 = .ok (.aload_n 0, 1) := by decide +kernel
theorem d_M_slotOf_1 : decode c_M_slotOf 1 = .ok (.iconst 0, 1) := by decide +kernel
theorem d_M_slotOf_2 : decode c_M_slotOf 2 = .ok (.putfield 75, 3) := by decide +kernel
theorem d_M_slotOf_5 : decode c_M_slotOf 5 = .ok (.aload_n 0, 1) := by decide +kernel
theorem d_M_slotOf_6 : decode c_M_slotOf 6 = .ok (.lload_n 2, 1) := by decide +kernel
theorem d_M_slotOf_7 : decode c_M_slotOf 7 = .ok (.lconst 0, 1) := by decide +kernel
theorem d_M_slotOf_8 : decode c_M_slotOf 8 = .ok (.lconst 0, 1) := by decide +kernel
theorem d_M_slotOf_9 : decode c_M_slotOf 9 = .ok (.invokevirtual 120, 3) := by decide +kernel
theorem d_M_slotOf_12 : decode c_M_slotOf 12 = .ok (.iload_n 1, 1) := by decide +kernel
theorem d_M_slotOf_13 : decode c_M_slotOf 13 = .ok (.iconst 1, 1) := by decide +kernel
theorem d_M_slotOf_14 : decode c_M_slotOf 14 = .ok (.bipush 8, 2) := by decide +kernel
theorem d_M_slotOf_16 : decode c_M_slotOf 16 = .ok (.invokestatic 109, 3) := by decide +kernel
theorem d_M_slotOf_19 : decode c_M_slotOf 19 = .ok (.ifCond .eq 12, 3) := by decide +kernel
theorem d_M_slotOf_22 : decode c_M_slotOf 22 = .ok (.aload_n 0, 1) := by decide +kernel
theorem d_M_slotOf_23 : decode c_M_slotOf 23 = .ok (.iconst 0, 1) := by decide +kernel
theorem d_M_slotOf_24 : decode c_M_slotOf 24 = .ok (.iload_n 1, 1) := by decide +kernel
theorem d_M_slotOf_25 : decode c_M_slotOf 25 = .ok (.invokevirtual 101, 3) := by decide +kernel
theorem d_M_slotOf_28 : decode c_M_slotOf 28 = .ok (.goto 4, 3) := by decide +kernel
theorem d_M_slotOf_31 : decode c_M_slotOf 31 = .ok (.iconst (-1), 1) := by decide +kernel
theorem d_M_slotOf_32 : decode c_M_slotOf 32 = .ok (.ireturn, 1) := by decide +kernel
abbrev c_M_state : ByteArray := prog_9_method_38_code
abbrev y_M_state : MethodName := ⟨"BlobStoreModel", "state", "(I)I"⟩
theorem i_M_state : bIs y_M_state 4 := Or.inl ⟨_, _, t4_69⟩
theorem d_M_state_0 : decode c_M_state 0 = .ok (.aload_n 0, 1) := by decide +kernel
theorem d_M_state_1 : decode c_M_state 1 = .ok (.iconst 0, 1) := by decide +kernel
theorem d_M_state_2 : decode c_M_state 2 = .ok (.putfield 75, 3) := by decide +kernel
theorem d_M_state_5 : decode c_M_state 5 = .ok (.iconst 0, 1) := by decide +kernel
theorem d_M_state_6 : decode c_M_state 6 = .ok (.istore_n 2, 1) := by decide +kernel
theorem d_M_state_7 : decode c_M_state 7 = .ok (.iload_n 1, 1) := by decide +kernel
theorem d_M_state_8 : decode c_M_state 8 = .ok (.tableswitch 188 0 7 #[48, 56, 88, 123, 128, 133, 146, 167], 48) := by decide +kernel
theorem d_M_state_56 : decode c_M_state 56 = .ok (.bipush 48, 2) := by decide +kernel
theorem d_M_state_58 : decode c_M_state 58 = .ok (.aload_n 0, 1) := by decide +kernel
theorem d_M_state_59 : decode c_M_state 59 = .ok (.invokevirtual 128, 3) := by decide +kernel
theorem d_M_state_62 : decode c_M_state 62 = .ok (.isub, 1) := by decide +kernel
theorem d_M_state_63 : decode c_M_state 63 = .ok (.ireturn, 1) := by decide +kernel
theorem d_M_state_64 : decode c_M_state 64 = .ok (.iconst 0, 1) := by decide +kernel
theorem d_M_state_65 : decode c_M_state 65 = .ok (.istore_n 3, 1) := by decide +kernel
theorem d_M_state_66 : decode c_M_state 66 = .ok (.iload_n 3, 1) := by decide +kernel
theorem d_M_state_67 : decode c_M_state 67 = .ok (.iconst 5, 1) := by decide +kernel
theorem d_M_state_68 : decode c_M_state 68 = .ok (.if_icmp .ge 26, 3) := by decide +kernel
theorem d_M_state_71 : decode c_M_state 71 = .ok (.iload_n 2, 1) := by decide +kernel
theorem d_M_state_72 : decode c_M_state 72 = .ok (.aload_n 0, 1) := by decide +kernel
theorem d_M_state_73 : decode c_M_state 73 = .ok (.getfield 16, 3) := by decide +kernel
theorem d_M_state_76 : decode c_M_state 76 = .ok (.iload_n 3, 1) := by decide +kernel
theorem d_M_state_77 : decode c_M_state 77 = .ok (.baload, 1) := by decide +kernel
theorem d_M_state_78 : decode c_M_state 78 = .ok (.ifCond .eq 7, 3) := by decide +kernel
theorem d_M_state_81 : decode c_M_state 81 = .ok (.iconst 1, 1) := by decide +kernel
theorem d_M_state_82 : decode c_M_state 82 = .ok (.goto 4, 3) := by decide +kernel
theorem d_M_state_85 : decode c_M_state 85 = .ok (.iconst 0, 1) := by decide +kernel
theorem d_M_state_86 : decode c_M_state 86 = .ok (.iadd, 1) := by decide +kernel
theorem d_M_state_87 : decode c_M_state 87 = .ok (.istore_n 2, 1) := by decide +kernel
theorem d_M_state_88 : decode c_M_state 88 = .ok (.iinc 3 1, 3) := by decide +kernel
theorem d_M_state_91 : decode c_M_state 91 = .ok (.goto (-25), 3) := by decide +kernel
theorem d_M_state_94 : decode c_M_state 94 = .ok (.iload_n 2, 1) := by decide +kernel
theorem d_M_state_95 : decode c_M_state 95 = .ok (.ireturn, 1) := by decide +kernel
theorem d_M_state_96 : decode c_M_state 96 = .ok (.iconst 1, 1) := by decide +kernel
theorem d_M_state_97 : decode c_M_state 97 = .ok (.istore_n 3, 1) := by decide +kernel
theorem d_M_state_98 : decode c_M_state 98 = .ok (.iload_n 3, 1) := by decide +kernel
theorem d_M_state_99 : decode c_M_state 99 = .ok (.aload_n 0, 1) := by decide +kernel
theorem d_M_state_100 : decode c_M_state 100 = .ok (.getfield 135, 3) := by decide +kernel
theorem d_M_state_103 : decode c_M_state 103 = .ok (.if_icmp .gt 26, 3) := by decide +kernel
theorem d_M_state_106 : decode c_M_state 106 = .ok (.iload_n 2, 1) := by decide +kernel
theorem d_M_state_107 : decode c_M_state 107 = .ok (.aload_n 0, 1) := by decide +kernel
theorem d_M_state_108 : decode c_M_state 108 = .ok (.getfield 32, 3) := by decide +kernel
theorem d_M_state_111 : decode c_M_state 111 = .ok (.iload_n 3, 1) := by decide +kernel
theorem d_M_state_112 : decode c_M_state 112 = .ok (.baload, 1) := by decide +kernel
theorem d_M_state_113 : decode c_M_state 113 = .ok (.ifCond .eq 7, 3) := by decide +kernel
theorem d_M_state_116 : decode c_M_state 116 = .ok (.iconst 1, 1) := by decide +kernel
theorem d_M_state_117 : decode c_M_state 117 = .ok (.goto 4, 3) := by decide +kernel
theorem d_M_state_120 : decode c_M_state 120 = .ok (.iconst 0, 1) := by decide +kernel
theorem d_M_state_121 : decode c_M_state 121 = .ok (.iadd, 1) := by decide +kernel
theorem d_M_state_122 : decode c_M_state 122 = .ok (.istore_n 2, 1) := by decide +kernel
theorem d_M_state_123 : decode c_M_state 123 = .ok (.iinc 3 1, 3) := by decide +kernel
theorem d_M_state_126 : decode c_M_state 126 = .ok (.goto (-28), 3) := by decide +kernel
theorem d_M_state_129 : decode c_M_state 129 = .ok (.iload_n 2, 1) := by decide +kernel
theorem d_M_state_130 : decode c_M_state 130 = .ok (.ireturn, 1) := by decide +kernel
theorem d_M_state_131 : decode c_M_state 131 = .ok (.aload_n 0, 1) := by decide +kernel
theorem d_M_state_132 : decode c_M_state 132 = .ok (.getfield 135, 3) := by decide +kernel
theorem d_M_state_135 : decode c_M_state 135 = .ok (.ireturn, 1) := by decide +kernel
theorem d_M_state_136 : decode c_M_state 136 = .ok (.aload_n 0, 1) := by decide +kernel
theorem d_M_state_137 : decode c_M_state 137 = .ok (.getfield 91, 3) := by decide +kernel
theorem d_M_state_140 : decode c_M_state 140 = .ok (.ireturn, 1) := by decide +kernel
theorem d_M_state_141 : decode c_M_state 141 = .ok (.aload_n 0, 1) := by decide +kernel
theorem d_M_state_142 : decode c_M_state 142 = .ok (.getfield 87, 3) := by decide +kernel
theorem d_M_state_145 : decode c_M_state 145 = .ok (.ifCond .eq 7, 3) := by decide +kernel
theorem d_M_state_148 : decode c_M_state 148 = .ok (.iconst 1, 1) := by decide +kernel
theorem d_M_state_149 : decode c_M_state 149 = .ok (.goto 4, 3) := by decide +kernel
theorem d_M_state_152 : decode c_M_state 152 = .ok (.iconst 0, 1) := by decide +kernel
theorem d_M_state_153 : decode c_M_state 153 = .ok (.ireturn, 1) := by decide +kernel
theorem d_M_state_154 : decode c_M_state 154 = .ok (.aload_n 0, 1) := by decide +kernel
theorem d_M_state_155 : decode c_M_state 155 = .ok (.getfield 135, 3) := by decide +kernel
theorem d_M_state_158 : decode c_M_state 158 = .ok (.ifCond .le 15, 3) := by decide +kernel
theorem d_M_state_161 : decode c_M_state 161 = .ok (.aload_n 0, 1) := by decide +kernel
theorem d_M_state_162 : decode c_M_state 162 = .ok (.getfield 35, 3) := by decide +kernel
theorem d_M_state_165 : decode c_M_state 165 = .ok (.aload_n 0, 1) := by decide +kernel
theorem d_M_state_166 : decode c_M_state 166 = .ok (.getfield 135, 3) := by decide +kernel
theorem d_M_state_169 : decode c_M_state 169 = .ok (.iaload, 1) := by decide +kernel
theorem d_M_state_170 : decode c_M_state 170 = .ok (.goto 4, 3) := by decide +kernel
theorem d_M_state_173 : decode c_M_state 173 = .ok (.iconst (-1), 1) := by decide +kernel
theorem d_M_state_174 : decode c_M_state 174 = .ok (.ireturn, 1) := by decide +kernel
theorem d_M_state_175 : decode c_M_state 175 = .ok (.aload_n 0, 1) := by decide +kernel
theorem d_M_state_176 : decode c_M_state 176 = .ok (.getfield 135, 3) := by decide +kernel
theorem d_M_state_179 : decode c_M_state 179 = .ok (.ifCond .le 15, 3) := by decide +kernel
theorem d_M_state_182 : decode c_M_state 182 = .ok (.aload_n 0, 1) := by decide +kernel
theorem d_M_state_183 : decode c_M_state 183 = .ok (.getfield 38, 3) := by decide +kernel
theorem d_M_state_186 : decode c_M_state 186 = .ok (.aload_n 0, 1) := by decide +kernel
theorem d_M_state_187 : decode c_M_state 187 = .ok (.getfield 135, 3) := by decide +kernel
theorem d_M_state_190 : decode c_M_state 190 = .ok (.iaload, 1) := by decide +kernel
theorem d_M_state_191 : decode c_M_state 191 = .ok (.goto 4, 3) := by decide +kernel
theorem d_M_state_194 : decode c_M_state 194 = .ok (.iconst (-1), 1) := by decide +kernel
theorem d_M_state_195 : decode c_M_state 195 = .ok (.ireturn, 1) := by decide +kernel
theorem d_M_state_196 : decode c_M_state 196 = .ok (.iconst (-1), 1) := by decide +kernel
theorem d_M_state_197 : decode c_M_state 197 = .ok (.ireturn, 1) := by decide +kernel
