abbrev c_H_init : ByteArray := prog_6_method_1_code
abbrev y_H_init : MethodName := ⟨"BlobStore$Sha256", "<init>", "()V"⟩
theorem i_H_init : bIs y_H_init 1 := Or.inl ⟨_, _, t1_50⟩
theorem d_H_init_0 : decode c_H_init 0 = .ok (.aload_n 0, 1) := by decide +kernel
theorem d_H_init_1 : decode c_H_init 1 = .ok (.invokespecial 3, 3) := by decide +kernel
theorem d_H_init_4 : decode c_H_init 4 = .ok (.aload_n 0, 1) := by decide +kernel
theorem d_H_init_5 : decode c_H_init 5 = .ok (.bipush 64, 2) := by decide +kernel
theorem d_H_init_7 : decode c_H_init 7 = .ok (.newarray .int, 2) := by decide +kernel
theorem d_H_init_9 : decode c_H_init 9 = .ok (.putfield 11, 3) := by decide +kernel
theorem d_H_init_12 : decode c_H_init 12 = .ok (.return_, 1) := by decide +kernel
abbrev c_H_digest : ByteArray := prog_6_method_2_code
abbrev y_H_digest : MethodName := ⟨"BlobStore$Sha256", "digest", "(IJ[I)V"⟩
theorem i_H_digest : bIs y_H_digest 5 := Or.inl ⟨_, _, t2_5⟩
theorem d_H_digest_0 : decode c_H_digest 0 = .ok (.aload_n 0, 1) := by decide +kernel
theorem d_H_digest_1 : decode c_H_digest 1 = .ok (.iload_n 1, 1) := by decide +kernel
theorem d_H_digest_2 : decode c_H_digest 2 = .ok (.lload_n 2, 1) := by decide +kernel
theorem d_H_digest_3 : decode c_H_digest 3 = .ok (.invokevirtual 15, 3) := by decide +kernel
theorem d_H_digest_6 : decode c_H_digest 6 = .ok (.aload_n 0, 1) := by decide +kernel
theorem d_H_digest_7 : decode c_H_digest 7 = .ok (.invokevirtual 19, 3) := by decide +kernel
theorem d_H_digest_10 : decode c_H_digest 10 = .ok (.aload_n 0, 1) := by decide +kernel
theorem d_H_digest_11 : decode c_H_digest 11 = .ok (.aload 4, 2) := by decide +kernel
theorem d_H_digest_13 : decode c_H_digest 13 = .ok (.invokevirtual 22, 3) := by decide +kernel
theorem d_H_digest_16 : decode c_H_digest 16 = .ok (.return_, 1) := by decide +kernel
abbrev c_H_padBlock : ByteArray := prog_6_method_3_code
abbrev y_H_padBlock : MethodName := ⟨"BlobStore$Sha256", "padBlock", "(IJ)V"⟩
theorem i_H_padBlock : bIs y_H_padBlock 7 := Or.inl ⟨_, _, t2_9⟩
theorem d_H_padBlock_0 : decode c_H_padBlock 0 = .ok (.iload_n 1, 1) := by decide +kernel
theorem d_H_padBlock_1 : decode c_H_padBlock 1 = .ok (.bipush 8, 2) := by decide +kernel
theorem d_H_padBlock_3 : decode c_H_padBlock 3 = .ok (.if_icmp .ge 7, 3) := by decide +kernel
theorem d_H_padBlock_6 : decode c_H_padBlock 6 = .ok (.iconst 1, 1) := by decide +kernel
theorem d_H_padBlock_7 : decode c_H_padBlock 7 = .ok (.goto 4, 3) := by decide +kernel
theorem d_H_padBlock_10 : decode c_H_padBlock 10 = .ok (.iconst 0, 1) := by decide +kernel
theorem d_H_padBlock_11 : decode c_H_padBlock 11 = .ok (.istore 4, 2) := by decide +kernel
theorem d_H_padBlock_13 : decode c_H_padBlock 13 = .ok (.iload 4, 2) := by decide +kernel
theorem d_H_padBlock_15 : decode c_H_padBlock 15 = .ok (.ifCond .eq 19, 3) := by decide +kernel
theorem d_H_padBlock_18 : decode c_H_padBlock 18 = .ok (.lload_n 2, 1) := by decide +kernel
theorem d_H_padBlock_19 : decode c_H_padBlock 19 = .ok (.ldc2_w 26, 3) := by decide +kernel
theorem d_H_padBlock_22 : decode c_H_padBlock 22 = .ok (.bipush 56, 2) := by decide +kernel
theorem d_H_padBlock_24 : decode c_H_padBlock 24 = .ok (.bipush 8, 2) := by decide +kernel
theorem d_H_padBlock_26 : decode c_H_padBlock 26 = .ok (.iload_n 1, 1) := by decide +kernel
theorem d_H_padBlock_27 : decode c_H_padBlock 27 = .ok (.imul, 1) := by decide +kernel
theorem d_H_padBlock_28 : decode c_H_padBlock 28 = .ok (.isub, 1) := by decide +kernel
theorem d_H_padBlock_29 : decode c_H_padBlock 29 = .ok (.lshl, 1) := by decide +kernel
theorem d_H_padBlock_30 : decode c_H_padBlock 30 = .ok (.lor, 1) := by decide +kernel
theorem d_H_padBlock_31 : decode c_H_padBlock 31 = .ok (.goto 4, 3) := by decide +kernel
theorem d_H_padBlock_34 : decode c_H_padBlock 34 = .ok (.lload_n 2, 1) := by decide +kernel
theorem d_H_padBlock_35 : decode c_H_padBlock 35 = .ok (.lstore 5, 2) := by decide +kernel
theorem d_H_padBlock_37 : decode c_H_padBlock 37 = .ok (.aload_n 0, 1) := by decide +kernel
theorem d_H_padBlock_38 : decode c_H_padBlock 38 = .ok (.getfield 11, 3) := by decide +kernel
theorem d_H_padBlock_41 : decode c_H_padBlock 41 = .ok (.iconst 0, 1) := by decide +kernel
theorem d_H_padBlock_42 : decode c_H_padBlock 42 = .ok (.lload 5, 2) := by decide +kernel
theorem d_H_padBlock_44 : decode c_H_padBlock 44 = .ok (.bipush 32, 2) := by decide +kernel
theorem d_H_padBlock_46 : decode c_H_padBlock 46 = .ok (.lushr, 1) := by decide +kernel
theorem d_H_padBlock_47 : decode c_H_padBlock 47 = .ok (.l2i, 1) := by decide +kernel
theorem d_H_padBlock_48 : decode c_H_padBlock 48 = .ok (.iastore, 1) := by decide +kernel
theorem d_H_padBlock_49 : decode c_H_padBlock 49 = .ok (.aload_n 0, 1) := by decide +kernel
theorem d_H_padBlock_50 : decode c_H_padBlock 50 = .ok (.getfield 11, 3) := by decide +kernel
theorem d_H_padBlock_53 : decode c_H_padBlock 53 = .ok (.iconst 1, 1) := by decide +kernel
theorem d_H_padBlock_54 : decode c_H_padBlock 54 = .ok (.lload 5, 2) := by decide +kernel
theorem d_H_padBlock_56 : decode c_H_padBlock 56 = .ok (.l2i, 1) := by decide +kernel
theorem d_H_padBlock_57 : decode c_H_padBlock 57 = .ok (.iastore, 1) := by decide +kernel
theorem d_H_padBlock_58 : decode c_H_padBlock 58 = .ok (.aload_n 0, 1) := by decide +kernel
theorem d_H_padBlock_59 : decode c_H_padBlock 59 = .ok (.getfield 11, 3) := by decide +kernel
theorem d_H_padBlock_62 : decode c_H_padBlock 62 = .ok (.iconst 2, 1) := by decide +kernel
theorem d_H_padBlock_63 : decode c_H_padBlock 63 = .ok (.iload 4, 2) := by decide +kernel
theorem d_H_padBlock_65 : decode c_H_padBlock 65 = .ok (.ifCond .eq 7, 3) := by decide +kernel
theorem d_H_padBlock_68 : decode c_H_padBlock 68 = .ok (.iconst 0, 1) := by decide +kernel
theorem d_H_padBlock_69 : decode c_H_padBlock 69 = .ok (.goto 5, 3) := by decide +kernel
theorem d_H_padBlock_72 : decode c_H_padBlock 72 = .ok (.ldc 28, 2) := by decide +kernel
theorem d_H_padBlock_74 : decode c_H_padBlock 74 = .ok (.iastore, 1) := by decide +kernel
theorem d_H_padBlock_75 : decode c_H_padBlock 75 = .ok (.aload_n 0, 1) := by decide +kernel
theorem d_H_padBlock_76 : decode c_H_padBlock 76 = .ok (.getfield 11, 3) := by decide +kernel
theorem d_H_padBlock_79 : decode c_H_padBlock 79 = .ok (.bipush 15, 2) := by decide +kernel
theorem d_H_padBlock_81 : decode c_H_padBlock 81 = .ok (.bipush 8, 2) := by decide +kernel
theorem d_H_padBlock_83 : decode c_H_padBlock 83 = .ok (.iload_n 1, 1) := by decide +kernel
theorem d_H_padBlock_84 : decode c_H_padBlock 84 = .ok (.imul, 1) := by decide +kernel
theorem d_H_padBlock_85 : decode c_H_padBlock 85 = .ok (.iastore, 1) := by decide +kernel
theorem d_H_padBlock_86 : decode c_H_padBlock 86 = .ok (.return_, 1) := by decide +kernel
abbrev c_H_expandBlock : ByteArray := prog_6_method_4_code
abbrev y_H_expandBlock : MethodName := ⟨"BlobStore$Sha256", "expandBlock", "()V"⟩
theorem i_H_expandBlock : bIs y_H_expandBlock 6 := Or.inl ⟨_, _, t2_15⟩
theorem d_H_expandBlock_0 : decode c_H_expandBlock 0 = .ok (.bipush 16, 2) := by decide +kernel
theorem d_H_expandBlock_2 : decode c_H_expandBlock 2 = .ok (.istore_n 1, 1) := by decide +kernel
theorem d_H_expandBlock_3 : decode c_H_expandBlock 3 = .ok (.iload_n 1, 1) := by decide +kernel
theorem d_H_expandBlock_4 : decode c_H_expandBlock 4 = .ok (.bipush 64, 2) := by decide +kernel
theorem d_H_expandBlock_6 : decode c_H_expandBlock 6 = .ok (.if_icmp .ge 98, 3) := by decide +kernel
theorem d_H_expandBlock_9 : decode c_H_expandBlock 9 = .ok (.aload_n 0, 1) := by decide +kernel
theorem d_H_expandBlock_10 : decode c_H_expandBlock 10 = .ok (.getfield 11, 3) := by decide +kernel
theorem d_H_expandBlock_13 : decode c_H_expandBlock 13 = .ok (.iload_n 1, 1) := by decide +kernel
theorem d_H_expandBlock_14 : decode c_H_expandBlock 14 = .ok (.bipush 15, 2) := by decide +kernel
theorem d_H_expandBlock_16 : decode c_H_expandBlock 16 = .ok (.isub, 1) := by decide +kernel
theorem d_H_expandBlock_17 : decode c_H_expandBlock 17 = .ok (.iaload, 1) := by decide +kernel
theorem d_H_expandBlock_18 : decode c_H_expandBlock 18 = .ok (.istore_n 2, 1) := by decide +kernel
theorem d_H_expandBlock_19 : decode c_H_expandBlock 19 = .ok (.aload_n 0, 1) := by decide +kernel
theorem d_H_expandBlock_20 : decode c_H_expandBlock 20 = .ok (.getfield 11, 3) := by decide +kernel
theorem d_H_expandBlock_23 : decode c_H_expandBlock 23 = .ok (.iload_n 1, 1) := by decide +kernel
theorem d_H_expandBlock_24 : decode c_H_expandBlock 24 = .ok (.iconst 2, 1) := by decide +kernel
theorem d_H_expandBlock_25 : decode c_H_expandBlock 25 = .ok (.isub, 1) := by decide +kernel
theorem d_H_expandBlock_26 : decode c_H_expandBlock 26 = .ok (.iaload, 1) := by decide +kernel
theorem d_H_expandBlock_27 : decode c_H_expandBlock 27 = .ok (.istore_n 3, 1) := by decide +kernel
theorem d_H_expandBlock_28 : decode c_H_expandBlock 28 = .ok (.iload_n 2, 1) := by decide +kernel
theorem d_H_expandBlock_29 : decode c_H_expandBlock 29 = .ok (.bipush 7, 2) := by decide +kernel
theorem d_H_expandBlock_31 : decode c_H_expandBlock 31 = .ok (.invokestatic 29, 3) := by decide +kernel
theorem d_H_expandBlock_34 : decode c_H_expandBlock 34 = .ok (.iload_n 2, 1) := by decide +kernel
theorem d_H_expandBlock_35 : decode c_H_expandBlock 35 = .ok (.bipush 18, 2) := by decide +kernel
theorem d_H_expandBlock_37 : decode c_H_expandBlock 37 = .ok (.invokestatic 29, 3) := by decide +kernel
theorem d_H_expandBlock_40 : decode c_H_expandBlock 40 = .ok (.ixor, 1) := by decide +kernel
theorem d_H_expandBlock_41 : decode c_H_expandBlock 41 = .ok (.iload_n 2, 1) := by decide +kernel
theorem d_H_expandBlock_42 : decode c_H_expandBlock 42 = .ok (.iconst 3, 1) := by decide +kernel
theorem d_H_expandBlock_43 : decode c_H_expandBlock 43 = .ok (.iushr, 1) := by decide +kernel
theorem d_H_expandBlock_44 : decode c_H_expandBlock 44 = .ok (.ixor, 1) := by decide +kernel
theorem d_H_expandBlock_45 : decode c_H_expandBlock 45 = .ok (.istore 4, 2) := by decide +kernel
theorem d_H_expandBlock_47 : decode c_H_expandBlock 47 = .ok (.iload_n 3, 1) := by decide +kernel
theorem d_H_expandBlock_48 : decode c_H_expandBlock 48 = .ok (.bipush 17, 2) := by decide +kernel
theorem d_H_expandBlock_50 : decode c_H_expandBlock 50 = .ok (.invokestatic 29, 3) := by decide +kernel
theorem d_H_expandBlock_53 : decode c_H_expandBlock 53 = .ok (.iload_n 3, 1) := by decide +kernel
theorem d_H_expandBlock_54 : decode c_H_expandBlock 54 = .ok (.bipush 19, 2) := by decide +kernel
theorem d_H_expandBlock_56 : decode c_H_expandBlock 56 = .ok (.invokestatic 29, 3) := by decide +kernel
theorem d_H_expandBlock_59 : decode c_H_expandBlock 59 = .ok (.ixor, 1) := by decide +kernel
theorem d_H_expandBlock_60 : decode c_H_expandBlock 60 = .ok (.iload_n 3, 1) := by decide +kernel
theorem d_H_expandBlock_61 : decode c_H_expandBlock 61 = .ok (.bipush 10, 2) := by decide +kernel
theorem d_H_expandBlock_63 : decode c_H_expandBlock 63 = .ok (.iushr, 1) := by decide +kernel
theorem d_H_expandBlock_64 : decode c_H_expandBlock 64 = .ok (.ixor, 1) := by decide +kernel
theorem d_H_expandBlock_65 : decode c_H_expandBlock 65 = .ok (.istore 5, 2) := by decide +kernel
theorem d_H_expandBlock_67 : decode c_H_expandBlock 67 = .ok (.aload_n 0, 1) := by decide +kernel
theorem d_H_expandBlock_68 : decode c_H_expandBlock 68 = .ok (.getfield 11, 3) := by decide +kernel
theorem d_H_expandBlock_71 : decode c_H_expandBlock 71 = .ok (.iload_n 1, 1) := by decide +kernel
theorem d_H_expandBlock_72 : decode c_H_expandBlock 72 = .ok (.iload 5, 2) := by decide +kernel
theorem d_H_expandBlock_74 : decode c_H_expandBlock 74 = .ok (.aload_n 0, 1) := by decide +kernel
theorem d_H_expandBlock_75 : decode c_H_expandBlock 75 = .ok (.getfield 11, 3) := by decide +kernel
theorem d_H_expandBlock_78 : decode c_H_expandBlock 78 = .ok (.iload_n 1, 1) := by decide +kernel
theorem d_H_expandBlock_79 : decode c_H_expandBlock 79 = .ok (.bipush 7, 2) := by decide +kernel
theorem d_H_expandBlock_81 : decode c_H_expandBlock 81 = .ok (.isub, 1) := by decide +kernel
theorem d_H_expandBlock_82 : decode c_H_expandBlock 82 = .ok (.iaload, 1) := by decide +kernel
theorem d_H_expandBlock_83 : decode c_H_expandBlock 83 = .ok (.iadd, 1) := by decide +kernel
theorem d_H_expandBlock_84 : decode c_H_expandBlock 84 = .ok (.iload 4, 2) := by decide +kernel
theorem d_H_expandBlock_86 : decode c_H_expandBlock 86 = .ok (.iadd, 1) := by decide +kernel
theorem d_H_expandBlock_87 : decode c_H_expandBlock 87 = .ok (.aload_n 0, 1) := by decide +kernel
theorem d_H_expandBlock_88 : decode c_H_expandBlock 88 = .ok (.getfield 11, 3) := by decide +kernel
theorem d_H_expandBlock_91 : decode c_H_expandBlock 91 = .ok (.iload_n 1, 1) := by decide +kernel
theorem d_H_expandBlock_92 : decode c_H_expandBlock 92 = .ok (.bipush 16, 2) := by decide +kernel
theorem d_H_expandBlock_94 : decode c_H_expandBlock 94 = .ok (.isub, 1) := by decide +kernel
theorem d_H_expandBlock_95 : decode c_H_expandBlock 95 = .ok (.iaload, 1) := by decide +kernel
theorem d_H_expandBlock_96 : decode c_H_expandBlock 96 = .ok (.iadd, 1) := by decide +kernel
theorem d_H_expandBlock_97 : decode c_H_expandBlock 97 = .ok (.iastore, 1) := by decide +kernel
theorem d_H_expandBlock_98 : decode c_H_expandBlock 98 = .ok (.iinc 1 1, 3) := by decide +kernel
theorem d_H_expandBlock_101 : decode c_H_expandBlock 101 = .ok (.goto (-98), 3) := by decide +kernel
theorem d_H_expandBlock_104 : decode c_H_expandBlock 104 = .ok (.return_, 1) := by decide +kernel
abbrev c_H_mixBlock : ByteArray := prog_6_method_5_code
abbrev y_H_mixBlock : MethodName := ⟨"BlobStore$Sha256", "mixBlock", "([I)V"⟩
theorem i_H_mixBlock : bIs y_H_mixBlock 16 := Or.inl ⟨_, _, t2_22⟩
theorem d_H_mixBlock_0 : decode c_H_mixBlock 0 = .ok (.getstatic 33, 3) := by decide +kernel
theorem d_H_mixBlock_3 : decode c_H_mixBlock 3 = .ok (.iconst 0, 1) := by decide +kernel
theorem d_H_mixBlock_4 : decode c_H_mixBlock 4 = .ok (.iaload, 1) := by decide +kernel
theorem d_H_mixBlock_5 : decode c_H_mixBlock 5 = .ok (.istore_n 2, 1) := by decide +kernel
theorem d_H_mixBlock_6 : decode c_H_mixBlock 6 = .ok (.getstatic 33, 3) := by decide +kernel
theorem d_H_mixBlock_9 : decode c_H_mixBlock 9 = .ok (.iconst 1, 1) := by decide +kernel
theorem d_H_mixBlock_10 : decode c_H_mixBlock 10 = .ok (.iaload, 1) := by decide +kernel
theorem d_H_mixBlock_11 : decode c_H_mixBlock 11 = .ok (.istore_n 3, 1) := by decide +kernel
theorem d_H_mixBlock_12 : decode c_H_mixBlock 12 = .ok (.getstatic 33, 3) := by decide +kernel
theorem d_H_mixBlock_15 : decode c_H_mixBlock 15 = .ok (.iconst 2, 1) := by decide +kernel
theorem d_H_mixBlock_16 : decode c_H_mixBlock 16 = .ok (.iaload, 1) := by decide +kernel
theorem d_H_mixBlock_17 : decode c_H_mixBlock 17 = .ok (.istore 4, 2) := by decide +kernel
theorem d_H_mixBlock_19 : decode c_H_mixBlock 19 = .ok (.getstatic 33, 3) := by decide +kernel
theorem d_H_mixBlock_22 : decode c_H_mixBlock 22 = .ok (.iconst 3, 1) := by decide +kernel
theorem d_H_mixBlock_23 : decode c_H_mixBlock 23 = .ok (.iaload, 1) := by decide +kernel
theorem d_H_mixBlock_24 : decode c_H_mixBlock 24 = .ok (.istore 5, 2) := by decide +kernel
theorem d_H_mixBlock_26 : decode c_H_mixBlock 26 = .ok (.getstatic 33, 3) := by decide +kernel
theorem d_H_mixBlock_29 : decode c_H_mixBlock 29 = .ok (.iconst 4, 1) := by decide +kernel
theorem d_H_mixBlock_30 : decode c_H_mixBlock 30 = .ok (.iaload, 1) := by decide +kernel
theorem d_H_mixBlock_31 : decode c_H_mixBlock 31 = .ok (.istore 6, 2) := by decide +kernel
theorem d_H_mixBlock_33 : decode c_H_mixBlock 33 = .ok (.getstatic 33, 3) := by decide +kernel
theorem d_H_mixBlock_36 : decode c_H_mixBlock 36 = .ok (.iconst 5, 1) := by decide +kernel
theorem d_H_mixBlock_37 : decode c_H_mixBlock 37 = .ok (.iaload, 1) := by decide +kernel
theorem d_H_mixBlock_38 : decode c_H_mixBlock 38 = .ok (.istore 7, 2) := by decide +kernel
theorem d_H_mixBlock_40 : decode c_H_mixBlock 40 = .ok (.getstatic 33, 3) := by decide +kernel
theorem d_H_mixBlock_43 : decode c_H_mixBlock 43 = .ok (.bipush 6, 2) := by decide +kernel
theorem d_H_mixBlock_45 : decode c_H_mixBlock 45 = .ok (.iaload, 1) := by decide +kernel
theorem d_H_mixBlock_46 : decode c_H_mixBlock 46 = .ok (.istore 8, 2) := by decide +kernel
theorem d_H_mixBlock_48 : decode c_H_mixBlock 48 = .ok (.getstatic 33, 3) := by decide +kernel
theorem d_H_mixBlock_51 : decode c_H_mixBlock 51 = .ok (.bipush 7, 2) := by decide +kernel
theorem d_H_mixBlock_53 : decode c_H_mixBlock 53 = .ok (.iaload, 1) := by decide +kernel
theorem d_H_mixBlock_54 : decode c_H_mixBlock 54 = .ok (.istore 9, 2) := by decide +kernel
theorem d_H_mixBlock_56 : decode c_H_mixBlock 56 = .ok (.iconst 0, 1) := by decide +kernel
theorem d_H_mixBlock_57 : decode c_H_mixBlock 57 = .ok (.istore 10, 2) := by decide +kernel
theorem d_H_mixBlock_59 : decode c_H_mixBlock 59 = .ok (.iload 10, 2) := by decide +kernel
theorem d_H_mixBlock_61 : decode c_H_mixBlock 61 = .ok (.bipush 64, 2) := by decide +kernel
theorem d_H_mixBlock_63 : decode c_H_mixBlock 63 = .ok (.if_icmp .ge 147, 3) := by decide +kernel
theorem d_H_mixBlock_66 : decode c_H_mixBlock 66 = .ok (.iload 6, 2) := by decide +kernel
theorem d_H_mixBlock_68 : decode c_H_mixBlock 68 = .ok (.bipush 6, 2) := by decide +kernel
theorem d_H_mixBlock_70 : decode c_H_mixBlock 70 = .ok (.invokestatic 29, 3) := by decide +kernel
theorem d_H_mixBlock_73 : decode c_H_mixBlock 73 = .ok (.iload 6, 2) := by decide +kernel
theorem d_H_mixBlock_75 : decode c_H_mixBlock 75 = .ok (.bipush 11, 2) := by decide +kernel
theorem d_H_mixBlock_77 : decode c_H_mixBlock 77 = .ok (.invokestatic 29, 3) := by decide +kernel
theorem d_H_mixBlock_80 : decode c_H_mixBlock 80 = .ok (.ixor, 1) := by decide +kernel
theorem d_H_mixBlock_81 : decode c_H_mixBlock 81 = .ok (.iload 6, 2) := by decide +kernel
theorem d_H_mixBlock_83 : decode c_H_mixBlock 83 = .ok (.bipush 25, 2) := by decide +kernel
theorem d_H_mixBlock_85 : decode c_H_mixBlock 85 = .ok (.invokestatic 29, 3) := by decide +kernel
theorem d_H_mixBlock_88 : decode c_H_mixBlock 88 = .ok (.ixor, 1) := by decide +kernel
theorem d_H_mixBlock_89 : decode c_H_mixBlock 89 = .ok (.istore 11, 2) := by decide +kernel
theorem d_H_mixBlock_91 : decode c_H_mixBlock 91 = .ok (.iload 6, 2) := by decide +kernel
theorem d_H_mixBlock_93 : decode c_H_mixBlock 93 = .ok (.iload 7, 2) := by decide +kernel
theorem d_H_mixBlock_95 : decode c_H_mixBlock 95 = .ok (.iand, 1) := by decide +kernel
theorem d_H_mixBlock_96 : decode c_H_mixBlock 96 = .ok (.iload 6, 2) := by decide +kernel
theorem d_H_mixBlock_98 : decode c_H_mixBlock 98 = .ok (.iconst (-1), 1) := by decide +kernel
theorem d_H_mixBlock_99 : decode c_H_mixBlock 99 = .ok (.ixor, 1) := by decide +kernel
theorem d_H_mixBlock_100 : decode c_H_mixBlock 100 = .ok (.iload 8, 2) := by decide +kernel
theorem d_H_mixBlock_102 : decode c_H_mixBlock 102 = .ok (.iand, 1) := by decide +kernel
theorem d_H_mixBlock_103 : decode c_H_mixBlock 103 = .ok (.ixor, 1) := by decide +kernel
theorem d_H_mixBlock_104 : decode c_H_mixBlock 104 = .ok (.istore 12, 2) := by decide +kernel
theorem d_H_mixBlock_106 : decode c_H_mixBlock 106 = .ok (.iload 9, 2) := by decide +kernel
theorem d_H_mixBlock_108 : decode c_H_mixBlock 108 = .ok (.iload 11, 2) := by decide +kernel
theorem d_H_mixBlock_110 : decode c_H_mixBlock 110 = .ok (.iadd, 1) := by decide +kernel
theorem d_H_mixBlock_111 : decode c_H_mixBlock 111 = .ok (.iload 12, 2) := by decide +kernel
theorem d_H_mixBlock_113 : decode c_H_mixBlock 113 = .ok (.iadd, 1) := by decide +kernel
theorem d_H_mixBlock_114 : decode c_H_mixBlock 114 = .ok (.getstatic 36, 3) := by decide +kernel
theorem d_H_mixBlock_117 : decode c_H_mixBlock 117 = .ok (.iload 10, 2) := by decide +kernel
theorem d_H_mixBlock_119 : decode c_H_mixBlock 119 = .ok (.iaload, 1) := by decide +kernel
theorem d_H_mixBlock_120 : decode c_H_mixBlock 120 = .ok (.iadd, 1) := by decide +kernel
theorem d_H_mixBlock_121 : decode c_H_mixBlock 121 = .ok (.aload_n 0, 1) := by decide +kernel
theorem d_H_mixBlock_122 : decode c_H_mixBlock 122 = .ok (.getfield 11, 3) := by decide +kernel
theorem d_H_mixBlock_125 : decode c_H_mixBlock 125 = .ok (.iload 10, 2) := by decide +kernel
theorem d_H_mixBlock_127 : decode c_H_mixBlock 127 = .ok (.iaload, 1) := by decide +kernel
theorem d_H_mixBlock_128 : decode c_H_mixBlock 128 = .ok (.iadd, 1) := by decide +kernel
theorem d_H_mixBlock_129 : decode c_H_mixBlock 129 = .ok (.istore 13, 2) := by decide +kernel
theorem d_H_mixBlock_131 : decode c_H_mixBlock 131 = .ok (.iload_n 2, 1) := by decide +kernel
theorem d_H_mixBlock_132 : decode c_H_mixBlock 132 = .ok (.iconst 2, 1) := by decide +kernel
theorem d_H_mixBlock_133 : decode c_H_mixBlock 133 = .ok (.invokestatic 29, 3) := by decide +kernel
theorem d_H_mixBlock_136 : decode c_H_mixBlock 136 = .ok (.iload_n 2, 1) := by decide +kernel
theorem d_H_mixBlock_137 : decode c_H_mixBlock 137 = .ok (.bipush 13, 2) := by decide +kernel
theorem d_H_mixBlock_139 : decode c_H_mixBlock 139 = .ok (.invokestatic 29, 3) := by decide +kernel
theorem d_H_mixBlock_142 : decode c_H_mixBlock 142 = .ok (.ixor, 1) := by decide +kernel
theorem d_H_mixBlock_143 : decode c_H_mixBlock 143 = .ok (.iload_n 2, 1) := by decide +kernel
theorem d_H_mixBlock_144 : decode c_H_mixBlock 144 = .ok (.bipush 22, 2) := by decide +kernel
theorem d_H_mixBlock_146 : decode c_H_mixBlock 146 = .ok (.invokestatic 29, 3) := by decide +kernel
theorem d_H_mixBlock_149 : decode c_H_mixBlock 149 = .ok (.ixor, 1) := by decide +kernel
theorem d_H_mixBlock_150 : decode c_H_mixBlock 150 = .ok (.istore 14, 2) := by decide +kernel
theorem d_H_mixBlock_152 : decode c_H_mixBlock 152 = .ok (.iload_n 2, 1) := by decide +kernel
theorem d_H_mixBlock_153 : decode c_H_mixBlock 153 = .ok (.iload_n 3, 1) := by decide +kernel
theorem d_H_mixBlock_154 : decode c_H_mixBlock 154 = .ok (.iand, 1) := by decide +kernel
theorem d_H_mixBlock_155 : decode c_H_mixBlock 155 = .ok (.iload_n 2, 1) := by decide +kernel
theorem d_H_mixBlock_156 : decode c_H_mixBlock 156 = .ok (.iload 4, 2) := by decide +kernel
theorem d_H_mixBlock_158 : decode c_H_mixBlock 158 = .ok (.iand, 1) := by decide +kernel
theorem d_H_mixBlock_159 : decode c_H_mixBlock 159 = .ok (.ixor, 1) := by decide +kernel
theorem d_H_mixBlock_160 : decode c_H_mixBlock 160 = .ok (.iload_n 3, 1) := by decide +kernel
theorem d_H_mixBlock_161 : decode c_H_mixBlock 161 = .ok (.iload 4, 2) := by decide +kernel
theorem d_H_mixBlock_163 : decode c_H_mixBlock 163 = .ok (.iand, 1) := by decide +kernel
theorem d_H_mixBlock_164 : decode c_H_mixBlock 164 = .ok (.ixor, 1) := by decide +kernel
theorem d_H_mixBlock_165 : decode c_H_mixBlock 165 = .ok (.istore 15, 2) := by decide +kernel
theorem d_H_mixBlock_167 : decode c_H_mixBlock 167 = .ok (.iload 8, 2) := by decide +kernel
theorem d_H_mixBlock_169 : decode c_H_mixBlock 169 = .ok (.istore 9, 2) := by decide +kernel
theorem d_H_mixBlock_171 : decode c_H_mixBlock 171 = .ok (.iload 7, 2) := by decide +kernel
theorem d_H_mixBlock_173 : decode c_H_mixBlock 173 = .ok (.istore 8, 2) := by decide +kernel
theorem d_H_mixBlock_175 : decode c_H_mixBlock 175 = .ok (.iload 6, 2) := by decide +kernel
theorem d_H_mixBlock_177 : decode c_H_mixBlock 177 = .ok (.istore 7, 2) := by decide +kernel
theorem d_H_mixBlock_179 : decode c_H_mixBlock 179 = .ok (.iload 5, 2) := by decide +kernel
theorem d_H_mixBlock_181 : decode c_H_mixBlock 181 = .ok (.iload 13, 2) := by decide +kernel
theorem d_H_mixBlock_183 : decode c_H_mixBlock 183 = .ok (.iadd, 1) := by decide +kernel
theorem d_H_mixBlock_184 : decode c_H_mixBlock 184 = .ok (.istore 6, 2) := by decide +kernel
theorem d_H_mixBlock_186 : decode c_H_mixBlock 186 = .ok (.iload 4, 2) := by decide +kernel
theorem d_H_mixBlock_188 : decode c_H_mixBlock 188 = .ok (.istore 5, 2) := by decide +kernel
theorem d_H_mixBlock_190 : decode c_H_mixBlock 190 = .ok (.iload_n 3, 1) := by decide +kernel
theorem d_H_mixBlock_191 : decode c_H_mixBlock 191 = .ok (.istore 4, 2) := by decide +kernel
theorem d_H_mixBlock_193 : decode c_H_mixBlock 193 = .ok (.iload_n 2, 1) := by decide +kernel
theorem d_H_mixBlock_194 : decode c_H_mixBlock 194 = .ok (.istore_n 3, 1) := by decide +kernel
theorem d_H_mixBlock_195 : decode c_H_mixBlock 195 = .ok (.iload 13, 2) := by decide +kernel
theorem d_H_mixBlock_197 : decode c_H_mixBlock 197 = .ok (.iload 14, 2) := by decide +kernel
theorem d_H_mixBlock_199 : decode c_H_mixBlock 199 = .ok (.iadd, 1) := by decide +kernel
theorem d_H_mixBlock_200 : decode c_H_mixBlock 200 = .ok (.iload 15, 2) := by decide +kernel
theorem d_H_mixBlock_202 : decode c_H_mixBlock 202 = .ok (.iadd, 1) := by decide +kernel
theorem d_H_mixBlock_203 : decode c_H_mixBlock 203 = .ok (.istore_n 2, 1) := by decide +kernel
theorem d_H_mixBlock_204 : decode c_H_mixBlock 204 = .ok (.iinc 10 1, 3) := by decide +kernel
theorem d_H_mixBlock_207 : decode c_H_mixBlock 207 = .ok (.goto (-148), 3) := by decide +kernel
theorem d_H_mixBlock_210 : decode c_H_mixBlock 210 = .ok (.aload_n 1, 1) := by decide +kernel
theorem d_H_mixBlock_211 : decode c_H_mixBlock 211 = .ok (.iconst 0, 1) := by decide +kernel
theorem d_H_mixBlock_212 : decode c_H_mixBlock 212 = .ok (.getstatic 33, 3) := by decide +kernel
theorem d_H_mixBlock_215 : decode c_H_mixBlock 215 = .ok (.iconst 0, 1) := by decide +kernel
theorem d_H_mixBlock_216 : decode c_H_mixBlock 216 = .ok (.iaload, 1) := by decide +kernel
theorem d_H_mixBlock_217 : decode c_H_mixBlock 217 = .ok (.iload_n 2, 1) := by decide +kernel
theorem d_H_mixBlock_218 : decode c_H_mixBlock 218 = .ok (.iadd, 1) := by decide +kernel
theorem d_H_mixBlock_219 : decode c_H_mixBlock 219 = .ok (.iastore, 1) := by decide +kernel
theorem d_H_mixBlock_220 : decode c_H_mixBlock 220 = .ok (.aload_n 1, 1) := by decide +kernel
theorem d_H_mixBlock_221 : decode c_H_mixBlock 221 = .ok (.iconst 1, 1) := by decide +kernel
theorem d_H_mixBlock_222 : decode c_H_mixBlock 222 = .ok (.getstatic 33, 3) := by decide +kernel
theorem d_H_mixBlock_225 : decode c_H_mixBlock 225 = .ok (.iconst 1, 1) := by decide +kernel
theorem d_H_mixBlock_226 : decode c_H_mixBlock 226 = .ok (.iaload, 1) := by decide +kernel
theorem d_H_mixBlock_227 : decode c_H_mixBlock 227 = .ok (.iload_n 3, 1) := by decide +kernel
theorem d_H_mixBlock_228 : decode c_H_mixBlock 228 = .ok (.iadd, 1) := by decide +kernel
theorem d_H_mixBlock_229 : decode c_H_mixBlock 229 = .ok (.iastore, 1) := by decide +kernel
theorem d_H_mixBlock_230 : decode c_H_mixBlock 230 = .ok (.aload_n 1, 1) := by decide +kernel
theorem d_H_mixBlock_231 : decode c_H_mixBlock 231 = .ok (.iconst 2, 1) := by decide +kernel
theorem d_H_mixBlock_232 : decode c_H_mixBlock 232 = .ok (.getstatic 33, 3) := by decide +kernel
theorem d_H_mixBlock_235 : decode c_H_mixBlock 235 = .ok (.iconst 2, 1) := by decide +kernel
theorem d_H_mixBlock_236 : decode c_H_mixBlock 236 = .ok (.iaload, 1) := by decide +kernel
theorem d_H_mixBlock_237 : decode c_H_mixBlock 237 = .ok (.iload 4, 2) := by decide +kernel
theorem d_H_mixBlock_239 : decode c_H_mixBlock 239 = .ok (.iadd, 1) := by decide +kernel
theorem d_H_mixBlock_240 : decode c_H_mixBlock 240 = .ok (.iastore, 1) := by decide +kernel
theorem d_H_mixBlock_241 : decode c_H_mixBlock 241 = .ok (.aload_n 1, 1) := by decide +kernel
theorem d_H_mixBlock_242 : decode c_H_mixBlock 242 = .ok (.iconst 3, 1) := by decide +kernel
theorem d_H_mixBlock_243 : decode c_H_mixBlock 243 = .ok (.getstatic 33, 3) := by decide +kernel
theorem d_H_mixBlock_246 : decode c_H_mixBlock 246 = .ok (.iconst 3, 1) := by decide +kernel
theorem d_H_mixBlock_247 : decode c_H_mixBlock 247 = .ok (.iaload, 1) := by decide +kernel
theorem d_H_mixBlock_248 : decode c_H_mixBlock 248 = .ok (.iload 5, 2) := by decide +kernel
theorem d_H_mixBlock_250 : decode c_H_mixBlock 250 = .ok (.iadd, 1) := by decide +kernel
theorem d_H_mixBlock_251 : decode c_H_mixBlock 251 = .ok (.iastore, 1) := by decide +kernel
theorem d_H_mixBlock_252 : decode c_H_mixBlock 252 = .ok (.aload_n 1, 1) := by decide +kernel
theorem d_H_mixBlock_253 : decode c_H_mixBlock 253 = .ok (.iconst 4, 1) := by decide +kernel
theorem d_H_mixBlock_254 : decode c_H_mixBlock 254 = .ok (.getstatic 33, 3) := by decide +kernel
theorem d_H_mixBlock_257 : decode c_H_mixBlock 257 = .ok (.iconst 4, 1) := by decide +kernel
theorem d_H_mixBlock_258 : decode c_H_mixBlock 258 = .ok (.iaload, 1) := by decide +kernel
theorem d_H_mixBlock_259 : decode c_H_mixBlock 259 = .ok (.iload 6, 2) := by decide +kernel
theorem d_H_mixBlock_261 : decode c_H_mixBlock 261 = .ok (.iadd, 1) := by decide +kernel
theorem d_H_mixBlock_262 : decode c_H_mixBlock 262 = .ok (.iastore, 1) := by decide +kernel
theorem d_H_mixBlock_263 : decode c_H_mixBlock 263 = .ok (.aload_n 1, 1) := by decide +kernel
theorem d_H_mixBlock_264 : decode c_H_mixBlock 264 = .ok (.iconst 5, 1) := by decide +kernel
theorem d_H_mixBlock_265 : decode c_H_mixBlock 265 = .ok (.getstatic 33, 3) := by decide +kernel
theorem d_H_mixBlock_268 : decode c_H_mixBlock 268 = .ok (.iconst 5, 1) := by decide +kernel
theorem d_H_mixBlock_269 : decode c_H_mixBlock 269 = .ok (.iaload, 1) := by decide +kernel
theorem d_H_mixBlock_270 : decode c_H_mixBlock 270 = .ok (.iload 7, 2) := by decide +kernel
theorem d_H_mixBlock_272 : decode c_H_mixBlock 272 = .ok (.iadd, 1) := by decide +kernel
theorem d_H_mixBlock_273 : decode c_H_mixBlock 273 = .ok (.iastore, 1) := by decide +kernel
theorem d_H_mixBlock_274 : decode c_H_mixBlock 274 = .ok (.aload_n 1, 1) := by decide +kernel
theorem d_H_mixBlock_275 : decode c_H_mixBlock 275 = .ok (.bipush 6, 2) := by decide +kernel
theorem d_H_mixBlock_277 : decode c_H_mixBlock 277 = .ok (.getstatic 33, 3) := by decide +kernel
theorem d_H_mixBlock_280 : decode c_H_mixBlock 280 = .ok (.bipush 6, 2) := by decide +kernel
theorem d_H_mixBlock_282 : decode c_H_mixBlock 282 = .ok (.iaload, 1) := by decide +kernel
theorem d_H_mixBlock_283 : decode c_H_mixBlock 283 = .ok (.iload 8, 2) := by decide +kernel
theorem d_H_mixBlock_285 : decode c_H_mixBlock 285 = .ok (.iadd, 1) := by decide +kernel
theorem d_H_mixBlock_286 : decode c_H_mixBlock 286 = .ok (.iastore, 1) := by decide +kernel
theorem d_H_mixBlock_287 : decode c_H_mixBlock 287 = .ok (.aload_n 1, 1) := by decide +kernel
theorem d_H_mixBlock_288 : decode c_H_mixBlock 288 = .ok (.bipush 7, 2) := by decide +kernel
theorem d_H_mixBlock_290 : decode c_H_mixBlock 290 = .ok (.getstatic 33, 3) := by decide +kernel
theorem d_H_mixBlock_293 : decode c_H_mixBlock 293 = .ok (.bipush 7, 2) := by decide +kernel
theorem d_H_mixBlock_295 : decode c_H_mixBlock 295 = .ok (.iaload, 1) := by decide +kernel
theorem d_H_mixBlock_296 : decode c_H_mixBlock 296 = .ok (.iload 9, 2) := by decide +kernel
theorem d_H_mixBlock_298 : decode c_H_mixBlock 298 = .ok (.iadd, 1) := by decide +kernel
theorem d_H_mixBlock_299 : decode c_H_mixBlock 299 = .ok (.iastore, 1) := by decide +kernel
theorem d_H_mixBlock_300 : decode c_H_mixBlock 300 = .ok (.return_, 1) := by decide +kernel
abbrev c_H_turnRight : ByteArray := prog_6_method_6_code
abbrev y_H_turnRight : MethodName := ⟨"BlobStore$Sha256", "turnRight", "(II)I"⟩
theorem i_H_turnRight : bIs y_H_turnRight 2 := Or.inl ⟨_, _, t2_18⟩
theorem d_H_turnRight_0 : decode c_H_turnRight 0 = .ok (.iload_n 0, 1) := by decide +kernel
theorem d_H_turnRight_1 : decode c_H_turnRight 1 = .ok (.iload_n 1, 1) := by decide +kernel
theorem d_H_turnRight_2 : decode c_H_turnRight 2 = .ok (.iushr, 1) := by decide +kernel
theorem d_H_turnRight_3 : decode c_H_turnRight 3 = .ok (.iload_n 0, 1) := by decide +kernel
theorem d_H_turnRight_4 : decode c_H_turnRight 4 = .ok (.bipush 32, 2) := by decide +kernel
theorem d_H_turnRight_6 : decode c_H_turnRight 6 = .ok (.iload_n 1, 1) := by decide +kernel
theorem d_H_turnRight_7 : decode c_H_turnRight 7 = .ok (.isub, 1) := by decide +kernel
theorem d_H_turnRight_8 : decode c_H_turnRight 8 = .ok (.ishl, 1) := by decide +kernel
theorem d_H_turnRight_9 : decode c_H_turnRight 9 = .ok (.ior, 1) := by decide +kernel
theorem d_H_turnRight_10 : decode c_H_turnRight 10 = .ok (.ireturn, 1) := by decide +kernel
