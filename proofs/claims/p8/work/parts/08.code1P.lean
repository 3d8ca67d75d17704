abbrev c_P_init : ByteArray := prog_3_method_1_code
abbrev y_P_init : MethodName := ⟨"BlobStore$Power", "<init>", "()V"⟩
theorem i_P_init : bIs y_P_init 1 := Or.inl ⟨_, _, t1_32⟩
theorem d_P_init_0 : decode c_P_init 0 = .ok (.aload_n 0, 1) := by decide +kernel
theorem d_P_init_1 : decode c_P_init 1 = .ok (.invokespecial 1, 3) := by decide +kernel
theorem d_P_init_4 : decode c_P_init 4 = .ok (.aload_n 0, 1) := by decide +kernel
theorem d_P_init_5 : decode c_P_init 5 = .ok (.iconst 0, 1) := by decide +kernel
theorem d_P_init_6 : decode c_P_init 6 = .ok (.putfield 7, 3) := by decide +kernel
theorem d_P_init_9 : decode c_P_init 9 = .ok (.aload_n 0, 1) := by decide +kernel
theorem d_P_init_10 : decode c_P_init 10 = .ok (.iconst (-1), 1) := by decide +kernel
theorem d_P_init_11 : decode c_P_init 11 = .ok (.putfield 13, 3) := by decide +kernel
theorem d_P_init_14 : decode c_P_init 14 = .ok (.aload_n 0, 1) := by decide +kernel
theorem d_P_init_15 : decode c_P_init 15 = .ok (.iconst 0, 1) := by decide +kernel
theorem d_P_init_16 : decode c_P_init 16 = .ok (.putfield 16, 3) := by decide +kernel
theorem d_P_init_19 : decode c_P_init 19 = .ok (.return_, 1) := by decide +kernel
abbrev c_P_requireOn : ByteArray := prog_3_method_2_code
abbrev y_P_requireOn : MethodName := ⟨"BlobStore$Power", "requireOn", "()V"⟩
theorem i_P_requireOn : bIs y_P_requireOn 1 := Or.inl ⟨_, _, t2_64⟩
theorem d_P_requireOn_0 : decode c_P_requireOn 0 = .ok (.aload_n 0, 1) := by decide +kernel
theorem d_P_requireOn_1 : decode c_P_requireOn 1 = .ok (.getfield 16, 3) := by decide +kernel
theorem d_P_requireOn_4 : decode c_P_requireOn 4 = .ok (.ifCond .eq 13, 3) := by decide +kernel
theorem d_P_requireOn_7 : decode c_P_requireOn 7 = .ok (.new 20, 3) := by decide +kernel
theorem d_P_requireOn_10 : decode c_P_requireOn 10 = .ok (.dup, 1) := by decide +kernel
theorem d_P_requireOn_11 : decode c_P_requireOn 11 = .ok (.ldc 22, 2) := by decide +kernel
theorem d_P_requireOn_13 : decode c_P_requireOn 13 = .ok (.invokespecial 24, 3) := by decide +kernel
theorem d_P_requireOn_16 : decode c_P_requireOn 16 = .ok (.athrow, 1) := by decide +kernel
theorem d_P_requireOn_17 : decode c_P_requireOn 17 = .ok (.return_, 1) := by decide +kernel
abbrev c_P_spendWrite : ByteArray := prog_3_method_3_code
abbrev y_P_spendWrite : MethodName := ⟨"BlobStore$Power", "spendWrite", "()V"⟩
theorem i_P_spendWrite : bIs y_P_spendWrite 1 := Or.inl ⟨_, _, t2_161⟩
theorem d_P_spendWrite_0 : decode c_P_spendWrite 0 = .ok (.aload_n 0, 1) := by decide +kernel
theorem d_P_spendWrite_1 : decode c_P_spendWrite 1 = .ok (.getfield 13, 3) := by decide +kernel
theorem d_P_spendWrite_4 : decode c_P_spendWrite 4 = .ok (.ifCond .ne 18, 3) := by decide +kernel
theorem d_P_spendWrite_7 : decode c_P_spendWrite 7 = .ok (.aload_n 0, 1) := by decide +kernel
theorem d_P_spendWrite_8 : decode c_P_spendWrite 8 = .ok (.iconst 1, 1) := by decide +kernel
theorem d_P_spendWrite_9 : decode c_P_spendWrite 9 = .ok (.putfield 16, 3) := by decide +kernel
theorem d_P_spendWrite_12 : decode c_P_spendWrite 12 = .ok (.new 27, 3) := by decide +kernel
theorem d_P_spendWrite_15 : decode c_P_spendWrite 15 = .ok (.dup, 1) := by decide +kernel
theorem d_P_spendWrite_16 : decode c_P_spendWrite 16 = .ok (.ldc 29, 2) := by decide +kernel
theorem d_P_spendWrite_18 : decode c_P_spendWrite 18 = .ok (.invokespecial 31, 3) := by decide +kernel
theorem d_P_spendWrite_21 : decode c_P_spendWrite 21 = .ok (.athrow, 1) := by decide +kernel
theorem d_P_spendWrite_22 : decode c_P_spendWrite 22 = .ok (.aload_n 0, 1) := by decide +kernel
theorem d_P_spendWrite_23 : decode c_P_spendWrite 23 = .ok (.getfield 13, 3) := by decide +kernel
theorem d_P_spendWrite_26 : decode c_P_spendWrite 26 = .ok (.ifCond .le 13, 3) := by decide +kernel
theorem d_P_spendWrite_29 : decode c_P_spendWrite 29 = .ok (.aload_n 0, 1) := by decide +kernel
theorem d_P_spendWrite_30 : decode c_P_spendWrite 30 = .ok (.dup, 1) := by decide +kernel
theorem d_P_spendWrite_31 : decode c_P_spendWrite 31 = .ok (.getfield 13, 3) := by decide +kernel
theorem d_P_spendWrite_34 : decode c_P_spendWrite 34 = .ok (.iconst 1, 1) := by decide +kernel
theorem d_P_spendWrite_35 : decode c_P_spendWrite 35 = .ok (.isub, 1) := by decide +kernel
theorem d_P_spendWrite_36 : decode c_P_spendWrite 36 = .ok (.putfield 13, 3) := by decide +kernel
theorem d_P_spendWrite_39 : decode c_P_spendWrite 39 = .ok (.aload_n 0, 1) := by decide +kernel
theorem d_P_spendWrite_40 : decode c_P_spendWrite 40 = .ok (.dup, 1) := by decide +kernel
theorem d_P_spendWrite_41 : decode c_P_spendWrite 41 = .ok (.getfield 7, 3) := by decide +kernel
theorem d_P_spendWrite_44 : decode c_P_spendWrite 44 = .ok (.iconst 1, 1) := by decide +kernel
theorem d_P_spendWrite_45 : decode c_P_spendWrite 45 = .ok (.iadd, 1) := by decide +kernel
theorem d_P_spendWrite_46 : decode c_P_spendWrite 46 = .ok (.putfield 7, 3) := by decide +kernel
theorem d_P_spendWrite_49 : decode c_P_spendWrite 49 = .ok (.return_, 1) := by decide +kernel
abbrev c_P_tellCut : ByteArray := prog_3_method_4_code
abbrev y_P_tellCut : MethodName := ⟨"BlobStore$Power", "tellCut", "(I)V"⟩
theorem i_P_tellCut : bIs y_P_tellCut 2 := Or.inl ⟨_, _, t3_64⟩
theorem d_P_tellCut_0 : decode c_P_tellCut 0 = .ok (.aload_n 0, 1) := by decide +kernel
theorem d_P_tellCut_1 : decode c_P_tellCut 1 = .ok (.iload_n 1, 1) := by decide +kernel
theorem d_P_tellCut_2 : decode c_P_tellCut 2 = .ok (.putfield 13, 3) := by decide +kernel
theorem d_P_tellCut_5 : decode c_P_tellCut 5 = .ok (.return_, 1) := by decide +kernel
abbrev c_P_turnOn : ByteArray := prog_3_method_5_code
abbrev y_P_turnOn : MethodName := ⟨"BlobStore$Power", "turnOn", "()Z"⟩
theorem i_P_turnOn : bIs y_P_turnOn 1 := Or.inl ⟨_, _, t1_184⟩
theorem d_P_turnOn_0 : decode c_P_turnOn 0 = .ok (.aload_n 0, 1) := by decide +kernel
theorem d_P_turnOn_1 : decode c_P_turnOn 1 = .ok (.getfield 16, 3) := by decide +kernel
theorem d_P_turnOn_4 : decode c_P_turnOn 4 = .ok (.ifCond .ne 5, 3) := by decide +kernel
theorem d_P_turnOn_7 : decode c_P_turnOn 7 = .ok (.iconst 0, 1) := by decide +kernel
theorem d_P_turnOn_8 : decode c_P_turnOn 8 = .ok (.ireturn, 1) := by decide +kernel
theorem d_P_turnOn_9 : decode c_P_turnOn 9 = .ok (.aload_n 0, 1) := by decide +kernel
theorem d_P_turnOn_10 : decode c_P_turnOn 10 = .ok (.iconst 0, 1) := by decide +kernel
theorem d_P_turnOn_11 : decode c_P_turnOn 11 = .ok (.putfield 16, 3) := by decide +kernel
theorem d_P_turnOn_14 : decode c_P_turnOn 14 = .ok (.aload_n 0, 1) := by decide +kernel
theorem d_P_turnOn_15 : decode c_P_turnOn 15 = .ok (.iconst (-1), 1) := by decide +kernel
theorem d_P_turnOn_16 : decode c_P_turnOn 16 = .ok (.putfield 13, 3) := by decide +kernel
theorem d_P_turnOn_19 : decode c_P_turnOn 19 = .ok (.iconst 1, 1) := by decide +kernel
theorem d_P_turnOn_20 : decode c_P_turnOn 20 = .ok (.ireturn, 1) := by decide +kernel
