abbrev c_S_init : ByteArray := prog_5_method_1_code
abbrev y_S_init : MethodName := ⟨"BlobStore$Session", "<init>", "()V"⟩
theorem i_S_init : bIs y_S_init 2 := Or.inl ⟨_, _, t1_99⟩
theorem d_S_init_0 : decode c_S_init 0 = .ok (.aload_n 0, 1) := by decide +kernel
theorem d_S_init_1 : decode c_S_init 1 = .ok (.invokespecial 3, 3) := by decide +kernel
theorem d_S_init_4 : decode c_S_init 4 = .ok (.aload_n 0, 1) := by decide +kernel
theorem d_S_init_5 : decode c_S_init 5 = .ok (.iconst 0, 1) := by decide +kernel
theorem d_S_init_6 : decode c_S_init 6 = .ok (.putfield 9, 3) := by decide +kernel
theorem d_S_init_9 : decode c_S_init 9 = .ok (.aload_n 0, 1) := by decide +kernel
theorem d_S_init_10 : decode c_S_init 10 = .ok (.iconst 0, 1) := by decide +kernel
theorem d_S_init_11 : decode c_S_init 11 = .ok (.putfield 15, 3) := by decide +kernel
theorem d_S_init_14 : decode c_S_init 14 = .ok (.aload_n 0, 1) := by decide +kernel
theorem d_S_init_15 : decode c_S_init 15 = .ok (.iconst 0, 1) := by decide +kernel
theorem d_S_init_16 : decode c_S_init 16 = .ok (.putfield 19, 3) := by decide +kernel
theorem d_S_init_19 : decode c_S_init 19 = .ok (.aload_n 0, 1) := by decide +kernel
theorem d_S_init_20 : decode c_S_init 20 = .ok (.bipush 6, 2) := by decide +kernel
theorem d_S_init_22 : decode c_S_init 22 = .ok (.anewarray 22, 3) := by decide +kernel
theorem d_S_init_25 : decode c_S_init 25 = .ok (.putfield 24, 3) := by decide +kernel
theorem d_S_init_28 : decode c_S_init 28 = .ok (.iconst 0, 1) := by decide +kernel
theorem d_S_init_29 : decode c_S_init 29 = .ok (.istore_n 1, 1) := by decide +kernel
theorem d_S_init_30 : decode c_S_init 30 = .ok (.iload_n 1, 1) := by decide +kernel
theorem d_S_init_31 : decode c_S_init 31 = .ok (.bipush 6, 2) := by decide +kernel
theorem d_S_init_33 : decode c_S_init 33 = .ok (.if_icmp .ge 23, 3) := by decide +kernel
theorem d_S_init_36 : decode c_S_init 36 = .ok (.aload_n 0, 1) := by decide +kernel
theorem d_S_init_37 : decode c_S_init 37 = .ok (.getfield 24, 3) := by decide +kernel
theorem d_S_init_40 : decode c_S_init 40 = .ok (.iload_n 1, 1) := by decide +kernel
theorem d_S_init_41 : decode c_S_init 41 = .ok (.new 22, 3) := by decide +kernel
theorem d_S_init_44 : decode c_S_init 44 = .ok (.dup, 1) := by decide +kernel
theorem d_S_init_45 : decode c_S_init 45 = .ok (.iconst 3, 1) := by decide +kernel
theorem d_S_init_46 : decode c_S_init 46 = .ok (.invokespecial 28, 3) := by decide +kernel
theorem d_S_init_49 : decode c_S_init 49 = .ok (.aastore, 1) := by decide +kernel
theorem d_S_init_50 : decode c_S_init 50 = .ok (.iinc 1 1, 3) := by decide +kernel
theorem d_S_init_53 : decode c_S_init 53 = .ok (.goto (-23), 3) := by decide +kernel
theorem d_S_init_56 : decode c_S_init 56 = .ok (.return_, 1) := by decide +kernel
abbrev c_S_start : ByteArray := prog_5_method_2_code
abbrev y_S_start : MethodName := ⟨"BlobStore$Session", "start", "(II)V"⟩
theorem i_S_start : bIs y_S_start 4 := Or.inl ⟨_, _, t2_181⟩
theorem d_S_start_0 : decode c_S_start 0 = .ok (.aload_n 0, 1) := by decide +kernel
theorem d_S_start_1 : decode c_S_start 1 = .ok (.iconst 1, 1) := by decide +kernel
theorem d_S_start_2 : decode c_S_start 2 = .ok (.putfield 9, 3) := by decide +kernel
theorem d_S_start_5 : decode c_S_start 5 = .ok (.aload_n 0, 1) := by decide +kernel
theorem d_S_start_6 : decode c_S_start 6 = .ok (.iload_n 1, 1) := by decide +kernel
theorem d_S_start_7 : decode c_S_start 7 = .ok (.putfield 15, 3) := by decide +kernel
theorem d_S_start_10 : decode c_S_start 10 = .ok (.aload_n 0, 1) := by decide +kernel
theorem d_S_start_11 : decode c_S_start 11 = .ok (.iload_n 2, 1) := by decide +kernel
theorem d_S_start_12 : decode c_S_start 12 = .ok (.putfield 19, 3) := by decide +kernel
theorem d_S_start_15 : decode c_S_start 15 = .ok (.iconst 0, 1) := by decide +kernel
theorem d_S_start_16 : decode c_S_start 16 = .ok (.istore_n 3, 1) := by decide +kernel
theorem d_S_start_17 : decode c_S_start 17 = .ok (.iload_n 3, 1) := by decide +kernel
theorem d_S_start_18 : decode c_S_start 18 = .ok (.bipush 6, 2) := by decide +kernel
theorem d_S_start_20 : decode c_S_start 20 = .ok (.if_icmp .ge 19, 3) := by decide +kernel
theorem d_S_start_23 : decode c_S_start 23 = .ok (.aload_n 0, 1) := by decide +kernel
theorem d_S_start_24 : decode c_S_start 24 = .ok (.getfield 24, 3) := by decide +kernel
theorem d_S_start_27 : decode c_S_start 27 = .ok (.iload_n 3, 1) := by decide +kernel
theorem d_S_start_28 : decode c_S_start 28 = .ok (.aaload, 1) := by decide +kernel
theorem d_S_start_29 : decode c_S_start 29 = .ok (.iconst 0, 1) := by decide +kernel
theorem d_S_start_30 : decode c_S_start 30 = .ok (.putfield 31, 3) := by decide +kernel
theorem d_S_start_33 : decode c_S_start 33 = .ok (.iinc 3 1, 3) := by decide +kernel
theorem d_S_start_36 : decode c_S_start 36 = .ok (.goto (-19), 3) := by decide +kernel
theorem d_S_start_39 : decode c_S_start 39 = .ok (.return_, 1) := by decide +kernel
abbrev c_S_countInto : ByteArray := prog_5_method_3_code
abbrev y_S_countInto : MethodName := ⟨"BlobStore$Session", "countInto", "([I)V"⟩
theorem i_S_countInto : bIs y_S_countInto 3 := Or.inl ⟨_, _, t1_227⟩
theorem d_S_countInto_0 : decode c_S_countInto 0 = .ok (.iconst 0, 1) := by decide +kernel
theorem d_S_countInto_1 : decode c_S_countInto 1 = .ok (.istore_n 2, 1) := by decide +kernel
theorem d_S_countInto_2 : decode c_S_countInto 2 = .ok (.iload_n 2, 1) := by decide +kernel
theorem d_S_countInto_3 : decode c_S_countInto 3 = .ok (.bipush 6, 2) := by decide +kernel
theorem d_S_countInto_5 : decode c_S_countInto 5 = .ok (.if_icmp .ge 19, 3) := by decide +kernel
theorem d_S_countInto_8 : decode c_S_countInto 8 = .ok (.aload_n 0, 1) := by decide +kernel
theorem d_S_countInto_9 : decode c_S_countInto 9 = .ok (.getfield 24, 3) := by decide +kernel
theorem d_S_countInto_12 : decode c_S_countInto 12 = .ok (.iload_n 2, 1) := by decide +kernel
theorem d_S_countInto_13 : decode c_S_countInto 13 = .ok (.aaload, 1) := by decide +kernel
theorem d_S_countInto_14 : decode c_S_countInto 14 = .ok (.aload_n 1, 1) := by decide +kernel
theorem d_S_countInto_15 : decode c_S_countInto 15 = .ok (.invokevirtual 34, 3) := by decide +kernel
theorem d_S_countInto_18 : decode c_S_countInto 18 = .ok (.iinc 2 1, 3) := by decide +kernel
theorem d_S_countInto_21 : decode c_S_countInto 21 = .ok (.goto (-19), 3) := by decide +kernel
theorem d_S_countInto_24 : decode c_S_countInto 24 = .ok (.return_, 1) := by decide +kernel
