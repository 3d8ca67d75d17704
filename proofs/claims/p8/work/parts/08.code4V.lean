abbrev c_V_init : ByteArray := prog_7_method_1_code
abbrev y_V_init : MethodName := ⟨"BlobStore$Version", "<init>", "()V"⟩
theorem i_V_init : bIs y_V_init 1 := Or.inl ⟨_, _, t1_125⟩
theorem d_V_init_0 : decode c_V_init 0 = .ok (.aload_n 0, 1) := by decide +kernel
theorem d_V_init_1 : decode c_V_init 1 = .ok (.invokespecial 3, 3) := by decide +kernel
theorem d_V_init_4 : decode c_V_init 4 = .ok (.aload_n 0, 1) := by decide +kernel
theorem d_V_init_5 : decode c_V_init 5 = .ok (.iconst 0, 1) := by decide +kernel
theorem d_V_init_6 : decode c_V_init 6 = .ok (.putfield 9, 3) := by decide +kernel
theorem d_V_init_9 : decode c_V_init 9 = .ok (.aload_n 0, 1) := by decide +kernel
theorem d_V_init_10 : decode c_V_init 10 = .ok (.iconst 0, 1) := by decide +kernel
theorem d_V_init_11 : decode c_V_init 11 = .ok (.putfield 15, 3) := by decide +kernel
theorem d_V_init_14 : decode c_V_init 14 = .ok (.aload_n 0, 1) := by decide +kernel
theorem d_V_init_15 : decode c_V_init 15 = .ok (.iconst 0, 1) := by decide +kernel
theorem d_V_init_16 : decode c_V_init 16 = .ok (.putfield 19, 3) := by decide +kernel
theorem d_V_init_19 : decode c_V_init 19 = .ok (.aload_n 0, 1) := by decide +kernel
theorem d_V_init_20 : decode c_V_init 20 = .ok (.new 22, 3) := by decide +kernel
theorem d_V_init_23 : decode c_V_init 23 = .ok (.dup, 1) := by decide +kernel
theorem d_V_init_24 : decode c_V_init 24 = .ok (.bipush 18, 2) := by decide +kernel
theorem d_V_init_26 : decode c_V_init 26 = .ok (.invokespecial 24, 3) := by decide +kernel
theorem d_V_init_29 : decode c_V_init 29 = .ok (.putfield 27, 3) := by decide +kernel
theorem d_V_init_32 : decode c_V_init 32 = .ok (.return_, 1) := by decide +kernel
abbrev c_V_comeFrom : ByteArray := prog_7_method_2_code
abbrev y_V_comeFrom : MethodName := ⟨"BlobStore$Version", "comeFrom", "(LBlobStore$Session;)V"⟩
theorem i_V_comeFrom : bIs y_V_comeFrom 3 := Or.inl ⟨_, _, t3_26⟩
theorem d_V_comeFrom_0 : decode c_V_comeFrom 0 = .ok (.aload_n 0, 1) := by decide +kernel
theorem d_V_comeFrom_1 : decode c_V_comeFrom 1 = .ok (.iconst 1, 1) := by decide +kernel
theorem d_V_comeFrom_2 : decode c_V_comeFrom 2 = .ok (.putfield 9, 3) := by decide +kernel
theorem d_V_comeFrom_5 : decode c_V_comeFrom 5 = .ok (.aload_n 0, 1) := by decide +kernel
theorem d_V_comeFrom_6 : decode c_V_comeFrom 6 = .ok (.aload_n 1, 1) := by decide +kernel
theorem d_V_comeFrom_7 : decode c_V_comeFrom 7 = .ok (.getfield 31, 3) := by decide +kernel
theorem d_V_comeFrom_10 : decode c_V_comeFrom 10 = .ok (.putfield 15, 3) := by decide +kernel
theorem d_V_comeFrom_13 : decode c_V_comeFrom 13 = .ok (.aload_n 0, 1) := by decide +kernel
theorem d_V_comeFrom_14 : decode c_V_comeFrom 14 = .ok (.aload_n 1, 1) := by decide +kernel
theorem d_V_comeFrom_15 : decode c_V_comeFrom 15 = .ok (.getfield 34, 3) := by decide +kernel
theorem d_V_comeFrom_18 : decode c_V_comeFrom 18 = .ok (.putfield 19, 3) := by decide +kernel
theorem d_V_comeFrom_21 : decode c_V_comeFrom 21 = .ok (.iconst 0, 1) := by decide +kernel
theorem d_V_comeFrom_22 : decode c_V_comeFrom 22 = .ok (.istore_n 2, 1) := by decide +kernel
theorem d_V_comeFrom_23 : decode c_V_comeFrom 23 = .ok (.iload_n 2, 1) := by decide +kernel
theorem d_V_comeFrom_24 : decode c_V_comeFrom 24 = .ok (.bipush 6, 2) := by decide +kernel
theorem d_V_comeFrom_26 : decode c_V_comeFrom 26 = .ok (.if_icmp .ge 22, 3) := by decide +kernel
theorem d_V_comeFrom_29 : decode c_V_comeFrom 29 = .ok (.aload_n 0, 1) := by decide +kernel
theorem d_V_comeFrom_30 : decode c_V_comeFrom 30 = .ok (.getfield 27, 3) := by decide +kernel
theorem d_V_comeFrom_33 : decode c_V_comeFrom 33 = .ok (.aload_n 1, 1) := by decide +kernel
theorem d_V_comeFrom_34 : decode c_V_comeFrom 34 = .ok (.getfield 35, 3) := by decide +kernel
theorem d_V_comeFrom_37 : decode c_V_comeFrom 37 = .ok (.iload_n 2, 1) := by decide +kernel
theorem d_V_comeFrom_38 : decode c_V_comeFrom 38 = .ok (.aaload, 1) := by decide +kernel
theorem d_V_comeFrom_39 : decode c_V_comeFrom 39 = .ok (.invokevirtual 39, 3) := by decide +kernel
theorem d_V_comeFrom_42 : decode c_V_comeFrom 42 = .ok (.iinc 2 1, 3) := by decide +kernel
theorem d_V_comeFrom_45 : decode c_V_comeFrom 45 = .ok (.goto (-22), 3) := by decide +kernel
theorem d_V_comeFrom_48 : decode c_V_comeFrom 48 = .ok (.return_, 1) := by decide +kernel
