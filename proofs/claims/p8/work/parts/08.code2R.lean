abbrev c_R_init : ByteArray := prog_4_method_1_code
abbrev y_R_init : MethodName := ⟨"BlobStore$Row", "<init>", "(I)V"⟩
theorem i_R_init : bIs y_R_init 2 := Or.inl ⟨_, _, t1_67⟩
theorem d_R_init_0 : decode c_R_init 0 = .ok (.aload_n 0, 1) := by decide +kernel
theorem d_R_init_1 : decode c_R_init 1 = .ok (.invokespecial 1, 3) := by decide +kernel
theorem d_R_init_4 : decode c_R_init 4 = .ok (.aload_n 0, 1) := by decide +kernel
theorem d_R_init_5 : decode c_R_init 5 = .ok (.iconst 0, 1) := by decide +kernel
theorem d_R_init_6 : decode c_R_init 6 = .ok (.putfield 7, 3) := by decide +kernel
theorem d_R_init_9 : decode c_R_init 9 = .ok (.aload_n 0, 1) := by decide +kernel
theorem d_R_init_10 : decode c_R_init 10 = .ok (.iload_n 1, 1) := by decide +kernel
theorem d_R_init_11 : decode c_R_init 11 = .ok (.newarray .int, 2) := by decide +kernel
theorem d_R_init_13 : decode c_R_init 13 = .ok (.putfield 13, 3) := by decide +kernel
theorem d_R_init_16 : decode c_R_init 16 = .ok (.return_, 1) := by decide +kernel
abbrev c_R_add : ByteArray := prog_4_method_2_code
abbrev y_R_add : MethodName := ⟨"BlobStore$Row", "add", "(I)V"⟩
theorem i_R_add : bIs y_R_add 2 := Or.inl ⟨_, _, t2_234⟩
theorem d_R_add_0 : decode c_R_add 0 = .ok (.aload_n 0, 1) := by decide +kernel
theorem d_R_add_1 : decode c_R_add 1 = .ok (.getfield 7, 3) := by decide +kernel
theorem d_R_add_4 : decode c_R_add 4 = .ok (.aload_n 0, 1) := by decide +kernel
theorem d_R_add_5 : decode c_R_add 5 = .ok (.getfield 13, 3) := by decide +kernel
theorem d_R_add_8 : decode c_R_add 8 = .ok (.arraylength, 1) := by decide +kernel
theorem d_R_add_9 : decode c_R_add 9 = .ok (.if_icmp .ge 23, 3) := by decide +kernel
theorem d_R_add_12 : decode c_R_add 12 = .ok (.aload_n 0, 1) := by decide +kernel
theorem d_R_add_13 : decode c_R_add 13 = .ok (.getfield 13, 3) := by decide +kernel
theorem d_R_add_16 : decode c_R_add 16 = .ok (.aload_n 0, 1) := by decide +kernel
theorem d_R_add_17 : decode c_R_add 17 = .ok (.getfield 7, 3) := by decide +kernel
theorem d_R_add_20 : decode c_R_add 20 = .ok (.iload_n 1, 1) := by decide +kernel
theorem d_R_add_21 : decode c_R_add 21 = .ok (.iastore, 1) := by decide +kernel
theorem d_R_add_22 : decode c_R_add 22 = .ok (.aload_n 0, 1) := by decide +kernel
theorem d_R_add_23 : decode c_R_add 23 = .ok (.dup, 1) := by decide +kernel
theorem d_R_add_24 : decode c_R_add 24 = .ok (.getfield 7, 3) := by decide +kernel
theorem d_R_add_27 : decode c_R_add 27 = .ok (.iconst 1, 1) := by decide +kernel
theorem d_R_add_28 : decode c_R_add 28 = .ok (.iadd, 1) := by decide +kernel
theorem d_R_add_29 : decode c_R_add 29 = .ok (.putfield 7, 3) := by decide +kernel
theorem d_R_add_32 : decode c_R_add 32 = .ok (.return_, 1) := by decide +kernel
abbrev c_R_addAll : ByteArray := prog_4_method_3_code
abbrev y_R_addAll : MethodName := ⟨"BlobStore$Row", "addAll", "(LBlobStore$Row;)V"⟩
theorem i_R_addAll : bIs y_R_addAll 3 := Or.inl ⟨_, _, t3_13⟩
theorem d_R_addAll_0 : decode c_R_addAll 0 = .ok (.iconst 0, 1) := by decide +kernel
theorem d_R_addAll_1 : decode c_R_addAll 1 = .ok (.istore_n 2, 1) := by decide +kernel
theorem d_R_addAll_2 : decode c_R_addAll 2 = .ok (.iload_n 2, 1) := by decide +kernel
theorem d_R_addAll_3 : decode c_R_addAll 3 = .ok (.aload_n 1, 1) := by decide +kernel
theorem d_R_addAll_4 : decode c_R_addAll 4 = .ok (.getfield 7, 3) := by decide +kernel
theorem d_R_addAll_7 : decode c_R_addAll 7 = .ok (.if_icmp .ge 19, 3) := by decide +kernel
theorem d_R_addAll_10 : decode c_R_addAll 10 = .ok (.aload_n 0, 1) := by decide +kernel
theorem d_R_addAll_11 : decode c_R_addAll 11 = .ok (.aload_n 1, 1) := by decide +kernel
theorem d_R_addAll_12 : decode c_R_addAll 12 = .ok (.getfield 13, 3) := by decide +kernel
theorem d_R_addAll_15 : decode c_R_addAll 15 = .ok (.iload_n 2, 1) := by decide +kernel
theorem d_R_addAll_16 : decode c_R_addAll 16 = .ok (.iaload, 1) := by decide +kernel
theorem d_R_addAll_17 : decode c_R_addAll 17 = .ok (.invokevirtual 17, 3) := by decide +kernel
theorem d_R_addAll_20 : decode c_R_addAll 20 = .ok (.iinc 2 1, 3) := by decide +kernel
theorem d_R_addAll_23 : decode c_R_addAll 23 = .ok (.goto (-21), 3) := by decide +kernel
theorem d_R_addAll_26 : decode c_R_addAll 26 = .ok (.return_, 1) := by decide +kernel
abbrev c_R_copyFrom : ByteArray := prog_4_method_4_code
abbrev y_R_copyFrom : MethodName := ⟨"BlobStore$Row", "copyFrom", "(LBlobStore$Row;)V"⟩
theorem i_R_copyFrom : bIs y_R_copyFrom 2 := Or.inl ⟨_, _, t3_9⟩
theorem d_R_copyFrom_0 : decode c_R_copyFrom 0 = .ok (.aload_n 0, 1) := by decide +kernel
theorem d_R_copyFrom_1 : decode c_R_copyFrom 1 = .ok (.iconst 0, 1) := by decide +kernel
theorem d_R_copyFrom_2 : decode c_R_copyFrom 2 = .ok (.putfield 7, 3) := by decide +kernel
theorem d_R_copyFrom_5 : decode c_R_copyFrom 5 = .ok (.aload_n 0, 1) := by decide +kernel
theorem d_R_copyFrom_6 : decode c_R_copyFrom 6 = .ok (.aload_n 1, 1) := by decide +kernel
theorem d_R_copyFrom_7 : decode c_R_copyFrom 7 = .ok (.invokevirtual 21, 3) := by decide +kernel
theorem d_R_copyFrom_10 : decode c_R_copyFrom 10 = .ok (.return_, 1) := by decide +kernel
abbrev c_R_countInto : ByteArray := prog_4_method_5_code
abbrev y_R_countInto : MethodName := ⟨"BlobStore$Row", "countInto", "([I)V"⟩
theorem i_R_countInto : bIs y_R_countInto 3 := Or.inl ⟨_, _, t1_231⟩
theorem d_R_countInto_0 : decode c_R_countInto 0 = .ok (.iconst 0, 1) := by decide +kernel
theorem d_R_countInto_1 : decode c_R_countInto 1 = .ok (.istore_n 2, 1) := by decide +kernel
theorem d_R_countInto_2 : decode c_R_countInto 2 = .ok (.iload_n 2, 1) := by decide +kernel
theorem d_R_countInto_3 : decode c_R_countInto 3 = .ok (.aload_n 0, 1) := by decide +kernel
theorem d_R_countInto_4 : decode c_R_countInto 4 = .ok (.getfield 7, 3) := by decide +kernel
theorem d_R_countInto_7 : decode c_R_countInto 7 = .ok (.if_icmp .ge 21, 3) := by decide +kernel
theorem d_R_countInto_10 : decode c_R_countInto 10 = .ok (.aload_n 1, 1) := by decide +kernel
theorem d_R_countInto_11 : decode c_R_countInto 11 = .ok (.aload_n 0, 1) := by decide +kernel
theorem d_R_countInto_12 : decode c_R_countInto 12 = .ok (.getfield 13, 3) := by decide +kernel
theorem d_R_countInto_15 : decode c_R_countInto 15 = .ok (.iload_n 2, 1) := by decide +kernel
theorem d_R_countInto_16 : decode c_R_countInto 16 = .ok (.iaload, 1) := by decide +kernel
theorem d_R_countInto_17 : decode c_R_countInto 17 = .ok (.dup2, 1) := by decide +kernel
theorem d_R_countInto_18 : decode c_R_countInto 18 = .ok (.iaload, 1) := by decide +kernel
theorem d_R_countInto_19 : decode c_R_countInto 19 = .ok (.iconst 1, 1) := by decide +kernel
theorem d_R_countInto_20 : decode c_R_countInto 20 = .ok (.iadd, 1) := by decide +kernel
theorem d_R_countInto_21 : decode c_R_countInto 21 = .ok (.iastore, 1) := by decide +kernel
theorem d_R_countInto_22 : decode c_R_countInto 22 = .ok (.iinc 2 1, 3) := by decide +kernel
theorem d_R_countInto_25 : decode c_R_countInto 25 = .ok (.goto (-23), 3) := by decide +kernel
theorem d_R_countInto_28 : decode c_R_countInto 28 = .ok (.return_, 1) := by decide +kernel
