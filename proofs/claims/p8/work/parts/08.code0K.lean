abbrev c_K_init : ByteArray := prog_2_method_1_code
abbrev y_K_init : MethodName := ⟨"BlobStore$Chunk", "<init>", "()V"⟩
theorem i_K_init : bIs y_K_init 1 := Or.inl ⟨_, _, t1_82⟩
theorem d_K_init_0 : decode c_K_init 0 = .ok (.aload_n 0, 1) := by decide +kernel
theorem d_K_init_1 : decode c_K_init 1 = .ok (.invokespecial 3, 3) := by decide +kernel
theorem d_K_init_4 : decode c_K_init 4 = .ok (.aload_n 0, 1) := by decide +kernel
theorem d_K_init_5 : decode c_K_init 5 = .ok (.iconst 0, 1) := by decide +kernel
theorem d_K_init_6 : decode c_K_init 6 = .ok (.putfield 9, 3) := by decide +kernel
theorem d_K_init_9 : decode c_K_init 9 = .ok (.aload_n 0, 1) := by decide +kernel
theorem d_K_init_10 : decode c_K_init 10 = .ok (.lconst 0, 1) := by decide +kernel
theorem d_K_init_11 : decode c_K_init 11 = .ok (.putfield 15, 3) := by decide +kernel
theorem d_K_init_14 : decode c_K_init 14 = .ok (.aload_n 0, 1) := by decide +kernel
theorem d_K_init_15 : decode c_K_init 15 = .ok (.bipush 8, 2) := by decide +kernel
theorem d_K_init_17 : decode c_K_init 17 = .ok (.newarray .int, 2) := by decide +kernel
theorem d_K_init_19 : decode c_K_init 19 = .ok (.putfield 19, 3) := by decide +kernel
theorem d_K_init_22 : decode c_K_init 22 = .ok (.return_, 1) := by decide +kernel
abbrev c_K_isFree : ByteArray := prog_2_method_2_code
abbrev y_K_isFree : MethodName := ⟨"BlobStore$Chunk", "isFree", "()Z"⟩
theorem i_K_isFree : bIs y_K_isFree 1 := Or.inl ⟨_, _, t1_216⟩
theorem d_K_isFree_0 : decode c_K_isFree 0 = .ok (.aload_n 0, 1) := by decide +kernel
theorem d_K_isFree_1 : decode c_K_isFree 1 = .ok (.getfield 9, 3) := by decide +kernel
theorem d_K_isFree_4 : decode c_K_isFree 4 = .ok (.ifCond .ne 7, 3) := by decide +kernel
theorem d_K_isFree_7 : decode c_K_isFree 7 = .ok (.iconst 1, 1) := by decide +kernel
theorem d_K_isFree_8 : decode c_K_isFree 8 = .ok (.goto 4, 3) := by decide +kernel
theorem d_K_isFree_11 : decode c_K_isFree 11 = .ok (.iconst 0, 1) := by decide +kernel
theorem d_K_isFree_12 : decode c_K_isFree 12 = .ok (.ireturn, 1) := by decide +kernel
abbrev c_K_free : ByteArray := prog_2_method_3_code
abbrev y_K_free : MethodName := ⟨"BlobStore$Chunk", "free", "()V"⟩
theorem i_K_free : bIs y_K_free 1 := Or.inl ⟨_, _, t3_52⟩
theorem d_K_free_0 : decode c_K_free 0 = .ok (.aload_n 0, 1) := by decide +kernel
theorem d_K_free_1 : decode c_K_free 1 = .ok (.iconst 0, 1) := by decide +kernel
theorem d_K_free_2 : decode c_K_free 2 = .ok (.putfield 9, 3) := by decide +kernel
theorem d_K_free_5 : decode c_K_free 5 = .ok (.return_, 1) := by decide +kernel
abbrev c_K_fill : ByteArray := prog_2_method_4_code
abbrev y_K_fill : MethodName := ⟨"BlobStore$Chunk", "fill", "(IJLBlobStore$Sha256;)V"⟩
theorem i_K_fill : bIs y_K_fill 5 := Or.inl ⟨_, _, t2_0⟩
theorem d_K_fill_0 : decode c_K_fill 0 = .ok (.aload_n 0, 1) := by decide +kernel
theorem d_K_fill_1 : decode c_K_fill 1 = .ok (.iload_n 1, 1) := by decide +kernel
theorem d_K_fill_2 : decode c_K_fill 2 = .ok (.putfield 9, 3) := by decide +kernel
theorem d_K_fill_5 : decode c_K_fill 5 = .ok (.aload_n 0, 1) := by decide +kernel
theorem d_K_fill_6 : decode c_K_fill 6 = .ok (.lload_n 2, 1) := by decide +kernel
theorem d_K_fill_7 : decode c_K_fill 7 = .ok (.ldc2_w 23, 3) := by decide +kernel
theorem d_K_fill_10 : decode c_K_fill 10 = .ok (.bipush 64, 2) := by decide +kernel
theorem d_K_fill_12 : decode c_K_fill 12 = .ok (.bipush 8, 2) := by decide +kernel
theorem d_K_fill_14 : decode c_K_fill 14 = .ok (.iload_n 1, 1) := by decide +kernel
theorem d_K_fill_15 : decode c_K_fill 15 = .ok (.imul, 1) := by decide +kernel
theorem d_K_fill_16 : decode c_K_fill 16 = .ok (.isub, 1) := by decide +kernel
theorem d_K_fill_17 : decode c_K_fill 17 = .ok (.lshl, 1) := by decide +kernel
theorem d_K_fill_18 : decode c_K_fill 18 = .ok (.land, 1) := by decide +kernel
theorem d_K_fill_19 : decode c_K_fill 19 = .ok (.putfield 15, 3) := by decide +kernel
theorem d_K_fill_22 : decode c_K_fill 22 = .ok (.aload 4, 2) := by decide +kernel
theorem d_K_fill_24 : decode c_K_fill 24 = .ok (.iload_n 1, 1) := by decide +kernel
theorem d_K_fill_25 : decode c_K_fill 25 = .ok (.aload_n 0, 1) := by decide +kernel
theorem d_K_fill_26 : decode c_K_fill 26 = .ok (.getfield 15, 3) := by decide +kernel
theorem d_K_fill_29 : decode c_K_fill 29 = .ok (.aload_n 0, 1) := by decide +kernel
theorem d_K_fill_30 : decode c_K_fill 30 = .ok (.getfield 19, 3) := by decide +kernel
theorem d_K_fill_33 : decode c_K_fill 33 = .ok (.invokevirtual 25, 3) := by decide +kernel
theorem d_K_fill_36 : decode c_K_fill 36 = .ok (.return_, 1) := by decide +kernel
abbrev c_K_copyFrom : ByteArray := prog_2_method_5_code
abbrev y_K_copyFrom : MethodName := ⟨"BlobStore$Chunk", "copyFrom", "(LBlobStore$Chunk;)V"⟩
theorem i_K_copyFrom : bIs y_K_copyFrom 2 := Or.inl ⟨_, _, t3_2⟩
theorem d_K_copyFrom_0 : decode c_K_copyFrom 0 = .ok (.aload_n 0, 1) := by decide +kernel
theorem d_K_copyFrom_1 : decode c_K_copyFrom 1 = .ok (.aload_n 1, 1) := by decide +kernel
theorem d_K_copyFrom_2 : decode c_K_copyFrom 2 = .ok (.getfield 9, 3) := by decide +kernel
theorem d_K_copyFrom_5 : decode c_K_copyFrom 5 = .ok (.putfield 9, 3) := by decide +kernel
theorem d_K_copyFrom_8 : decode c_K_copyFrom 8 = .ok (.aload_n 0, 1) := by decide +kernel
theorem d_K_copyFrom_9 : decode c_K_copyFrom 9 = .ok (.aload_n 1, 1) := by decide +kernel
theorem d_K_copyFrom_10 : decode c_K_copyFrom 10 = .ok (.getfield 15, 3) := by decide +kernel
theorem d_K_copyFrom_13 : decode c_K_copyFrom 13 = .ok (.putfield 15, 3) := by decide +kernel
theorem d_K_copyFrom_16 : decode c_K_copyFrom 16 = .ok (.aload_n 1, 1) := by decide +kernel
theorem d_K_copyFrom_17 : decode c_K_copyFrom 17 = .ok (.getfield 19, 3) := by decide +kernel
theorem d_K_copyFrom_20 : decode c_K_copyFrom 20 = .ok (.iconst 0, 1) := by decide +kernel
theorem d_K_copyFrom_21 : decode c_K_copyFrom 21 = .ok (.aload_n 0, 1) := by decide +kernel
theorem d_K_copyFrom_22 : decode c_K_copyFrom 22 = .ok (.getfield 19, 3) := by decide +kernel
theorem d_K_copyFrom_25 : decode c_K_copyFrom 25 = .ok (.iconst 0, 1) := by decide +kernel
theorem d_K_copyFrom_26 : decode c_K_copyFrom 26 = .ok (.bipush 8, 2) := by decide +kernel
theorem d_K_copyFrom_28 : decode c_K_copyFrom 28 = .ok (.invokestatic 31, 3) := by decide +kernel
theorem d_K_copyFrom_31 : decode c_K_copyFrom 31 = .ok (.return_, 1) := by decide +kernel
abbrev c_K_isLike : ByteArray := prog_2_method_6_code
abbrev y_K_isLike : MethodName := ⟨"BlobStore$Chunk", "isLike", "(LBlobStore$Chunk;)Z"⟩
theorem i_K_isLike : bIs y_K_isLike 3 := Or.inl ⟨_, _, t2_34⟩
theorem d_K_isLike_0 : decode c_K_isLike 0 = .ok (.iconst 0, 1) := by decide +kernel
theorem d_K_isLike_1 : decode c_K_isLike 1 = .ok (.istore_n 2, 1) := by decide +kernel
theorem d_K_isLike_2 : decode c_K_isLike 2 = .ok (.iload_n 2, 1) := by decide +kernel
theorem d_K_isLike_3 : decode c_K_isLike 3 = .ok (.bipush 8, 2) := by decide +kernel
theorem d_K_isLike_5 : decode c_K_isLike 5 = .ok (.if_icmp .ge 26, 3) := by decide +kernel
theorem d_K_isLike_8 : decode c_K_isLike 8 = .ok (.aload_n 0, 1) := by decide +kernel
theorem d_K_isLike_9 : decode c_K_isLike 9 = .ok (.getfield 19, 3) := by decide +kernel
theorem d_K_isLike_12 : decode c_K_isLike 12 = .ok (.iload_n 2, 1) := by decide +kernel
theorem d_K_isLike_13 : decode c_K_isLike 13 = .ok (.iaload, 1) := by decide +kernel
theorem d_K_isLike_14 : decode c_K_isLike 14 = .ok (.aload_n 1, 1) := by decide +kernel
theorem d_K_isLike_15 : decode c_K_isLike 15 = .ok (.getfield 19, 3) := by decide +kernel
theorem d_K_isLike_18 : decode c_K_isLike 18 = .ok (.iload_n 2, 1) := by decide +kernel
theorem d_K_isLike_19 : decode c_K_isLike 19 = .ok (.iaload, 1) := by decide +kernel
theorem d_K_isLike_20 : decode c_K_isLike 20 = .ok (.if_icmp .eq 5, 3) := by decide +kernel
theorem d_K_isLike_23 : decode c_K_isLike 23 = .ok (.iconst 0, 1) := by decide +kernel
theorem d_K_isLike_24 : decode c_K_isLike 24 = .ok (.ireturn, 1) := by decide +kernel
theorem d_K_isLike_25 : decode c_K_isLike 25 = .ok (.iinc 2 1, 3) := by decide +kernel
theorem d_K_isLike_28 : decode c_K_isLike 28 = .ok (.goto (-26), 3) := by decide +kernel
theorem d_K_isLike_31 : decode c_K_isLike 31 = .ok (.iconst 1, 1) := by decide +kernel
theorem d_K_isLike_32 : decode c_K_isLike 32 = .ok (.ireturn, 1) := by decide +kernel
abbrev c_K_byteOf : ByteArray := prog_2_method_7_code
abbrev y_K_byteOf : MethodName := ⟨"BlobStore$Chunk", "byteOf", "(I)I"⟩
theorem i_K_byteOf : bIs y_K_byteOf 2 := Or.inl ⟨_, _, t1_204⟩
theorem d_K_byteOf_0 : decode c_K_byteOf 0 = .ok (.aload_n 0, 1) := by decide +kernel
theorem d_K_byteOf_1 : decode c_K_byteOf 1 = .ok (.getfield 15, 3) := by decide +kernel
theorem d_K_byteOf_4 : decode c_K_byteOf 4 = .ok (.bipush 56, 2) := by decide +kernel
theorem d_K_byteOf_6 : decode c_K_byteOf 6 = .ok (.bipush 8, 2) := by decide +kernel
theorem d_K_byteOf_8 : decode c_K_byteOf 8 = .ok (.iload_n 1, 1) := by decide +kernel
theorem d_K_byteOf_9 : decode c_K_byteOf 9 = .ok (.imul, 1) := by decide +kernel
theorem d_K_byteOf_10 : decode c_K_byteOf 10 = .ok (.isub, 1) := by decide +kernel
theorem d_K_byteOf_11 : decode c_K_byteOf 11 = .ok (.lushr, 1) := by decide +kernel
theorem d_K_byteOf_12 : decode c_K_byteOf 12 = .ok (.l2i, 1) := by decide +kernel
theorem d_K_byteOf_13 : decode c_K_byteOf 13 = .ok (.sipush 255, 3) := by decide +kernel
theorem d_K_byteOf_16 : decode c_K_byteOf 16 = .ok (.iand, 1) := by decide +kernel
theorem d_K_byteOf_17 : decode c_K_byteOf 17 = .ok (.ireturn, 1) := by decide +kernel
