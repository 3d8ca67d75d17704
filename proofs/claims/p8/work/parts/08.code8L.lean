abbrev c_L_begin : ByteArray := method_3_code
abbrev y_L_begin : MethodName := ⟨"BlobStoreLaw", "begin", "(LBlobStore;II[J)I"⟩
theorem i_L_begin : bIs y_L_begin 5 := Or.inr ⟨_, _, _, t2_53⟩
theorem d_L_begin_0 : decode c_L_begin 0 = .ok (.aload_n 3, 1) := by decide +kernel
theorem d_L_begin_1 : decode c_L_begin 1 = .ok (.iconst 0, 1) := by decide +kernel
theorem d_L_begin_2 : decode c_L_begin 2 = .ok (.aload_n 0, 1) := by decide +kernel
theorem d_L_begin_3 : decode c_L_begin 3 = .ok (.iload_n 1, 1) := by decide +kernel
theorem d_L_begin_4 : decode c_L_begin 4 = .ok (.iload_n 2, 1) := by decide +kernel
theorem d_L_begin_5 : decode c_L_begin 5 = .ok (.invokevirtual 7, 3) := by decide +kernel
theorem d_L_begin_8 : decode c_L_begin 8 = .ok (.i2l, 1) := by decide +kernel
theorem d_L_begin_9 : decode c_L_begin 9 = .ok (.lastore, 1) := by decide +kernel
theorem d_L_begin_10 : decode c_L_begin 10 = .ok (.goto 15, 3) := by decide +kernel
theorem d_L_begin_13 : decode c_L_begin 13 = .ok (.astore 4, 2) := by decide +kernel
theorem d_L_begin_15 : decode c_L_begin 15 = .ok (.iconst 1, 1) := by decide +kernel
theorem d_L_begin_16 : decode c_L_begin 16 = .ok (.ireturn, 1) := by decide +kernel
theorem d_L_begin_17 : decode c_L_begin 17 = .ok (.astore 4, 2) := by decide +kernel
theorem d_L_begin_19 : decode c_L_begin 19 = .ok (.iconst 2, 1) := by decide +kernel
theorem d_L_begin_20 : decode c_L_begin 20 = .ok (.ireturn, 1) := by decide +kernel
theorem d_L_begin_21 : decode c_L_begin 21 = .ok (.astore 4, 2) := by decide +kernel
theorem d_L_begin_23 : decode c_L_begin 23 = .ok (.iconst 3, 1) := by decide +kernel
theorem d_L_begin_24 : decode c_L_begin 24 = .ok (.ireturn, 1) := by decide +kernel
theorem d_L_begin_25 : decode c_L_begin 25 = .ok (.iconst 0, 1) := by decide +kernel
theorem d_L_begin_26 : decode c_L_begin 26 = .ok (.ireturn, 1) := by decide +kernel
abbrev c_L_part : ByteArray := method_4_code
abbrev y_L_part : MethodName := ⟨"BlobStoreLaw", "part", "(LBlobStore;IIIJJJ[J)I"⟩
theorem i_L_part : bIs y_L_part 12 := Or.inr ⟨_, _, _, t2_184⟩
theorem d_L_part_0 : decode c_L_part 0 = .ok (.aload 10, 2) := by decide +kernel
theorem d_L_part_2 : decode c_L_part 2 = .ok (.iconst 0, 1) := by decide +kernel
theorem d_L_part_3 : decode c_L_part 3 = .ok (.aload_n 0, 1) := by decide +kernel
theorem d_L_part_4 : decode c_L_part 4 = .ok (.iload_n 1, 1) := by decide +kernel
theorem d_L_part_5 : decode c_L_part 5 = .ok (.iload_n 2, 1) := by decide +kernel
theorem d_L_part_6 : decode c_L_part 6 = .ok (.iload_n 3, 1) := by decide +kernel
theorem d_L_part_7 : decode c_L_part 7 = .ok (.lload 4, 2) := by decide +kernel
theorem d_L_part_9 : decode c_L_part 9 = .ok (.lload 6, 2) := by decide +kernel
theorem d_L_part_11 : decode c_L_part 11 = .ok (.lload 8, 2) := by decide +kernel
theorem d_L_part_13 : decode c_L_part 13 = .ok (.invokevirtual 19, 3) := by decide +kernel
theorem d_L_part_16 : decode c_L_part 16 = .ok (.i2l, 1) := by decide +kernel
theorem d_L_part_17 : decode c_L_part 17 = .ok (.lastore, 1) := by decide +kernel
theorem d_L_part_18 : decode c_L_part 18 = .ok (.goto 19, 3) := by decide +kernel
theorem d_L_part_21 : decode c_L_part 21 = .ok (.astore 11, 2) := by decide +kernel
theorem d_L_part_23 : decode c_L_part 23 = .ok (.iconst 1, 1) := by decide +kernel
theorem d_L_part_24 : decode c_L_part 24 = .ok (.ireturn, 1) := by decide +kernel
theorem d_L_part_25 : decode c_L_part 25 = .ok (.astore 11, 2) := by decide +kernel
theorem d_L_part_27 : decode c_L_part 27 = .ok (.iconst 2, 1) := by decide +kernel
theorem d_L_part_28 : decode c_L_part 28 = .ok (.ireturn, 1) := by decide +kernel
theorem d_L_part_29 : decode c_L_part 29 = .ok (.astore 11, 2) := by decide +kernel
theorem d_L_part_31 : decode c_L_part 31 = .ok (.iconst 3, 1) := by decide +kernel
theorem d_L_part_32 : decode c_L_part 32 = .ok (.ireturn, 1) := by decide +kernel
theorem d_L_part_33 : decode c_L_part 33 = .ok (.astore 11, 2) := by decide +kernel
theorem d_L_part_35 : decode c_L_part 35 = .ok (.iconst 4, 1) := by decide +kernel
theorem d_L_part_36 : decode c_L_part 36 = .ok (.ireturn, 1) := by decide +kernel
theorem d_L_part_37 : decode c_L_part 37 = .ok (.iconst 0, 1) := by decide +kernel
theorem d_L_part_38 : decode c_L_part 38 = .ok (.ireturn, 1) := by decide +kernel
abbrev c_L_complete : ByteArray := method_5_code
abbrev y_L_complete : MethodName := ⟨"BlobStoreLaw", "complete", "(LBlobStore;I[J)I"⟩
theorem i_L_complete : bIs y_L_complete 4 := Or.inr ⟨_, _, _, t3_17⟩
theorem d_L_complete_0 : decode c_L_complete 0 = .ok (.aload_n 2, 1) := by decide +kernel
theorem d_L_complete_1 : decode c_L_complete 1 = .ok (.iconst 0, 1) := by decide +kernel
theorem d_L_complete_2 : decode c_L_complete 2 = .ok (.aload_n 0, 1) := by decide +kernel
theorem d_L_complete_3 : decode c_L_complete 3 = .ok (.iload_n 1, 1) := by decide +kernel
theorem d_L_complete_4 : decode c_L_complete 4 = .ok (.invokevirtual 25, 3) := by decide +kernel
theorem d_L_complete_7 : decode c_L_complete 7 = .ok (.i2l, 1) := by decide +kernel
theorem d_L_complete_8 : decode c_L_complete 8 = .ok (.lastore, 1) := by decide +kernel
theorem d_L_complete_9 : decode c_L_complete 9 = .ok (.goto 12, 3) := by decide +kernel
theorem d_L_complete_12 : decode c_L_complete 12 = .ok (.astore_n 3, 1) := by decide +kernel
theorem d_L_complete_13 : decode c_L_complete 13 = .ok (.iconst 1, 1) := by decide +kernel
theorem d_L_complete_14 : decode c_L_complete 14 = .ok (.ireturn, 1) := by decide +kernel
theorem d_L_complete_15 : decode c_L_complete 15 = .ok (.astore_n 3, 1) := by decide +kernel
theorem d_L_complete_16 : decode c_L_complete 16 = .ok (.iconst 2, 1) := by decide +kernel
theorem d_L_complete_17 : decode c_L_complete 17 = .ok (.ireturn, 1) := by decide +kernel
theorem d_L_complete_18 : decode c_L_complete 18 = .ok (.astore_n 3, 1) := by decide +kernel
theorem d_L_complete_19 : decode c_L_complete 19 = .ok (.iconst 3, 1) := by decide +kernel
theorem d_L_complete_20 : decode c_L_complete 20 = .ok (.ireturn, 1) := by decide +kernel
theorem d_L_complete_21 : decode c_L_complete 21 = .ok (.iconst 0, 1) := by decide +kernel
theorem d_L_complete_22 : decode c_L_complete 22 = .ok (.ireturn, 1) := by decide +kernel
abbrev c_L_abort : ByteArray := method_6_code
abbrev y_L_abort : MethodName := ⟨"BlobStoreLaw", "abort", "(LBlobStore;I)I"⟩
theorem i_L_abort : bIs y_L_abort 3 := Or.inr ⟨_, _, _, t3_30⟩
theorem d_L_abort_0 : decode c_L_abort 0 = .ok (.aload_n 0, 1) := by decide +kernel
theorem d_L_abort_1 : decode c_L_abort 1 = .ok (.iload_n 1, 1) := by decide +kernel
theorem d_L_abort_2 : decode c_L_abort 2 = .ok (.invokevirtual 29, 3) := by decide +kernel
theorem d_L_abort_5 : decode c_L_abort 5 = .ok (.goto 12, 3) := by decide +kernel
theorem d_L_abort_8 : decode c_L_abort 8 = .ok (.astore_n 2, 1) := by decide +kernel
theorem d_L_abort_9 : decode c_L_abort 9 = .ok (.iconst 1, 1) := by decide +kernel
theorem d_L_abort_10 : decode c_L_abort 10 = .ok (.ireturn, 1) := by decide +kernel
theorem d_L_abort_11 : decode c_L_abort 11 = .ok (.astore_n 2, 1) := by decide +kernel
theorem d_L_abort_12 : decode c_L_abort 12 = .ok (.iconst 2, 1) := by decide +kernel
theorem d_L_abort_13 : decode c_L_abort 13 = .ok (.ireturn, 1) := by decide +kernel
theorem d_L_abort_14 : decode c_L_abort 14 = .ok (.astore_n 2, 1) := by decide +kernel
theorem d_L_abort_15 : decode c_L_abort 15 = .ok (.iconst 3, 1) := by decide +kernel
theorem d_L_abort_16 : decode c_L_abort 16 = .ok (.ireturn, 1) := by decide +kernel
theorem d_L_abort_17 : decode c_L_abort 17 = .ok (.iconst 0, 1) := by decide +kernel
theorem d_L_abort_18 : decode c_L_abort 18 = .ok (.ireturn, 1) := by decide +kernel
abbrev c_L_delete : ByteArray := method_7_code
abbrev y_L_delete : MethodName := ⟨"BlobStoreLaw", "delete", "(LBlobStore;I[J)I"⟩
theorem i_L_delete : bIs y_L_delete 4 := Or.inr ⟨_, _, _, t3_37⟩
theorem d_L_delete_0 : decode c_L_delete 0 = .ok (.aload_n 2, 1) := by decide +kernel
theorem d_L_delete_1 : decode c_L_delete 1 = .ok (.iconst 0, 1) := by decide +kernel
theorem d_L_delete_2 : decode c_L_delete 2 = .ok (.aload_n 0, 1) := by decide +kernel
theorem d_L_delete_3 : decode c_L_delete 3 = .ok (.iload_n 1, 1) := by decide +kernel
theorem d_L_delete_4 : decode c_L_delete 4 = .ok (.invokevirtual 33, 3) := by decide +kernel
theorem d_L_delete_7 : decode c_L_delete 7 = .ok (.ifCond .eq 7, 3) := by decide +kernel
theorem d_L_delete_10 : decode c_L_delete 10 = .ok (.lconst 1, 1) := by decide +kernel
theorem d_L_delete_11 : decode c_L_delete 11 = .ok (.goto 4, 3) := by decide +kernel
theorem d_L_delete_14 : decode c_L_delete 14 = .ok (.lconst 0, 1) := by decide +kernel
theorem d_L_delete_15 : decode c_L_delete 15 = .ok (.lastore, 1) := by decide +kernel
theorem d_L_delete_16 : decode c_L_delete 16 = .ok (.goto 9, 3) := by decide +kernel
theorem d_L_delete_19 : decode c_L_delete 19 = .ok (.astore_n 3, 1) := by decide +kernel
theorem d_L_delete_20 : decode c_L_delete 20 = .ok (.iconst 1, 1) := by decide +kernel
theorem d_L_delete_21 : decode c_L_delete 21 = .ok (.ireturn, 1) := by decide +kernel
theorem d_L_delete_22 : decode c_L_delete 22 = .ok (.astore_n 3, 1) := by decide +kernel
theorem d_L_delete_23 : decode c_L_delete 23 = .ok (.iconst 2, 1) := by decide +kernel
theorem d_L_delete_24 : decode c_L_delete 24 = .ok (.ireturn, 1) := by decide +kernel
theorem d_L_delete_25 : decode c_L_delete 25 = .ok (.iconst 0, 1) := by decide +kernel
theorem d_L_delete_26 : decode c_L_delete 26 = .ok (.ireturn, 1) := by decide +kernel
abbrev c_L_collect : ByteArray := method_8_code
abbrev y_L_collect : MethodName := ⟨"BlobStoreLaw", "collect", "(LBlobStore;[J)I"⟩
theorem i_L_collect : bIs y_L_collect 3 := Or.inr ⟨_, _, _, t3_44⟩
theorem d_L_collect_0 : decode c_L_collect 0 = .ok (.aload_n 1, 1) := by decide +kernel
theorem d_L_collect_1 : decode c_L_collect 1 = .ok (.iconst 0, 1) := by decide +kernel
theorem d_L_collect_2 : decode c_L_collect 2 = .ok (.aload_n 0, 1) := by decide +kernel
theorem d_L_collect_3 : decode c_L_collect 3 = .ok (.invokevirtual 37, 3) := by decide +kernel
theorem d_L_collect_6 : decode c_L_collect 6 = .ok (.i2l, 1) := by decide +kernel
theorem d_L_collect_7 : decode c_L_collect 7 = .ok (.lastore, 1) := by decide +kernel
theorem d_L_collect_8 : decode c_L_collect 8 = .ok (.goto 9, 3) := by decide +kernel
theorem d_L_collect_11 : decode c_L_collect 11 = .ok (.astore_n 2, 1) := by decide +kernel
theorem d_L_collect_12 : decode c_L_collect 12 = .ok (.iconst 1, 1) := by decide +kernel
theorem d_L_collect_13 : decode c_L_collect 13 = .ok (.ireturn, 1) := by decide +kernel
theorem d_L_collect_14 : decode c_L_collect 14 = .ok (.astore_n 2, 1) := by decide +kernel
theorem d_L_collect_15 : decode c_L_collect 15 = .ok (.iconst 2, 1) := by decide +kernel
theorem d_L_collect_16 : decode c_L_collect 16 = .ok (.ireturn, 1) := by decide +kernel
theorem d_L_collect_17 : decode c_L_collect 17 = .ok (.iconst 0, 1) := by decide +kernel
theorem d_L_collect_18 : decode c_L_collect 18 = .ok (.ireturn, 1) := by decide +kernel
abbrev c_L_cutAfter : ByteArray := method_9_code
abbrev y_L_cutAfter : MethodName := ⟨"BlobStoreLaw", "cutAfter", "(LBlobStore;I)I"⟩
theorem i_L_cutAfter : bIs y_L_cutAfter 3 := Or.inr ⟨_, _, _, t3_55⟩
theorem d_L_cutAfter_0 : decode c_L_cutAfter 0 = .ok (.aload_n 0, 1) := by decide +kernel
theorem d_L_cutAfter_1 : decode c_L_cutAfter 1 = .ok (.iload_n 1, 1) := by decide +kernel
theorem d_L_cutAfter_2 : decode c_L_cutAfter 2 = .ok (.invokevirtual 41, 3) := by decide +kernel
theorem d_L_cutAfter_5 : decode c_L_cutAfter 5 = .ok (.goto 6, 3) := by decide +kernel
theorem d_L_cutAfter_8 : decode c_L_cutAfter 8 = .ok (.astore_n 2, 1) := by decide +kernel
theorem d_L_cutAfter_9 : decode c_L_cutAfter 9 = .ok (.iconst 1, 1) := by decide +kernel
theorem d_L_cutAfter_10 : decode c_L_cutAfter 10 = .ok (.ireturn, 1) := by decide +kernel
theorem d_L_cutAfter_11 : decode c_L_cutAfter 11 = .ok (.iconst 0, 1) := by decide +kernel
theorem d_L_cutAfter_12 : decode c_L_cutAfter 12 = .ok (.ireturn, 1) := by decide +kernel
abbrev c_L_address : ByteArray := method_10_code
abbrev y_L_address : MethodName := ⟨"BlobStoreLaw", "address", "(LBlobStore;II[J)I"⟩
theorem i_L_address : bIs y_L_address 5 := Or.inr ⟨_, _, _, t3_67⟩
theorem d_L_address_0 : decode c_L_address 0 = .ok (.aload_n 3, 1) := by decide +kernel
theorem d_L_address_1 : decode c_L_address 1 = .ok (.iconst 0, 1) := by decide +kernel
theorem d_L_address_2 : decode c_L_address 2 = .ok (.aload_n 0, 1) := by decide +kernel
theorem d_L_address_3 : decode c_L_address 3 = .ok (.iload_n 1, 1) := by decide +kernel
theorem d_L_address_4 : decode c_L_address 4 = .ok (.iload_n 2, 1) := by decide +kernel
theorem d_L_address_5 : decode c_L_address 5 = .ok (.invokevirtual 44, 3) := by decide +kernel
theorem d_L_address_8 : decode c_L_address 8 = .ok (.i2l, 1) := by decide +kernel
theorem d_L_address_9 : decode c_L_address 9 = .ok (.lastore, 1) := by decide +kernel
theorem d_L_address_10 : decode c_L_address 10 = .ok (.goto 7, 3) := by decide +kernel
theorem d_L_address_13 : decode c_L_address 13 = .ok (.astore 4, 2) := by decide +kernel
theorem d_L_address_15 : decode c_L_address 15 = .ok (.iconst 1, 1) := by decide +kernel
theorem d_L_address_16 : decode c_L_address 16 = .ok (.ireturn, 1) := by decide +kernel
theorem d_L_address_17 : decode c_L_address 17 = .ok (.iconst 0, 1) := by decide +kernel
theorem d_L_address_18 : decode c_L_address 18 = .ok (.ireturn, 1) := by decide +kernel
abbrev c_L_law : ByteArray := code
theorem d_L_law_0 : decode c_L_law 0 = .ok (.new 8, 3) := by decide +kernel
theorem d_L_law_3 : decode c_L_law 3 = .ok (.dup, 1) := by decide +kernel
theorem d_L_law_4 : decode c_L_law 4 = .ok (.invokespecial 49, 3) := by decide +kernel
theorem d_L_law_7 : decode c_L_law 7 = .ok (.astore_n 1, 1) := by decide +kernel
theorem d_L_law_8 : decode c_L_law 8 = .ok (.new 50, 3) := by decide +kernel
theorem d_L_law_11 : decode c_L_law 11 = .ok (.dup, 1) := by decide +kernel
theorem d_L_law_12 : decode c_L_law 12 = .ok (.invokespecial 52, 3) := by decide +kernel
theorem d_L_law_15 : decode c_L_law 15 = .ok (.astore_n 2, 1) := by decide +kernel
theorem d_L_law_16 : decode c_L_law 16 = .ok (.iconst 1, 1) := by decide +kernel
theorem d_L_law_17 : decode c_L_law 17 = .ok (.newarray .long, 2) := by decide +kernel
theorem d_L_law_19 : decode c_L_law 19 = .ok (.astore_n 3, 1) := by decide +kernel
theorem d_L_law_20 : decode c_L_law 20 = .ok (.iconst 0, 1) := by decide +kernel
theorem d_L_law_21 : decode c_L_law 21 = .ok (.istore 4, 2) := by decide +kernel
theorem d_L_law_23 : decode c_L_law 23 = .ok (.iload 4, 2) := by decide +kernel
theorem d_L_law_25 : decode c_L_law 25 = .ok (.aload_n 0, 1) := by decide +kernel
theorem d_L_law_26 : decode c_L_law 26 = .ok (.arraylength, 1) := by decide +kernel
theorem d_L_law_27 : decode c_L_law 27 = .ok (.bipush 10, 2) := by decide +kernel
theorem d_L_law_29 : decode c_L_law 29 = .ok (.isub, 1) := by decide +kernel
theorem d_L_law_30 : decode c_L_law 30 = .ok (.if_icmp .gt 728, 3) := by decide +kernel
theorem d_L_law_33 : decode c_L_law 33 = .ok (.aload_n 0, 1) := by decide +kernel
theorem d_L_law_34 : decode c_L_law 34 = .ok (.iload 4, 2) := by decide +kernel
theorem d_L_law_36 : decode c_L_law 36 = .ok (.iaload, 1) := by decide +kernel
theorem d_L_law_37 : decode c_L_law 37 = .ok (.bipush 15, 2) := by decide +kernel
theorem d_L_law_39 : decode c_L_law 39 = .ok (.iand, 1) := by decide +kernel
theorem d_L_law_40 : decode c_L_law 40 = .ok (.tableswitch 712 0 14 #[76, 116, 308, 336, 361, 389, 405, 441, 454, 491, 516, 553, 593, 618, 687], 76) := by decide +kernel
theorem d_L_law_116 : decode c_L_law 116 = .ok (.aload_n 1, 1) := by decide +kernel
theorem d_L_law_117 : decode c_L_law 117 = .ok (.aload_n 0, 1) := by decide +kernel
theorem d_L_law_118 : decode c_L_law 118 = .ok (.iload 4, 2) := by decide +kernel
theorem d_L_law_120 : decode c_L_law 120 = .ok (.iconst 1, 1) := by decide +kernel
theorem d_L_law_121 : decode c_L_law 121 = .ok (.iadd, 1) := by decide +kernel
theorem d_L_law_122 : decode c_L_law 122 = .ok (.iaload, 1) := by decide +kernel
theorem d_L_law_123 : decode c_L_law 123 = .ok (.aload_n 0, 1) := by decide +kernel
theorem d_L_law_124 : decode c_L_law 124 = .ok (.iload 4, 2) := by decide +kernel
theorem d_L_law_126 : decode c_L_law 126 = .ok (.iconst 2, 1) := by decide +kernel
theorem d_L_law_127 : decode c_L_law 127 = .ok (.iadd, 1) := by decide +kernel
theorem d_L_law_128 : decode c_L_law 128 = .ok (.iaload, 1) := by decide +kernel
theorem d_L_law_129 : decode c_L_law 129 = .ok (.aload_n 3, 1) := by decide +kernel
theorem d_L_law_130 : decode c_L_law 130 = .ok (.invokestatic 53, 3) := by decide +kernel
theorem d_L_law_133 : decode c_L_law 133 = .ok (.istore 5, 2) := by decide +kernel
theorem d_L_law_135 : decode c_L_law 135 = .ok (.aload_n 2, 1) := by decide +kernel
theorem d_L_law_136 : decode c_L_law 136 = .ok (.aload_n 0, 1) := by decide +kernel
theorem d_L_law_137 : decode c_L_law 137 = .ok (.iload 4, 2) := by decide +kernel
theorem d_L_law_139 : decode c_L_law 139 = .ok (.iconst 1, 1) := by decide +kernel
theorem d_L_law_140 : decode c_L_law 140 = .ok (.iadd, 1) := by decide +kernel
theorem d_L_law_141 : decode c_L_law 141 = .ok (.iaload, 1) := by decide +kernel
theorem d_L_law_142 : decode c_L_law 142 = .ok (.aload_n 0, 1) := by decide +kernel
theorem d_L_law_143 : decode c_L_law 143 = .ok (.iload 4, 2) := by decide +kernel
theorem d_L_law_145 : decode c_L_law 145 = .ok (.iconst 2, 1) := by decide +kernel
theorem d_L_law_146 : decode c_L_law 146 = .ok (.iadd, 1) := by decide +kernel
theorem d_L_law_147 : decode c_L_law 147 = .ok (.iaload, 1) := by decide +kernel
theorem d_L_law_148 : decode c_L_law 148 = .ok (.invokevirtual 58, 3) := by decide +kernel
theorem d_L_law_151 : decode c_L_law 151 = .ok (.istore 6, 2) := by decide +kernel
theorem d_L_law_153 : decode c_L_law 153 = .ok (.goto 599, 3) := by decide +kernel
theorem d_L_law_156 : decode c_L_law 156 = .ok (.aload_n 1, 1) := by decide +kernel
theorem d_L_law_157 : decode c_L_law 157 = .ok (.aload_n 0, 1) := by decide +kernel
theorem d_L_law_158 : decode c_L_law 158 = .ok (.iload 4, 2) := by decide +kernel
theorem d_L_law_160 : decode c_L_law 160 = .ok (.iconst 1, 1) := by decide +kernel
theorem d_L_law_161 : decode c_L_law 161 = .ok (.iadd, 1) := by decide +kernel
theorem d_L_law_162 : decode c_L_law 162 = .ok (.iaload, 1) := by decide +kernel
theorem d_L_law_163 : decode c_L_law 163 = .ok (.aload_n 0, 1) := by decide +kernel
theorem d_L_law_164 : decode c_L_law 164 = .ok (.iload 4, 2) := by decide +kernel
theorem d_L_law_166 : decode c_L_law 166 = .ok (.iconst 2, 1) := by decide +kernel
theorem d_L_law_167 : decode c_L_law 167 = .ok (.iadd, 1) := by decide +kernel
theorem d_L_law_168 : decode c_L_law 168 = .ok (.iaload, 1) := by decide +kernel
theorem d_L_law_169 : decode c_L_law 169 = .ok (.aload_n 0, 1) := by decide +kernel
theorem d_L_law_170 : decode c_L_law 170 = .ok (.iload 4, 2) := by decide +kernel
theorem d_L_law_172 : decode c_L_law 172 = .ok (.iconst 3, 1) := by decide +kernel
theorem d_L_law_173 : decode c_L_law 173 = .ok (.iadd, 1) := by decide +kernel
theorem d_L_law_174 : decode c_L_law 174 = .ok (.iaload, 1) := by decide +kernel
theorem d_L_law_175 : decode c_L_law 175 = .ok (.aload_n 0, 1) := by decide +kernel
theorem d_L_law_176 : decode c_L_law 176 = .ok (.iload 4, 2) := by decide +kernel
theorem d_L_law_178 : decode c_L_law 178 = .ok (.iconst 4, 1) := by decide +kernel
theorem d_L_law_179 : decode c_L_law 179 = .ok (.iadd, 1) := by decide +kernel
theorem d_L_law_180 : decode c_L_law 180 = .ok (.iaload, 1) := by decide +kernel
theorem d_L_law_181 : decode c_L_law 181 = .ok (.i2l, 1) := by decide +kernel
theorem d_L_law_182 : decode c_L_law 182 = .ok (.bipush 32, 2) := by decide +kernel
theorem d_L_law_184 : decode c_L_law 184 = .ok (.lshl, 1) := by decide +kernel
theorem d_L_law_185 : decode c_L_law 185 = .ok (.aload_n 0, 1) := by decide +kernel
theorem d_L_law_186 : decode c_L_law 186 = .ok (.iload 4, 2) := by decide +kernel
theorem d_L_law_188 : decode c_L_law 188 = .ok (.iconst 5, 1) := by decide +kernel
theorem d_L_law_189 : decode c_L_law 189 = .ok (.iadd, 1) := by decide +kernel
theorem d_L_law_190 : decode c_L_law 190 = .ok (.iaload, 1) := by decide +kernel
theorem d_L_law_191 : decode c_L_law 191 = .ok (.i2l, 1) := by decide +kernel
theorem d_L_law_192 : decode c_L_law 192 = .ok (.ldc2_w 59, 3) := by decide +kernel
theorem d_L_law_195 : decode c_L_law 195 = .ok (.land, 1) := by decide +kernel
theorem d_L_law_196 : decode c_L_law 196 = .ok (.lor, 1) := by decide +kernel
theorem d_L_law_197 : decode c_L_law 197 = .ok (.aload_n 0, 1) := by decide +kernel
theorem d_L_law_198 : decode c_L_law 198 = .ok (.iload 4, 2) := by decide +kernel
theorem d_L_law_200 : decode c_L_law 200 = .ok (.bipush 6, 2) := by decide +kernel
theorem d_L_law_202 : decode c_L_law 202 = .ok (.iadd, 1) := by decide +kernel
theorem d_L_law_203 : decode c_L_law 203 = .ok (.iaload, 1) := by decide +kernel
theorem d_L_law_204 : decode c_L_law 204 = .ok (.i2l, 1) := by decide +kernel
theorem d_L_law_205 : decode c_L_law 205 = .ok (.bipush 32, 2) := by decide +kernel
theorem d_L_law_207 : decode c_L_law 207 = .ok (.lshl, 1) := by decide +kernel
theorem d_L_law_208 : decode c_L_law 208 = .ok (.aload_n 0, 1) := by decide +kernel
theorem d_L_law_209 : decode c_L_law 209 = .ok (.iload 4, 2) := by decide +kernel
theorem d_L_law_211 : decode c_L_law 211 = .ok (.bipush 7, 2) := by decide +kernel
theorem d_L_law_213 : decode c_L_law 213 = .ok (.iadd, 1) := by decide +kernel
theorem d_L_law_214 : decode c_L_law 214 = .ok (.iaload, 1) := by decide +kernel
theorem d_L_law_215 : decode c_L_law 215 = .ok (.i2l, 1) := by decide +kernel
theorem d_L_law_216 : decode c_L_law 216 = .ok (.ldc2_w 59, 3) := by decide +kernel
theorem d_L_law_219 : decode c_L_law 219 = .ok (.land, 1) := by decide +kernel
theorem d_L_law_220 : decode c_L_law 220 = .ok (.lor, 1) := by decide +kernel
theorem d_L_law_221 : decode c_L_law 221 = .ok (.aload_n 0, 1) := by decide +kernel
theorem d_L_law_222 : decode c_L_law 222 = .ok (.iload 4, 2) := by decide +kernel
theorem d_L_law_224 : decode c_L_law 224 = .ok (.bipush 8, 2) := by decide +kernel
theorem d_L_law_226 : decode c_L_law 226 = .ok (.iadd, 1) := by decide +kernel
theorem d_L_law_227 : decode c_L_law 227 = .ok (.iaload, 1) := by decide +kernel
theorem d_L_law_228 : decode c_L_law 228 = .ok (.i2l, 1) := by decide +kernel
theorem d_L_law_229 : decode c_L_law 229 = .ok (.bipush 32, 2) := by decide +kernel
theorem d_L_law_231 : decode c_L_law 231 = .ok (.lshl, 1) := by decide +kernel
theorem d_L_law_232 : decode c_L_law 232 = .ok (.aload_n 0, 1) := by decide +kernel
theorem d_L_law_233 : decode c_L_law 233 = .ok (.iload 4, 2) := by decide +kernel
theorem d_L_law_235 : decode c_L_law 235 = .ok (.bipush 9, 2) := by decide +kernel
theorem d_L_law_237 : decode c_L_law 237 = .ok (.iadd, 1) := by decide +kernel
theorem d_L_law_238 : decode c_L_law 238 = .ok (.iaload, 1) := by decide +kernel
theorem d_L_law_239 : decode c_L_law 239 = .ok (.i2l, 1) := by decide +kernel
theorem d_L_law_240 : decode c_L_law 240 = .ok (.ldc2_w 59, 3) := by decide +kernel
theorem d_L_law_243 : decode c_L_law 243 = .ok (.land, 1) := by decide +kernel
theorem d_L_law_244 : decode c_L_law 244 = .ok (.lor, 1) := by decide +kernel
theorem d_L_law_245 : decode c_L_law 245 = .ok (.aload_n 3, 1) := by decide +kernel
theorem d_L_law_246 : decode c_L_law 246 = .ok (.invokestatic 61, 3) := by decide +kernel
theorem d_L_law_249 : decode c_L_law 249 = .ok (.istore 5, 2) := by decide +kernel
theorem d_L_law_251 : decode c_L_law 251 = .ok (.aload_n 2, 1) := by decide +kernel
theorem d_L_law_252 : decode c_L_law 252 = .ok (.aload_n 0, 1) := by decide +kernel
theorem d_L_law_253 : decode c_L_law 253 = .ok (.iload 4, 2) := by decide +kernel
theorem d_L_law_255 : decode c_L_law 255 = .ok (.iconst 1, 1) := by decide +kernel
theorem d_L_law_256 : decode c_L_law 256 = .ok (.iadd, 1) := by decide +kernel
theorem d_L_law_257 : decode c_L_law 257 = .ok (.iaload, 1) := by decide +kernel
theorem d_L_law_258 : decode c_L_law 258 = .ok (.aload_n 0, 1) := by decide +kernel
theorem d_L_law_259 : decode c_L_law 259 = .ok (.iload 4, 2) := by decide +kernel
theorem d_L_law_261 : decode c_L_law 261 = .ok (.iconst 2, 1) := by decide +kernel
theorem d_L_law_262 : decode c_L_law 262 = .ok (.iadd, 1) := by decide +kernel
theorem d_L_law_263 : decode c_L_law 263 = .ok (.iaload, 1) := by decide +kernel
theorem d_L_law_264 : decode c_L_law 264 = .ok (.aload_n 0, 1) := by decide +kernel
theorem d_L_law_265 : decode c_L_law 265 = .ok (.iload 4, 2) := by decide +kernel
theorem d_L_law_267 : decode c_L_law 267 = .ok (.iconst 3, 1) := by decide +kernel
theorem d_L_law_268 : decode c_L_law 268 = .ok (.iadd, 1) := by decide +kernel
theorem d_L_law_269 : decode c_L_law 269 = .ok (.iaload, 1) := by decide +kernel
theorem d_L_law_270 : decode c_L_law 270 = .ok (.aload_n 0, 1) := by decide +kernel
theorem d_L_law_271 : decode c_L_law 271 = .ok (.iload 4, 2) := by decide +kernel
theorem d_L_law_273 : decode c_L_law 273 = .ok (.iconst 4, 1) := by decide +kernel
theorem d_L_law_274 : decode c_L_law 274 = .ok (.iadd, 1) := by decide +kernel
theorem d_L_law_275 : decode c_L_law 275 = .ok (.iaload, 1) := by decide +kernel
theorem d_L_law_276 : decode c_L_law 276 = .ok (.i2l, 1) := by decide +kernel
theorem d_L_law_277 : decode c_L_law 277 = .ok (.bipush 32, 2) := by decide +kernel
theorem d_L_law_279 : decode c_L_law 279 = .ok (.lshl, 1) := by decide +kernel
theorem d_L_law_280 : decode c_L_law 280 = .ok (.aload_n 0, 1) := by decide +kernel
theorem d_L_law_281 : decode c_L_law 281 = .ok (.iload 4, 2) := by decide +kernel
theorem d_L_law_283 : decode c_L_law 283 = .ok (.iconst 5, 1) := by decide +kernel
theorem d_L_law_284 : decode c_L_law 284 = .ok (.iadd, 1) := by decide +kernel
theorem d_L_law_285 : decode c_L_law 285 = .ok (.iaload, 1) := by decide +kernel
theorem d_L_law_286 : decode c_L_law 286 = .ok (.i2l, 1) := by decide +kernel
theorem d_L_law_287 : decode c_L_law 287 = .ok (.ldc2_w 59, 3) := by decide +kernel
theorem d_L_law_290 : decode c_L_law 290 = .ok (.land, 1) := by decide +kernel
theorem d_L_law_291 : decode c_L_law 291 = .ok (.lor, 1) := by decide +kernel
theorem d_L_law_292 : decode c_L_law 292 = .ok (.aload_n 0, 1) := by decide +kernel
theorem d_L_law_293 : decode c_L_law 293 = .ok (.iload 4, 2) := by decide +kernel
theorem d_L_law_295 : decode c_L_law 295 = .ok (.bipush 6, 2) := by decide +kernel
theorem d_L_law_297 : decode c_L_law 297 = .ok (.iadd, 1) := by decide +kernel
theorem d_L_law_298 : decode c_L_law 298 = .ok (.iaload, 1) := by decide +kernel
theorem d_L_law_299 : decode c_L_law 299 = .ok (.i2l, 1) := by decide +kernel
theorem d_L_law_300 : decode c_L_law 300 = .ok (.bipush 32, 2) := by decide +kernel
theorem d_L_law_302 : decode c_L_law 302 = .ok (.lshl, 1) := by decide +kernel
theorem d_L_law_303 : decode c_L_law 303 = .ok (.aload_n 0, 1) := by decide +kernel
theorem d_L_law_304 : decode c_L_law 304 = .ok (.iload 4, 2) := by decide +kernel
theorem d_L_law_306 : decode c_L_law 306 = .ok (.bipush 7, 2) := by decide +kernel
theorem d_L_law_308 : decode c_L_law 308 = .ok (.iadd, 1) := by decide +kernel
theorem d_L_law_309 : decode c_L_law 309 = .ok (.iaload, 1) := by decide +kernel
theorem d_L_law_310 : decode c_L_law 310 = .ok (.i2l, 1) := by decide +kernel
theorem d_L_law_311 : decode c_L_law 311 = .ok (.ldc2_w 59, 3) := by decide +kernel
theorem d_L_law_314 : decode c_L_law 314 = .ok (.land, 1) := by decide +kernel
theorem d_L_law_315 : decode c_L_law 315 = .ok (.lor, 1) := by decide +kernel
theorem d_L_law_316 : decode c_L_law 316 = .ok (.aload_n 0, 1) := by decide +kernel
theorem d_L_law_317 : decode c_L_law 317 = .ok (.iload 4, 2) := by decide +kernel
theorem d_L_law_319 : decode c_L_law 319 = .ok (.bipush 8, 2) := by decide +kernel
theorem d_L_law_321 : decode c_L_law 321 = .ok (.iadd, 1) := by decide +kernel
theorem d_L_law_322 : decode c_L_law 322 = .ok (.iaload, 1) := by decide +kernel
theorem d_L_law_323 : decode c_L_law 323 = .ok (.i2l, 1) := by decide +kernel
theorem d_L_law_324 : decode c_L_law 324 = .ok (.bipush 32, 2) := by decide +kernel
theorem d_L_law_326 : decode c_L_law 326 = .ok (.lshl, 1) := by decide +kernel
theorem d_L_law_327 : decode c_L_law 327 = .ok (.aload_n 0, 1) := by decide +kernel
theorem d_L_law_328 : decode c_L_law 328 = .ok (.iload 4, 2) := by decide +kernel
theorem d_L_law_330 : decode c_L_law 330 = .ok (.bipush 9, 2) := by decide +kernel
theorem d_L_law_332 : decode c_L_law 332 = .ok (.iadd, 1) := by decide +kernel
theorem d_L_law_333 : decode c_L_law 333 = .ok (.iaload, 1) := by decide +kernel
theorem d_L_law_334 : decode c_L_law 334 = .ok (.i2l, 1) := by decide +kernel
theorem d_L_law_335 : decode c_L_law 335 = .ok (.ldc2_w 59, 3) := by decide +kernel
theorem d_L_law_338 : decode c_L_law 338 = .ok (.land, 1) := by decide +kernel
theorem d_L_law_339 : decode c_L_law 339 = .ok (.lor, 1) := by decide +kernel
theorem d_L_law_340 : decode c_L_law 340 = .ok (.invokevirtual 64, 3) := by decide +kernel
theorem d_L_law_343 : decode c_L_law 343 = .ok (.istore 6, 2) := by decide +kernel
theorem d_L_law_345 : decode c_L_law 345 = .ok (.goto 407, 3) := by decide +kernel
theorem d_L_law_348 : decode c_L_law 348 = .ok (.aload_n 1, 1) := by decide +kernel
theorem d_L_law_349 : decode c_L_law 349 = .ok (.aload_n 0, 1) := by decide +kernel
theorem d_L_law_350 : decode c_L_law 350 = .ok (.iload 4, 2) := by decide +kernel
theorem d_L_law_352 : decode c_L_law 352 = .ok (.iconst 1, 1) := by decide +kernel
theorem d_L_law_353 : decode c_L_law 353 = .ok (.iadd, 1) := by decide +kernel
theorem d_L_law_354 : decode c_L_law 354 = .ok (.iaload, 1) := by decide +kernel
theorem d_L_law_355 : decode c_L_law 355 = .ok (.aload_n 3, 1) := by decide +kernel
theorem d_L_law_356 : decode c_L_law 356 = .ok (.invokestatic 65, 3) := by decide +kernel
theorem d_L_law_359 : decode c_L_law 359 = .ok (.istore 5, 2) := by decide +kernel
theorem d_L_law_361 : decode c_L_law 361 = .ok (.aload_n 2, 1) := by decide +kernel
theorem d_L_law_362 : decode c_L_law 362 = .ok (.aload_n 0, 1) := by decide +kernel
theorem d_L_law_363 : decode c_L_law 363 = .ok (.iload 4, 2) := by decide +kernel
theorem d_L_law_365 : decode c_L_law 365 = .ok (.iconst 1, 1) := by decide +kernel
theorem d_L_law_366 : decode c_L_law 366 = .ok (.iadd, 1) := by decide +kernel
theorem d_L_law_367 : decode c_L_law 367 = .ok (.iaload, 1) := by decide +kernel
theorem d_L_law_368 : decode c_L_law 368 = .ok (.invokevirtual 68, 3) := by decide +kernel
theorem d_L_law_371 : decode c_L_law 371 = .ok (.istore 6, 2) := by decide +kernel
theorem d_L_law_373 : decode c_L_law 373 = .ok (.goto 379, 3) := by decide +kernel
theorem d_L_law_376 : decode c_L_law 376 = .ok (.aload_n 1, 1) := by decide +kernel
theorem d_L_law_377 : decode c_L_law 377 = .ok (.aload_n 0, 1) := by decide +kernel
theorem d_L_law_378 : decode c_L_law 378 = .ok (.iload 4, 2) := by decide +kernel
theorem d_L_law_380 : decode c_L_law 380 = .ok (.iconst 1, 1) := by decide +kernel
theorem d_L_law_381 : decode c_L_law 381 = .ok (.iadd, 1) := by decide +kernel
theorem d_L_law_382 : decode c_L_law 382 = .ok (.iaload, 1) := by decide +kernel
theorem d_L_law_383 : decode c_L_law 383 = .ok (.invokestatic 69, 3) := by decide +kernel
theorem d_L_law_386 : decode c_L_law 386 = .ok (.istore 5, 2) := by decide +kernel
theorem d_L_law_388 : decode c_L_law 388 = .ok (.aload_n 2, 1) := by decide +kernel
theorem d_L_law_389 : decode c_L_law 389 = .ok (.aload_n 0, 1) := by decide +kernel
theorem d_L_law_390 : decode c_L_law 390 = .ok (.iload 4, 2) := by decide +kernel
theorem d_L_law_392 : decode c_L_law 392 = .ok (.iconst 1, 1) := by decide +kernel
theorem d_L_law_393 : decode c_L_law 393 = .ok (.iadd, 1) := by decide +kernel
theorem d_L_law_394 : decode c_L_law 394 = .ok (.iaload, 1) := by decide +kernel
theorem d_L_law_395 : decode c_L_law 395 = .ok (.invokevirtual 72, 3) := by decide +kernel
theorem d_L_law_398 : decode c_L_law 398 = .ok (.goto 354, 3) := by decide +kernel
theorem d_L_law_401 : decode c_L_law 401 = .ok (.aload_n 1, 1) := by decide +kernel
theorem d_L_law_402 : decode c_L_law 402 = .ok (.aload_n 0, 1) := by decide +kernel
theorem d_L_law_403 : decode c_L_law 403 = .ok (.iload 4, 2) := by decide +kernel
theorem d_L_law_405 : decode c_L_law 405 = .ok (.iconst 1, 1) := by decide +kernel
theorem d_L_law_406 : decode c_L_law 406 = .ok (.iadd, 1) := by decide +kernel
theorem d_L_law_407 : decode c_L_law 407 = .ok (.iaload, 1) := by decide +kernel
theorem d_L_law_408 : decode c_L_law 408 = .ok (.aload_n 3, 1) := by decide +kernel
theorem d_L_law_409 : decode c_L_law 409 = .ok (.invokestatic 73, 3) := by decide +kernel
theorem d_L_law_412 : decode c_L_law 412 = .ok (.istore 5, 2) := by decide +kernel
theorem d_L_law_414 : decode c_L_law 414 = .ok (.aload_n 2, 1) := by decide +kernel
theorem d_L_law_415 : decode c_L_law 415 = .ok (.aload_n 0, 1) := by decide +kernel
theorem d_L_law_416 : decode c_L_law 416 = .ok (.iload 4, 2) := by decide +kernel
theorem d_L_law_418 : decode c_L_law 418 = .ok (.iconst 1, 1) := by decide +kernel
theorem d_L_law_419 : decode c_L_law 419 = .ok (.iadd, 1) := by decide +kernel
theorem d_L_law_420 : decode c_L_law 420 = .ok (.iaload, 1) := by decide +kernel
theorem d_L_law_421 : decode c_L_law 421 = .ok (.invokevirtual 75, 3) := by decide +kernel
theorem d_L_law_424 : decode c_L_law 424 = .ok (.istore 6, 2) := by decide +kernel
theorem d_L_law_426 : decode c_L_law 426 = .ok (.goto 326, 3) := by decide +kernel
theorem d_L_law_429 : decode c_L_law 429 = .ok (.aload_n 1, 1) := by decide +kernel
theorem d_L_law_430 : decode c_L_law 430 = .ok (.aload_n 3, 1) := by decide +kernel
theorem d_L_law_431 : decode c_L_law 431 = .ok (.invokestatic 76, 3) := by decide +kernel
theorem d_L_law_434 : decode c_L_law 434 = .ok (.istore 5, 2) := by decide +kernel
theorem d_L_law_436 : decode c_L_law 436 = .ok (.aload_n 2, 1) := by decide +kernel
theorem d_L_law_437 : decode c_L_law 437 = .ok (.invokevirtual 79, 3) := by decide +kernel
theorem d_L_law_440 : decode c_L_law 440 = .ok (.istore 6, 2) := by decide +kernel
theorem d_L_law_442 : decode c_L_law 442 = .ok (.goto 310, 3) := by decide +kernel
theorem d_L_law_445 : decode c_L_law 445 = .ok (.aload_n 1, 1) := by decide +kernel
theorem d_L_law_446 : decode c_L_law 446 = .ok (.aload_n 0, 1) := by decide +kernel
theorem d_L_law_447 : decode c_L_law 447 = .ok (.iload 4, 2) := by decide +kernel
theorem d_L_law_449 : decode c_L_law 449 = .ok (.iconst 1, 1) := by decide +kernel
theorem d_L_law_450 : decode c_L_law 450 = .ok (.iadd, 1) := by decide +kernel
theorem d_L_law_451 : decode c_L_law 451 = .ok (.iaload, 1) := by decide +kernel
theorem d_L_law_452 : decode c_L_law 452 = .ok (.invokestatic 80, 3) := by decide +kernel
theorem d_L_law_455 : decode c_L_law 455 = .ok (.istore 5, 2) := by decide +kernel
theorem d_L_law_457 : decode c_L_law 457 = .ok (.aload_n 2, 1) := by decide +kernel
theorem d_L_law_458 : decode c_L_law 458 = .ok (.aload_n 0, 1) := by decide +kernel
theorem d_L_law_459 : decode c_L_law 459 = .ok (.iload 4, 2) := by decide +kernel
theorem d_L_law_461 : decode c_L_law 461 = .ok (.iconst 1, 1) := by decide +kernel
theorem d_L_law_462 : decode c_L_law 462 = .ok (.iadd, 1) := by decide +kernel
theorem d_L_law_463 : decode c_L_law 463 = .ok (.iaload, 1) := by decide +kernel
theorem d_L_law_464 : decode c_L_law 464 = .ok (.invokevirtual 82, 3) := by decide +kernel
theorem d_L_law_467 : decode c_L_law 467 = .ok (.aload_n 2, 1) := by decide +kernel
theorem d_L_law_468 : decode c_L_law 468 = .ok (.invokevirtual 83, 3) := by decide +kernel
theorem d_L_law_471 : decode c_L_law 471 = .ok (.iload 5, 2) := by decide +kernel
theorem d_L_law_473 : decode c_L_law 473 = .ok (.if_icmp .eq 5, 3) := by decide +kernel
theorem d_L_law_476 : decode c_L_law 476 = .ok (.iconst 0, 1) := by decide +kernel
theorem d_L_law_477 : decode c_L_law 477 = .ok (.ireturn, 1) := by decide +kernel
theorem d_L_law_478 : decode c_L_law 478 = .ok (.goto 274, 3) := by decide +kernel
theorem d_L_law_481 : decode c_L_law 481 = .ok (.aload_n 1, 1) := by decide +kernel
theorem d_L_law_482 : decode c_L_law 482 = .ok (.invokevirtual 86, 3) := by decide +kernel
theorem d_L_law_485 : decode c_L_law 485 = .ok (.pop, 1) := by decide +kernel
theorem d_L_law_486 : decode c_L_law 486 = .ok (.aload_n 2, 1) := by decide +kernel
theorem d_L_law_487 : decode c_L_law 487 = .ok (.invokevirtual 90, 3) := by decide +kernel
theorem d_L_law_490 : decode c_L_law 490 = .ok (.pop, 1) := by decide +kernel
theorem d_L_law_491 : decode c_L_law 491 = .ok (.goto 261, 3) := by decide +kernel
theorem d_L_law_494 : decode c_L_law 494 = .ok (.aload_n 1, 1) := by decide +kernel
theorem d_L_law_495 : decode c_L_law 495 = .ok (.aload_n 0, 1) := by decide +kernel
theorem d_L_law_496 : decode c_L_law 496 = .ok (.iload 4, 2) := by decide +kernel
theorem d_L_law_498 : decode c_L_law 498 = .ok (.iconst 1, 1) := by decide +kernel
theorem d_L_law_499 : decode c_L_law 499 = .ok (.iadd, 1) := by decide +kernel
theorem d_L_law_500 : decode c_L_law 500 = .ok (.iaload, 1) := by decide +kernel
theorem d_L_law_501 : decode c_L_law 501 = .ok (.aload_n 0, 1) := by decide +kernel
theorem d_L_law_502 : decode c_L_law 502 = .ok (.iload 4, 2) := by decide +kernel
theorem d_L_law_504 : decode c_L_law 504 = .ok (.iconst 2, 1) := by decide +kernel
theorem d_L_law_505 : decode c_L_law 505 = .ok (.iadd, 1) := by decide +kernel
theorem d_L_law_506 : decode c_L_law 506 = .ok (.iaload, 1) := by decide +kernel
theorem d_L_law_507 : decode c_L_law 507 = .ok (.invokevirtual 91, 3) := by decide +kernel
theorem d_L_law_510 : decode c_L_law 510 = .ok (.pop, 1) := by decide +kernel
theorem d_L_law_511 : decode c_L_law 511 = .ok (.aload_n 2, 1) := by decide +kernel
theorem d_L_law_512 : decode c_L_law 512 = .ok (.aload_n 0, 1) := by decide +kernel
theorem d_L_law_513 : decode c_L_law 513 = .ok (.iload 4, 2) := by decide +kernel
theorem d_L_law_515 : decode c_L_law 515 = .ok (.iconst 1, 1) := by decide +kernel
theorem d_L_law_516 : decode c_L_law 516 = .ok (.iadd, 1) := by decide +kernel
theorem d_L_law_517 : decode c_L_law 517 = .ok (.iaload, 1) := by decide +kernel
theorem d_L_law_518 : decode c_L_law 518 = .ok (.aload_n 0, 1) := by decide +kernel
theorem d_L_law_519 : decode c_L_law 519 = .ok (.iload 4, 2) := by decide +kernel
theorem d_L_law_521 : decode c_L_law 521 = .ok (.iconst 2, 1) := by decide +kernel
theorem d_L_law_522 : decode c_L_law 522 = .ok (.iadd, 1) := by decide +kernel
theorem d_L_law_523 : decode c_L_law 523 = .ok (.iaload, 1) := by decide +kernel
theorem d_L_law_524 : decode c_L_law 524 = .ok (.invokevirtual 94, 3) := by decide +kernel
theorem d_L_law_527 : decode c_L_law 527 = .ok (.pop, 1) := by decide +kernel
theorem d_L_law_528 : decode c_L_law 528 = .ok (.goto 224, 3) := by decide +kernel
theorem d_L_law_531 : decode c_L_law 531 = .ok (.aload_n 1, 1) := by decide +kernel
theorem d_L_law_532 : decode c_L_law 532 = .ok (.aload_n 0, 1) := by decide +kernel
theorem d_L_law_533 : decode c_L_law 533 = .ok (.iload 4, 2) := by decide +kernel
theorem d_L_law_535 : decode c_L_law 535 = .ok (.iconst 1, 1) := by decide +kernel
theorem d_L_law_536 : decode c_L_law 536 = .ok (.iadd, 1) := by decide +kernel
theorem d_L_law_537 : decode c_L_law 537 = .ok (.iaload, 1) := by decide +kernel
theorem d_L_law_538 : decode c_L_law 538 = .ok (.invokevirtual 95, 3) := by decide +kernel
theorem d_L_law_541 : decode c_L_law 541 = .ok (.pop, 1) := by decide +kernel
theorem d_L_law_542 : decode c_L_law 542 = .ok (.aload_n 2, 1) := by decide +kernel
theorem d_L_law_543 : decode c_L_law 543 = .ok (.aload_n 0, 1) := by decide +kernel
theorem d_L_law_544 : decode c_L_law 544 = .ok (.iload 4, 2) := by decide +kernel
theorem d_L_law_546 : decode c_L_law 546 = .ok (.iconst 1, 1) := by decide +kernel
theorem d_L_law_547 : decode c_L_law 547 = .ok (.iadd, 1) := by decide +kernel
theorem d_L_law_548 : decode c_L_law 548 = .ok (.iaload, 1) := by decide +kernel
theorem d_L_law_549 : decode c_L_law 549 = .ok (.invokevirtual 98, 3) := by decide +kernel
theorem d_L_law_552 : decode c_L_law 552 = .ok (.pop, 1) := by decide +kernel
theorem d_L_law_553 : decode c_L_law 553 = .ok (.goto 199, 3) := by decide +kernel
theorem d_L_law_556 : decode c_L_law 556 = .ok (.aload_n 1, 1) := by decide +kernel
theorem d_L_law_557 : decode c_L_law 557 = .ok (.aload_n 0, 1) := by decide +kernel
theorem d_L_law_558 : decode c_L_law 558 = .ok (.iload 4, 2) := by decide +kernel
theorem d_L_law_560 : decode c_L_law 560 = .ok (.iconst 1, 1) := by decide +kernel
theorem d_L_law_561 : decode c_L_law 561 = .ok (.iadd, 1) := by decide +kernel
theorem d_L_law_562 : decode c_L_law 562 = .ok (.iaload, 1) := by decide +kernel
theorem d_L_law_563 : decode c_L_law 563 = .ok (.aload_n 0, 1) := by decide +kernel
theorem d_L_law_564 : decode c_L_law 564 = .ok (.iload 4, 2) := by decide +kernel
theorem d_L_law_566 : decode c_L_law 566 = .ok (.iconst 2, 1) := by decide +kernel
theorem d_L_law_567 : decode c_L_law 567 = .ok (.iadd, 1) := by decide +kernel
theorem d_L_law_568 : decode c_L_law 568 = .ok (.iaload, 1) := by decide +kernel
theorem d_L_law_569 : decode c_L_law 569 = .ok (.invokevirtual 99, 3) := by decide +kernel
theorem d_L_law_572 : decode c_L_law 572 = .ok (.pop, 1) := by decide +kernel
theorem d_L_law_573 : decode c_L_law 573 = .ok (.aload_n 2, 1) := by decide +kernel
theorem d_L_law_574 : decode c_L_law 574 = .ok (.aload_n 0, 1) := by decide +kernel
theorem d_L_law_575 : decode c_L_law 575 = .ok (.iload 4, 2) := by decide +kernel
theorem d_L_law_577 : decode c_L_law 577 = .ok (.iconst 1, 1) := by decide +kernel
theorem d_L_law_578 : decode c_L_law 578 = .ok (.iadd, 1) := by decide +kernel
theorem d_L_law_579 : decode c_L_law 579 = .ok (.iaload, 1) := by decide +kernel
theorem d_L_law_580 : decode c_L_law 580 = .ok (.aload_n 0, 1) := by decide +kernel
theorem d_L_law_581 : decode c_L_law 581 = .ok (.iload 4, 2) := by decide +kernel
theorem d_L_law_583 : decode c_L_law 583 = .ok (.iconst 2, 1) := by decide +kernel
theorem d_L_law_584 : decode c_L_law 584 = .ok (.iadd, 1) := by decide +kernel
theorem d_L_law_585 : decode c_L_law 585 = .ok (.iaload, 1) := by decide +kernel
theorem d_L_law_586 : decode c_L_law 586 = .ok (.invokevirtual 102, 3) := by decide +kernel
theorem d_L_law_589 : decode c_L_law 589 = .ok (.pop, 1) := by decide +kernel
theorem d_L_law_590 : decode c_L_law 590 = .ok (.goto 162, 3) := by decide +kernel
theorem d_L_law_593 : decode c_L_law 593 = .ok (.aload_n 1, 1) := by decide +kernel
theorem d_L_law_594 : decode c_L_law 594 = .ok (.aload_n 0, 1) := by decide +kernel
theorem d_L_law_595 : decode c_L_law 595 = .ok (.iload 4, 2) := by decide +kernel
theorem d_L_law_597 : decode c_L_law 597 = .ok (.iconst 1, 1) := by decide +kernel
theorem d_L_law_598 : decode c_L_law 598 = .ok (.iadd, 1) := by decide +kernel
theorem d_L_law_599 : decode c_L_law 599 = .ok (.iaload, 1) := by decide +kernel
theorem d_L_law_600 : decode c_L_law 600 = .ok (.aload_n 0, 1) := by decide +kernel
theorem d_L_law_601 : decode c_L_law 601 = .ok (.iload 4, 2) := by decide +kernel
theorem d_L_law_603 : decode c_L_law 603 = .ok (.iconst 2, 1) := by decide +kernel
theorem d_L_law_604 : decode c_L_law 604 = .ok (.iadd, 1) := by decide +kernel
theorem d_L_law_605 : decode c_L_law 605 = .ok (.iaload, 1) := by decide +kernel
theorem d_L_law_606 : decode c_L_law 606 = .ok (.aload_n 3, 1) := by decide +kernel
theorem d_L_law_607 : decode c_L_law 607 = .ok (.invokestatic 103, 3) := by decide +kernel
theorem d_L_law_610 : decode c_L_law 610 = .ok (.istore 5, 2) := by decide +kernel
theorem d_L_law_612 : decode c_L_law 612 = .ok (.aload_n 2, 1) := by decide +kernel
theorem d_L_law_613 : decode c_L_law 613 = .ok (.aload_n 0, 1) := by decide +kernel
theorem d_L_law_614 : decode c_L_law 614 = .ok (.iload 4, 2) := by decide +kernel
theorem d_L_law_616 : decode c_L_law 616 = .ok (.iconst 1, 1) := by decide +kernel
theorem d_L_law_617 : decode c_L_law 617 = .ok (.iadd, 1) := by decide +kernel
theorem d_L_law_618 : decode c_L_law 618 = .ok (.iaload, 1) := by decide +kernel
theorem d_L_law_619 : decode c_L_law 619 = .ok (.aload_n 0, 1) := by decide +kernel
theorem d_L_law_620 : decode c_L_law 620 = .ok (.iload 4, 2) := by decide +kernel
theorem d_L_law_622 : decode c_L_law 622 = .ok (.iconst 2, 1) := by decide +kernel
theorem d_L_law_623 : decode c_L_law 623 = .ok (.iadd, 1) := by decide +kernel
theorem d_L_law_624 : decode c_L_law 624 = .ok (.iaload, 1) := by decide +kernel
theorem d_L_law_625 : decode c_L_law 625 = .ok (.invokevirtual 105, 3) := by decide +kernel
theorem d_L_law_628 : decode c_L_law 628 = .ok (.istore 6, 2) := by decide +kernel
theorem d_L_law_630 : decode c_L_law 630 = .ok (.goto 122, 3) := by decide +kernel
theorem d_L_law_633 : decode c_L_law 633 = .ok (.aload_n 1, 1) := by decide +kernel
theorem d_L_law_634 : decode c_L_law 634 = .ok (.aload_n 0, 1) := by decide +kernel
theorem d_L_law_635 : decode c_L_law 635 = .ok (.iload 4, 2) := by decide +kernel
theorem d_L_law_637 : decode c_L_law 637 = .ok (.iconst 1, 1) := by decide +kernel
theorem d_L_law_638 : decode c_L_law 638 = .ok (.iadd, 1) := by decide +kernel
theorem d_L_law_639 : decode c_L_law 639 = .ok (.iaload, 1) := by decide +kernel
theorem d_L_law_640 : decode c_L_law 640 = .ok (.invokevirtual 106, 3) := by decide +kernel
theorem d_L_law_643 : decode c_L_law 643 = .ok (.pop, 1) := by decide +kernel
theorem d_L_law_644 : decode c_L_law 644 = .ok (.aload_n 2, 1) := by decide +kernel
theorem d_L_law_645 : decode c_L_law 645 = .ok (.aload_n 0, 1) := by decide +kernel
theorem d_L_law_646 : decode c_L_law 646 = .ok (.iload 4, 2) := by decide +kernel
theorem d_L_law_648 : decode c_L_law 648 = .ok (.iconst 1, 1) := by decide +kernel
theorem d_L_law_649 : decode c_L_law 649 = .ok (.iadd, 1) := by decide +kernel
theorem d_L_law_650 : decode c_L_law 650 = .ok (.iaload, 1) := by decide +kernel
theorem d_L_law_651 : decode c_L_law 651 = .ok (.invokevirtual 109, 3) := by decide +kernel
theorem d_L_law_654 : decode c_L_law 654 = .ok (.pop, 1) := by decide +kernel
theorem d_L_law_655 : decode c_L_law 655 = .ok (.goto 97, 3) := by decide +kernel
theorem d_L_law_658 : decode c_L_law 658 = .ok (.aload_n 1, 1) := by decide +kernel
theorem d_L_law_659 : decode c_L_law 659 = .ok (.aload_n 0, 1) := by decide +kernel
theorem d_L_law_660 : decode c_L_law 660 = .ok (.iload 4, 2) := by decide +kernel
theorem d_L_law_662 : decode c_L_law 662 = .ok (.iconst 1, 1) := by decide +kernel
theorem d_L_law_663 : decode c_L_law 663 = .ok (.iadd, 1) := by decide +kernel
theorem d_L_law_664 : decode c_L_law 664 = .ok (.iaload, 1) := by decide +kernel
theorem d_L_law_665 : decode c_L_law 665 = .ok (.aload_n 0, 1) := by decide +kernel
theorem d_L_law_666 : decode c_L_law 666 = .ok (.iload 4, 2) := by decide +kernel
theorem d_L_law_668 : decode c_L_law 668 = .ok (.iconst 2, 1) := by decide +kernel
theorem d_L_law_669 : decode c_L_law 669 = .ok (.iadd, 1) := by decide +kernel
theorem d_L_law_670 : decode c_L_law 670 = .ok (.iaload, 1) := by decide +kernel
theorem d_L_law_671 : decode c_L_law 671 = .ok (.i2l, 1) := by decide +kernel
theorem d_L_law_672 : decode c_L_law 672 = .ok (.bipush 32, 2) := by decide +kernel
theorem d_L_law_674 : decode c_L_law 674 = .ok (.lshl, 1) := by decide +kernel
theorem d_L_law_675 : decode c_L_law 675 = .ok (.aload_n 0, 1) := by decide +kernel
theorem d_L_law_676 : decode c_L_law 676 = .ok (.iload 4, 2) := by decide +kernel
theorem d_L_law_678 : decode c_L_law 678 = .ok (.iconst 3, 1) := by decide +kernel
theorem d_L_law_679 : decode c_L_law 679 = .ok (.iadd, 1) := by decide +kernel
theorem d_L_law_680 : decode c_L_law 680 = .ok (.iaload, 1) := by decide +kernel
theorem d_L_law_681 : decode c_L_law 681 = .ok (.i2l, 1) := by decide +kernel
theorem d_L_law_682 : decode c_L_law 682 = .ok (.ldc2_w 59, 3) := by decide +kernel
theorem d_L_law_685 : decode c_L_law 685 = .ok (.land, 1) := by decide +kernel
theorem d_L_law_686 : decode c_L_law 686 = .ok (.lor, 1) := by decide +kernel
theorem d_L_law_687 : decode c_L_law 687 = .ok (.invokevirtual 110, 3) := by decide +kernel
theorem d_L_law_690 : decode c_L_law 690 = .ok (.pop, 1) := by decide +kernel
theorem d_L_law_691 : decode c_L_law 691 = .ok (.aload_n 2, 1) := by decide +kernel
theorem d_L_law_692 : decode c_L_law 692 = .ok (.aload_n 0, 1) := by decide +kernel
theorem d_L_law_693 : decode c_L_law 693 = .ok (.iload 4, 2) := by decide +kernel
theorem d_L_law_695 : decode c_L_law 695 = .ok (.iconst 1, 1) := by decide +kernel
theorem d_L_law_696 : decode c_L_law 696 = .ok (.iadd, 1) := by decide +kernel
theorem d_L_law_697 : decode c_L_law 697 = .ok (.iaload, 1) := by decide +kernel
theorem d_L_law_698 : decode c_L_law 698 = .ok (.aload_n 0, 1) := by decide +kernel
theorem d_L_law_699 : decode c_L_law 699 = .ok (.iload 4, 2) := by decide +kernel
theorem d_L_law_701 : decode c_L_law 701 = .ok (.iconst 2, 1) := by decide +kernel
theorem d_L_law_702 : decode c_L_law 702 = .ok (.iadd, 1) := by decide +kernel
theorem d_L_law_703 : decode c_L_law 703 = .ok (.iaload, 1) := by decide +kernel
theorem d_L_law_704 : decode c_L_law 704 = .ok (.i2l, 1) := by decide +kernel
theorem d_L_law_705 : decode c_L_law 705 = .ok (.bipush 32, 2) := by decide +kernel
theorem d_L_law_707 : decode c_L_law 707 = .ok (.lshl, 1) := by decide +kernel
theorem d_L_law_708 : decode c_L_law 708 = .ok (.aload_n 0, 1) := by decide +kernel
theorem d_L_law_709 : decode c_L_law 709 = .ok (.iload 4, 2) := by decide +kernel
theorem d_L_law_711 : decode c_L_law 711 = .ok (.iconst 3, 1) := by decide +kernel
theorem d_L_law_712 : decode c_L_law 712 = .ok (.iadd, 1) := by decide +kernel
theorem d_L_law_713 : decode c_L_law 713 = .ok (.iaload, 1) := by decide +kernel
theorem d_L_law_714 : decode c_L_law 714 = .ok (.i2l, 1) := by decide +kernel
theorem d_L_law_715 : decode c_L_law 715 = .ok (.ldc2_w 59, 3) := by decide +kernel
theorem d_L_law_718 : decode c_L_law 718 = .ok (.land, 1) := by decide +kernel
theorem d_L_law_719 : decode c_L_law 719 = .ok (.lor, 1) := by decide +kernel
theorem d_L_law_720 : decode c_L_law 720 = .ok (.invokevirtual 114, 3) := by decide +kernel
theorem d_L_law_723 : decode c_L_law 723 = .ok (.pop, 1) := by decide +kernel
theorem d_L_law_724 : decode c_L_law 724 = .ok (.goto 28, 3) := by decide +kernel
theorem d_L_law_727 : decode c_L_law 727 = .ok (.aload_n 1, 1) := by decide +kernel
theorem d_L_law_728 : decode c_L_law 728 = .ok (.aload_n 0, 1) := by decide +kernel
theorem d_L_law_729 : decode c_L_law 729 = .ok (.iload 4, 2) := by decide +kernel
theorem d_L_law_731 : decode c_L_law 731 = .ok (.iconst 1, 1) := by decide +kernel
theorem d_L_law_732 : decode c_L_law 732 = .ok (.iadd, 1) := by decide +kernel
theorem d_L_law_733 : decode c_L_law 733 = .ok (.iaload, 1) := by decide +kernel
theorem d_L_law_734 : decode c_L_law 734 = .ok (.invokevirtual 115, 3) := by decide +kernel
theorem d_L_law_737 : decode c_L_law 737 = .ok (.pop, 1) := by decide +kernel
theorem d_L_law_738 : decode c_L_law 738 = .ok (.aload_n 2, 1) := by decide +kernel
theorem d_L_law_739 : decode c_L_law 739 = .ok (.aload_n 0, 1) := by decide +kernel
theorem d_L_law_740 : decode c_L_law 740 = .ok (.iload 4, 2) := by decide +kernel
theorem d_L_law_742 : decode c_L_law 742 = .ok (.iconst 1, 1) := by decide +kernel
theorem d_L_law_743 : decode c_L_law 743 = .ok (.iadd, 1) := by decide +kernel
theorem d_L_law_744 : decode c_L_law 744 = .ok (.iaload, 1) := by decide +kernel
theorem d_L_law_745 : decode c_L_law 745 = .ok (.invokevirtual 118, 3) := by decide +kernel
theorem d_L_law_748 : decode c_L_law 748 = .ok (.pop, 1) := by decide +kernel
theorem d_L_law_749 : decode c_L_law 749 = .ok (.goto 3, 3) := by decide +kernel
theorem d_L_law_752 : decode c_L_law 752 = .ok (.iinc 4 10, 3) := by decide +kernel
theorem d_L_law_755 : decode c_L_law 755 = .ok (.goto (-732), 3) := by decide +kernel
theorem d_L_law_758 : decode c_L_law 758 = .ok (.iconst 1, 1) := by decide +kernel
theorem d_L_law_759 : decode c_L_law 759 = .ok (.ireturn, 1) := by decide +kernel
