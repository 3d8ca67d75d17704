abbrev c_L_begin : ByteArray := method_3_code
abbrev y_L_begin : MethodName := ⟨"BlobStoreLaw", "begin", "(LBlobStore;II[J)I"⟩
theorem i_L_begin : bIs y_L_begin 5 := Or.inr ⟨_, _, _, t2_53⟩
theorem d_L_begin_0 : decode c_L_begin 0 = .ok (.aload_n 3, 1) := by decide +kernel
theorem d_L_begin_1 : decode c_L_begin 1 = .ok (.iconst 0, 1) := by decide +kernel
theorem d_L_begin_2 : decode c_L_begin 2 = .ok (.aload_n 0, 1) := by decide +kernel
theorem d_L_begin_3 : decode c_L_begin 3 = .ok (.iload_n 1, 1) := by decide +kernel
theorem d_L_begin_4 : decode c_L_begin 4 = .ok (.iload_n 2, 1) := by decide +kernel
theorem d_L_begin_5 : decode c_L_begin 5 = .ok (.invokevirtual 7, 3) := by decide +kernel
theorem d_L_begin_8 : decode c_L_begin 8 = .ok (.i2l, 1) := by decide +kernel
theorem d_L_begin_9 : decode c_L_begin 9 = .ok (.lastore, 1) := by decide +kernel
theorem d_L_begin_10 : decode c_L_begin 10 = .ok (.goto 15, 3) := by decide +kernel
theorem d_L_begin_13 : decode c_L_begin 13 = .ok (.astore 4, 2) := by decide +kernel
theorem d_L_begin_15 : decode c_L_begin 15 = .ok (.iconst 1, 1) := by decide +kernel
theorem d_L_begin_16 : decode c_L_begin 16 = .ok (.ireturn, 1) := by decide +kernel
theorem d_L_begin_17 : decode c_L_begin 17 = .ok (.astore 4, 2) := by decide +kernel
theorem d_L_begin_19 : decode c_L_begin 19 = .ok (.iconst 2, 1) := by decide +kernel
theorem d_L_begin_20 : decode c_L_begin 20 = .ok (.ireturn, 1) := by decide +kernel
theorem d_L_begin_21 : decode c_L_begin 21 = .ok (.astore 4, 2) := by decide +kernel
theorem d_L_begin_23 : decode c_L_begin 23 = .ok (.iconst 3, 1) := by decide +kernel
theorem d_L_begin_24 : decode c_L_begin 24 = .ok (.ireturn, 1) := by decide +kernel
theorem d_L_begin_25 : decode c_L_begin 25 = .ok (.iconst 0, 1) := by decide +kernel
theorem d_L_begin_26 : decode c_L_begin 26 = .ok (.ireturn, 1) := by decide +kernel
abbrev c_L_part : ByteArray := method_4_code
abbrev y_L_part : MethodName := ⟨"BlobStoreLaw", "part", "(LBlobStore;IIIJJJ[J)I"⟩
theorem i_L_part : bIs y_L_part 12 := Or.inr ⟨_, _, _, t2_184⟩
theorem d_L_part_0 : decode c_L_part 0 = .ok (.aload 10, 2) := by decide +kernel
theorem d_L_part_2 : decode c_L_part 2 = .ok (.iconst 0, 1) := by decide +kernel
theorem d_L_part_3 : decode c_L_part 3 = .ok (.aload_n 0, 1) := by decide +kernel
theorem d_L_part_4 : decode c_L_part 4 = .ok (.iload_n 1, 1) := by decide +kernel
theorem d_L_part_5 : decode c_L_part 5 = .ok (.iload_n 2, 1) := by decide +kernel
theorem d_L_part_6 : decode c_L_part 6 = .ok (.iload_n 3, 1) := by decide +kernel
theorem d_L_part_7 : decode c_L_part 7 = .ok (.lload 4, 2) := by decide +kernel
theorem d_L_part_9 : decode c_L_part 9 = .ok (.lload 6, 2) := by decide +kernel
theorem d_L_part_11 : decode c_L_part 11 = .ok (.lload 8, 2) := by decide +kernel
theorem d_L_part_13 : decode c_L_part 13 = .ok (.invokevirtual 19, 3) := by decide +kernel
theorem d_L_part_16 : decode c_L_part 16 = .ok (.i2l, 1) := by decide +kernel
theorem d_L_part_17 : decode c_L_part 17 = .ok (.lastore, 1) := by decide +kernel
theorem d_L_part_18 : decode c_L_part 18 = .ok (.goto 19, 3) := by decide +kernel
theorem d_L_part_21 : decode c_L_part 21 = .ok (.astore 11, 2) := by decide +kernel
theorem d_L_part_23 : decode c_L_part 23 = .ok (.iconst 1, 1) := by decide +kernel
theorem d_L_part_24 : decode c_L_part 24 = .ok (.ireturn, 1) := by decide +kernel
theorem d_L_part_25 : decode c_L_part 25 = .ok (.astore 11, 2) := by decide +kernel
theorem d_L_part_27 : decode c_L_part 27 = .ok (.iconst 2, 1) := by decide +kernel
theorem d_L_part_28 : decode c_L_part 28 = .ok (.ireturn, 1) := by decide +kernel
theorem d_L_part_29 : decode c_L_part 29 = .ok (.astore 11, 2) := by decide +kernel
theorem d_L_part_31 : decode c_L_part 31 = .ok (.iconst 3, 1) := by decide +kernel
theorem d_L_part_32 : decode c_L_part 32 = .ok (.ireturn, 1) := by decide +kernel
theorem d_L_part_33 : decode c_L_part 33 = .ok (.astore 11, 2) := by decide +kernel
theorem d_L_part_35 : decode c_L_part 35 = .ok (.iconst 4, 1) := by decide +kernel
theorem d_L_part_36 : decode c_L_part 36 = .ok (.ireturn, 1) := by decide +kernel
theorem d_L_part_37 : decode c_L_part 37 = .ok (.iconst 0, 1) := by decide +kernel
theorem d_L_part_38 : decode c_L_part 38 = .ok (.ireturn, 1) := by decide +kernel
abbrev c_L_complete : ByteArray := method_5_code
abbrev y_L_complete : MethodName := ⟨"BlobStoreLaw", "complete", "(LBlobStore;I[J)I"⟩
theorem i_L_complete : bIs y_L_complete 4 := Or.inr ⟨_, _, _, t3_17⟩
theorem d_L_complete_0 : decode c_L_complete 0 = .ok (.aload_n 2, 1) := by decide +kernel
theorem d_L_complete_1 : decode c_L_complete 1 = .ok (.iconst 0, 1) := by decide +kernel
theorem d_L_complete_2 : decode c_L_complete 2 = .ok (.aload_n 0, 1) := by decide +kernel
theorem d_L_complete_3 : decode c_L_complete 3 = .ok (.iload_n 1, 1) := by decide +kernel
theorem d_L_complete_4 : decode c_L_complete 4 = .ok (.invokevirtual 25, 3) := by decide +kernel
theorem d_L_complete_7 : decode c_L_complete 7 = .ok (.i2l, 1) := by decide +kernel
theorem d_L_complete_8 : decode c_L_complete 8 = .ok (.lastore, 1) := by decide +kernel
theorem d_L_complete_9 : decode c_L_complete 9 = .ok (.goto 12, 3) := by decide +kernel
theorem d_L_complete_12 : decode c_L_complete 12 = .ok (.astore_n 3, 1) := by decide +kernel
theorem d_L_complete_13 : decode c_L_complete 13 = .ok (.iconst 1, 1) := by decide +kernel
theorem d_L_complete_14 : decode c_L_complete 14 = .ok (.ireturn, 1) := by decide +kernel
theorem d_L_complete_15 : decode c_L_complete 15 = .ok (.astore_n 3, 1) := by decide +kernel
theorem d_L_complete_16 : decode c_L_complete 16 = .ok (.iconst 2, 1) := by decide +kernel
theorem d_L_complete_17 : decode c_L_complete 17 = .ok (.ireturn, 1) := by decide +kernel
theorem d_L_complete_18 : decode c_L_complete 18 = .ok (.astore_n 3, 1) := by decide +kernel
theorem d_L_complete_19 : decode c_L_complete 19 = .ok (.iconst 3, 1) := by decide +kernel
theorem d_L_complete_20 : decode c_L_complete 20 = .ok (.ireturn, 1) := by decide +kernel
theorem d_L_complete_21 : decode c_L_complete 21 = .ok (.iconst 0, 1) := by decide +kernel
theorem d_L_complete_22 : decode c_L_complete 22 = .ok (.ireturn, 1) := by decide +kernel
abbrev c_L_abort : ByteArray := method_6_code
abbrev y_L_abort : MethodName := ⟨"BlobStoreLaw", "abort", "(LBlobStore;I)I"⟩
theorem i_L_abort : bIs y_L_abort 3 := Or.inr ⟨_, _, _, t3_30⟩
theorem d_L_abort_0 : decode c_L_abort 0 = .ok (.aload_n 0, 1) := by decide +kernel
theorem d_L_abort_1 : decode c_L_abort 1 = .ok (.iload_n 1, 1) := by decide +kernel
theorem d_L_abort_2 : decode c_L_abort 2 = .ok (.invokevirtual 29, 3) := by decide +kernel
theorem d_L_abort_5 : decode c_L_abort 5 = .ok (.goto 12, 3) := by decide +kernel
theorem d_L_abort_8 : decode c_L_abort 8 = .ok (.astore_n 2, 1) := by decide +kernel
theorem d_L_abort_9 : decode c_L_abort 9 = .ok (.iconst 1, 1) := by decide +kernel
theorem d_L_abort_10 : decode c_L_abort 10 = .ok (.ireturn, 1) := by decide +kernel
theorem d_L_abort_11 : decode c_L_abort 11 = .ok (.astore_n 2, 1) := by decide +kernel
theorem d_L_abort_12 : decode c_L_abort 12 = .ok (.iconst 2, 1) := by decide +kernel
theorem d_L_abort_13 : decode c_L_abort 13 = .ok (.ireturn, 1) := by decide +kernel
theorem d_L_abort_14 : decode c_L_abort 14 = .ok (.astore_n 2, 1) := by decide +kernel
theorem d_L_abort_15 : decode c_L_abort 15 = .ok (.iconst 3, 1) := by decide +kernel
theorem d_L_abort_16 : decode c_L_abort 16 = .ok (.ireturn, 1) := by decide +kernel
theorem d_L_abort_17 : decode c_L_abort 17 = .ok (.iconst 0, 1) := by decide +kernel
theorem d_L_abort_18 : decode c_L_abort 18 = .ok (.ireturn, 1) := by decide +kernel
abbrev c_L_delete : ByteArray := method_7_code
abbrev y_L_delete : MethodName := ⟨"BlobStoreLaw", "delete", "(LBlobStore;I[J)I"⟩
theorem i_L_delete : bIs y_L_delete 4 := Or.inr ⟨_, _, _, t3_37⟩
theorem d_L_delete_0 : decode c_L_delete 0 = .ok (.aload_n 2, 1) := by decide +kernel
theorem d_L_delete_1 : decode c_L_delete 1 = .ok (.iconst 0, 1) := by decide +kernel
theorem d_L_delete_2 : decode c_L_delete 2 = .ok (.aload_n 0, 1) := by decide +kernel
theorem d_L_delete_3 : decode c_L_delete 3 = .ok (.iload_n 1, 1) := by decide +kernel
theorem d_L_delete_4 : decode c_L_delete 4 = .ok (.invokevirtual 33, 3) := by decide +kernel
theorem d_L_delete_7 : decode c_L_delete 7 = .ok (.ifCond .eq 7, 3) := by decide +kernel
theorem d_L_delete_10 : decode c_L_delete 10 = .ok (.lconst 1, 1) := by decide +kernel
theorem d_L_delete_11 : decode c_L_delete 11 = .ok (.goto 4, 3) := by decide +kernel
theorem d_L_delete_14 : decode c_L_delete 14 = .ok (.lconst 0, 1) := by decide +kernel
theorem d_L_delete_15 : decode c_L_delete 15 = .ok (.lastore, 1) := by decide +kernel
theorem d_L_delete_16 : decode c_L_delete 16 = .ok (.goto 9, 3) := by decide +kernel
theorem d_L_delete_19 : decode c_L_delete 19 = .ok (.astore_n 3, 1) := by decide +kernel
theorem d_L_delete_20 : decode c_L_delete 20 = .ok (.iconst 1, 1) := by decide +kernel
theorem d_L_delete_21 : decode c_L_delete 21 = .ok (.ireturn, 1) := by decide +kernel
theorem d_L_delete_22 : decode c_L_delete 22 = .ok (.astore_n 3, 1) := by decide +kernel
theorem d_L_delete_23 : decode c_L_delete 23 = .ok (.iconst 2, 1) := by decide +kernel
theorem d_L_delete_24 : decode c_L_delete 24 = .ok (.ireturn, 1) := by decide +kernel
theorem d_L_delete_25 : decode c_L_delete 25 = .ok (.iconst 0, 1) := by decide +kernel
theorem d_L_delete_26 : decode c_L_delete 26 = .ok (.ireturn, 1) := by decide +kernel
abbrev c_L_collect : ByteArray := method_8_code
abbrev y_L_collect : MethodName := ⟨"BlobStoreLaw", "collect", "(LBlobStore;[J)I"⟩
theorem i_L_collect : bIs y_L_collect 3 := Or.inr ⟨_, _, _, t3_44⟩
theorem d_L_collect_0 : decode c_L_collect 0 = .ok (.aload_n 1, 1) := by decide +kernel
theorem d_L_collect_1 : decode c_L_collect 1 = .ok (.iconst 0, 1) := by decide +kernel
theorem d_L_collect_2 : decode c_L_collect 2 = .ok (.aload_n 0, 1) := by decide +kernel
theorem d_L_collect_3 : decode c_L_collect 3 = .ok (.invokevirtual 37, 3) := by decide +kernel
theorem d_L_collect_6 : decode c_L_collect 6 = .ok (.i2l, 1) := by decide +kernel
theorem d_L_collect_7 : decode c_L_collect 7 = .ok (.lastore, 1) := by decide +kernel
theorem d_L_collect_8 : decode c_L_collect 8 = .ok (.goto 9, 3) := by decide +kernel
theorem d_L_collect_11 : decode c_L_collect 11 = .ok (.astore_n 2, 1) := by decide +kernel
theorem d_L_collect_12 : decode c_L_collect 12 = .ok (.iconst 1, 1) := by decide +kernel
theorem d_L_collect_13 : decode c_L_collect 13 = .ok (.ireturn, 1) := by decide +kernel
theorem d_L_collect_14 : decode c_L_collect 14 = .ok (.astore_n 2, 1) := by decide +kernel
theorem d_L_collect_15 : decode c_L_collect 15 = .ok (.iconst 2, 1) := by decide +kernel
theorem d_L_collect_16 : decode c_L_collect 16 = .ok (.ireturn, 1) := by decide +kernel
theorem d_L_collect_17 : decode c_L_collect 17 = .ok (.iconst 0, 1) := by decide +kernel
theorem d_L_collect_18 : decode c_L_collect 18 = .ok (.ireturn, 1) := by decide +kernel
abbrev c_L_cutAfter : ByteArray := method_9_code
abbrev y_L_cutAfter : MethodName := ⟨"BlobStoreLaw", "cutAfter", "(LBlobStore;I)I"⟩
theorem i_L_cutAfter : bIs y_L_cutAfter 3 := Or.inr ⟨_, _, _, t3_55⟩
theorem d_L_cutAfter_0 : decode c_L_cutAfter 0 = .ok (.aload_n 0, 1) := by decide +kernel
theorem d_L_cutAfter_1 : decode c_L_cutAfter 1 = .ok (.iload_n 1, 1) := by decide +kernel
theorem d_L_cutAfter_2 : decode c_L_cutAfter 2 = .ok (.invokevirtual 41, 3) := by decide +kernel
theorem d_L_cutAfter_5 : decode c_L_cutAfter 5 = .ok (.goto 6, 3) := by decide +kernel
theorem d_L_cutAfter_8 : decode c_L_cutAfter 8 = .ok (.astore_n 2, 1) := by decide +kernel
theorem d_L_cutAfter_9 : decode c_L_cutAfter 9 = .ok (.iconst 1, 1) := by decide +kernel
theorem d_L_cutAfter_10 : decode c_L_cutAfter 10 = .ok (.ireturn, 1) := by decide +kernel
theorem d_L_cutAfter_11 : decode c_L_cutAfter 11 = .ok (.iconst 0, 1) := by decide +kernel
theorem d_L_cutAfter_12 : decode c_L_cutAfter 12 = .ok (.ireturn, 1) := by decide +kernel
abbrev c_L_address : ByteArray := method_10_code
abbrev y_L_address : MethodName := ⟨"BlobStoreLaw", "address", "(LBlobStore;II[J)I"⟩
theorem i_L_address : bIs y_L_address 5 := Or.inr ⟨_, _, _, t3_67⟩
theorem d_L_address_0 : decode c_L_address 0 = .ok (.aload_n 3, 1) := by decide +kernel
theorem d_L_address_1 : decode c_L_address 1 = .ok (.iconst 0, 1) := by decide +kernel
theorem d_L_address_2 : decode c_L_address 2 = .ok (.aload_n 0, 1) := by decide +kernel
theorem d_L_address_3 : decode c_L_address 3 = .ok (.iload_n 1, 1) := by decide +kernel
theorem d_L_address_4 : decode c_L_address 4 = .ok (.iload_n 2, 1) := by decide +kernel
theorem d_L_address_5 : decode c_L_address 5 = .ok (.invokevirtual 44, 3) := by decide +kernel
theorem d_L_address_8 : decode c_L_address 8 = .ok (.i2l, 1) := by decide +kernel
theorem d_L_address_9 : decode c_L_address 9 = .ok (.lastore, 1) := by decide +kernel
theorem d_L_address_10 : decode c_L_address 10 = .ok (.goto 7, 3) := by decide +kernel
theorem d_L_address_13 : decode c_L_address 13 = .ok (.astore 4, 2) := by decide +kernel
theorem d_L_address_15 : decode c_L_address 15 = .ok (.iconst 1, 1) := by decide +kernel
theorem d_L_address_16 : decode c_L_address 16 = .ok (.ireturn, 1) := by decide +kernel
theorem d_L_address_17 : decode c_L_address 17 = .ok (.iconst 0, 1) := by decide +kernel
theorem d_L_address_18 : decode c_L_address 18 = .ok (.ireturn, 1) := by decide +kernel
abbrev c_L_law : ByteArray := code
theorem d_L_law_0 : decode c_L_law 0 = .ok (.new 8, 3) := by decide +kernel
theorem d_L_law_3 : decode c_L_law 3 = .ok (.dup, 1) := by decide +kernel
theorem d_L_law_4 : decode c_L_law 4 = .ok (.invokespecial 49, 3) := by decide +kernel
theorem d_L_law_7 : decode c_L_law 7 = .ok (.astore_n 1, 1) := by decide +kernel
theorem d_L_law_8 : decode c_L_law 8 = .ok (.new 50, 3) := by decide +kernel
theorem d_L_law_11 : decode c_L_law 11 = .ok (.dup, 1) := by decide +kernel
theorem d_L_law_12 : decode c_L_law 12 = .ok (.invokespecial 52, 3) := by decide +kernel
theorem d_L_law_15 : decode c_L_law 15 = .ok (.astore_n 2, 1) := by decide +kernel
theorem d_L_law_16 : decode c_L_law 16 = .ok (.iconst 1, 1) := by decide +kernel
theorem d_L_law_17 : decode c_L_law 17 = .ok (.newarray .long, 2) := by decide +kernel
theorem d_L_law_19 : decode c_L_law 19 = .ok (.astore_n 3, 1) := by decide +kernel
theorem d_L_law_20 : decode c_L_law 20 = .ok (.iconst 0, 1) := by decide +kernel
theorem d_L_law_21 : decode c_L_law 21 = .ok (.istore 4, 2) := by decide +kernel
theorem d_L_law_23 : decode c_L_law 23 = .ok (.iload 4, 2) := by decide +kernel
theorem d_L_law_25 : decode c_L_law 25 = .ok (.aload_n 0, 1) := by decide +kernel
theorem d_L_law_26 : decode c_L_law 26 = .ok (.arraylength, 1) := by decide +kernel
theorem d_L_law_27 : decode c_L_law 27 = .ok (.bipush 10, 2) := by decide +kernel
theorem d_L_law_29 : decode c_L_law 29 = .ok (.isub, 1) := by decide +kernel
theorem d_L_law_30 : decode c_L_law 30 = .ok (.if_icmp .gt 914, 3) := by decide +kernel
theorem d_L_law_33 : decode c_L_law 33 = .ok (.aload_n 0, 1) := by decide +kernel
theorem d_L_law_34 : decode c_L_law 34 = .ok (.iload 4, 2) := by decide +kernel
theorem d_L_law_36 : decode c_L_law 36 = .ok (.iaload, 1) := by decide +kernel
theorem d_L_law_37 : decode c_L_law 37 = .ok (.bipush 15, 2) := by decide +kernel
theorem d_L_law_39 : decode c_L_law 39 = .ok (.iand, 1) := by decide +kernel
theorem d_L_law_40 : decode c_L_law 40 = .ok (.tableswitch 898 0 14 #[76, 144, 364, 420, 456, 519, 563, 599, 612, 649, 674, 711, 779, 804, 873], 76) := by decide +kernel
theorem d_L_law_116 : decode c_L_law 116 = .ok (.aload_n 1, 1) := by decide +kernel
theorem d_L_law_117 : decode c_L_law 117 = .ok (.aload_n 0, 1) := by decide +kernel
theorem d_L_law_118 : decode c_L_law 118 = .ok (.iload 4, 2) := by decide +kernel
theorem d_L_law_120 : decode c_L_law 120 = .ok (.iconst 1, 1) := by decide +kernel
theorem d_L_law_121 : decode c_L_law 121 = .ok (.iadd, 1) := by decide +kernel
theorem d_L_law_122 : decode c_L_law 122 = .ok (.iaload, 1) := by decide +kernel
theorem d_L_law_123 : decode c_L_law 123 = .ok (.aload_n 0, 1) := by decide +kernel
theorem d_L_law_124 : decode c_L_law 124 = .ok (.iload 4, 2) := by decide +kernel
theorem d_L_law_126 : decode c_L_law 126 = .ok (.iconst 2, 1) := by decide +kernel
theorem d_L_law_127 : decode c_L_law 127 = .ok (.iadd, 1) := by decide +kernel
theorem d_L_law_128 : decode c_L_law 128 = .ok (.iaload, 1) := by decide +kernel
theorem d_L_law_129 : decode c_L_law 129 = .ok (.aload_n 3, 1) := by decide +kernel
theorem d_L_law_130 : decode c_L_law 130 = .ok (.invokestatic 53, 3) := by decide +kernel
theorem d_L_law_133 : decode c_L_law 133 = .ok (.istore 5, 2) := by decide +kernel
theorem d_L_law_135 : decode c_L_law 135 = .ok (.aload_n 2, 1) := by decide +kernel
theorem d_L_law_136 : decode c_L_law 136 = .ok (.aload_n 0, 1) := by decide +kernel
theorem d_L_law_137 : decode c_L_law 137 = .ok (.iload 4, 2) := by decide +kernel
theorem d_L_law_139 : decode c_L_law 139 = .ok (.iconst 1, 1) := by decide +kernel
theorem d_L_law_140 : decode c_L_law 140 = .ok (.iadd, 1) := by decide +kernel
theorem d_L_law_141 : decode c_L_law 141 = .ok (.iaload, 1) := by decide +kernel
theorem d_L_law_142 : decode c_L_law 142 = .ok (.aload_n 0, 1) := by decide +kernel
theorem d_L_law_143 : decode c_L_law 143 = .ok (.iload 4, 2) := by decide +kernel
theorem d_L_law_145 : decode c_L_law 145 = .ok (.iconst 2, 1) := by decide +kernel
theorem d_L_law_146 : decode c_L_law 146 = .ok (.iadd, 1) := by decide +kernel
theorem d_L_law_147 : decode c_L_law 147 = .ok (.iaload, 1) := by decide +kernel
theorem d_L_law_148 : decode c_L_law 148 = .ok (.invokevirtual 58, 3) := by decide +kernel
theorem d_L_law_151 : decode c_L_law 151 = .ok (.istore 6, 2) := by decide +kernel
theorem d_L_law_153 : decode c_L_law 153 = .ok (.aload_n 2, 1) := by decide +kernel
theorem d_L_law_154 : decode c_L_law 154 = .ok (.invokevirtual 59, 3) := by decide +kernel
theorem d_L_law_157 : decode c_L_law 157 = .ok (.iload 5, 2) := by decide +kernel
theorem d_L_law_159 : decode c_L_law 159 = .ok (.if_icmp .eq 5, 3) := by decide +kernel
theorem d_L_law_162 : decode c_L_law 162 = .ok (.iconst 0, 1) := by decide +kernel
theorem d_L_law_163 : decode c_L_law 163 = .ok (.ireturn, 1) := by decide +kernel
theorem d_L_law_164 : decode c_L_law 164 = .ok (.iload 5, 2) := by decide +kernel
theorem d_L_law_166 : decode c_L_law 166 = .ok (.ifCond .ne 15, 3) := by decide +kernel
theorem d_L_law_169 : decode c_L_law 169 = .ok (.aload_n 3, 1) := by decide +kernel
theorem d_L_law_170 : decode c_L_law 170 = .ok (.iconst 0, 1) := by decide +kernel
theorem d_L_law_171 : decode c_L_law 171 = .ok (.laload, 1) := by decide +kernel
theorem d_L_law_172 : decode c_L_law 172 = .ok (.iload 6, 2) := by decide +kernel
theorem d_L_law_174 : decode c_L_law 174 = .ok (.i2l, 1) := by decide +kernel
theorem d_L_law_175 : decode c_L_law 175 = .ok (.lcmp, 1) := by decide +kernel
theorem d_L_law_176 : decode c_L_law 176 = .ok (.ifCond .eq 5, 3) := by decide +kernel
theorem d_L_law_179 : decode c_L_law 179 = .ok (.iconst 0, 1) := by decide +kernel
theorem d_L_law_180 : decode c_L_law 180 = .ok (.ireturn, 1) := by decide +kernel
theorem d_L_law_181 : decode c_L_law 181 = .ok (.goto 757, 3) := by decide +kernel
theorem d_L_law_184 : decode c_L_law 184 = .ok (.aload_n 1, 1) := by decide +kernel
theorem d_L_law_185 : decode c_L_law 185 = .ok (.aload_n 0, 1) := by decide +kernel
theorem d_L_law_186 : decode c_L_law 186 = .ok (.iload 4, 2) := by decide +kernel
theorem d_L_law_188 : decode c_L_law 188 = .ok (.iconst 1, 1) := by decide +kernel
theorem d_L_law_189 : decode c_L_law 189 = .ok (.iadd, 1) := by decide +kernel
theorem d_L_law_190 : decode c_L_law 190 = .ok (.iaload, 1) := by decide +kernel
theorem d_L_law_191 : decode c_L_law 191 = .ok (.aload_n 0, 1) := by decide +kernel
theorem d_L_law_192 : decode c_L_law 192 = .ok (.iload 4, 2) := by decide +kernel
theorem d_L_law_194 : decode c_L_law 194 = .ok (.iconst 2, 1) := by decide +kernel
theorem d_L_law_195 : decode c_L_law 195 = .ok (.iadd, 1) := by decide +kernel
theorem d_L_law_196 : decode c_L_law 196 = .ok (.iaload, 1) := by decide +kernel
theorem d_L_law_197 : decode c_L_law 197 = .ok (.aload_n 0, 1) := by decide +kernel
theorem d_L_law_198 : decode c_L_law 198 = .ok (.iload 4, 2) := by decide +kernel
theorem d_L_law_200 : decode c_L_law 200 = .ok (.iconst 3, 1) := by decide +kernel
theorem d_L_law_201 : decode c_L_law 201 = .ok (.iadd, 1) := by decide +kernel
theorem d_L_law_202 : decode c_L_law 202 = .ok (.iaload, 1) := by decide +kernel
theorem d_L_law_203 : decode c_L_law 203 = .ok (.aload_n 0, 1) := by decide +kernel
theorem d_L_law_204 : decode c_L_law 204 = .ok (.iload 4, 2) := by decide +kernel
theorem d_L_law_206 : decode c_L_law 206 = .ok (.iconst 4, 1) := by decide +kernel
theorem d_L_law_207 : decode c_L_law 207 = .ok (.iadd, 1) := by decide +kernel
theorem d_L_law_208 : decode c_L_law 208 = .ok (.iaload, 1) := by decide +kernel
theorem d_L_law_209 : decode c_L_law 209 = .ok (.i2l, 1) := by decide +kernel
theorem d_L_law_210 : decode c_L_law 210 = .ok (.bipush 32, 2) := by decide +kernel
theorem d_L_law_212 : decode c_L_law 212 = .ok (.lshl, 1) := by decide +kernel
theorem d_L_law_213 : decode c_L_law 213 = .ok (.aload_n 0, 1) := by decide +kernel
theorem d_L_law_214 : decode c_L_law 214 = .ok (.iload 4, 2) := by decide +kernel
theorem d_L_law_216 : decode c_L_law 216 = .ok (.iconst 5, 1) := by decide +kernel
theorem d_L_law_217 : decode c_L_law 217 = .ok (.iadd, 1) := by decide +kernel
theorem d_L_law_218 : decode c_L_law 218 = .ok (.iaload, 1) := by decide +kernel
theorem d_L_law_219 : decode c_L_law 219 = .ok (.i2l, 1) := by decide +kernel
theorem d_L_law_220 : decode c_L_law 220 = .ok (.ldc2_w 62, 3) := by decide +kernel
theorem d_L_law_223 : decode c_L_law 223 = .ok (.land, 1) := by decide +kernel
theorem d_L_law_224 : decode c_L_law 224 = .ok (.lor, 1) := by decide +kernel
theorem d_L_law_225 : decode c_L_law 225 = .ok (.aload_n 0, 1) := by decide +kernel
theorem d_L_law_226 : decode c_L_law 226 = .ok (.iload 4, 2) := by decide +kernel
theorem d_L_law_228 : decode c_L_law 228 = .ok (.bipush 6, 2) := by decide +kernel
theorem d_L_law_230 : decode c_L_law 230 = .ok (.iadd, 1) := by decide +kernel
theorem d_L_law_231 : decode c_L_law 231 = .ok (.iaload, 1) := by decide +kernel
theorem d_L_law_232 : decode c_L_law 232 = .ok (.i2l, 1) := by decide +kernel
theorem d_L_law_233 : decode c_L_law 233 = .ok (.bipush 32, 2) := by decide +kernel
theorem d_L_law_235 : decode c_L_law 235 = .ok (.lshl, 1) := by decide +kernel
theorem d_L_law_236 : decode c_L_law 236 = .ok (.aload_n 0, 1) := by decide +kernel
theorem d_L_law_237 : decode c_L_law 237 = .ok (.iload 4, 2) := by decide +kernel
theorem d_L_law_239 : decode c_L_law 239 = .ok (.bipush 7, 2) := by decide +kernel
theorem d_L_law_241 : decode c_L_law 241 = .ok (.iadd, 1) := by decide +kernel
theorem d_L_law_242 : decode c_L_law 242 = .ok (.iaload, 1) := by decide +kernel
theorem d_L_law_243 : decode c_L_law 243 = .ok (.i2l, 1) := by decide +kernel
theorem d_L_law_244 : decode c_L_law 244 = .ok (.ldc2_w 62, 3) := by decide +kernel
theorem d_L_law_247 : decode c_L_law 247 = .ok (.land, 1) := by decide +kernel
theorem d_L_law_248 : decode c_L_law 248 = .ok (.lor, 1) := by decide +kernel
theorem d_L_law_249 : decode c_L_law 249 = .ok (.aload_n 0, 1) := by decide +kernel
theorem d_L_law_250 : decode c_L_law 250 = .ok (.iload 4, 2) := by decide +kernel
theorem d_L_law_252 : decode c_L_law 252 = .ok (.bipush 8, 2) := by decide +kernel
theorem d_L_law_254 : decode c_L_law 254 = .ok (.iadd, 1) := by decide +kernel
theorem d_L_law_255 : decode c_L_law 255 = .ok (.iaload, 1) := by decide +kernel
theorem d_L_law_256 : decode c_L_law 256 = .ok (.i2l, 1) := by decide +kernel
theorem d_L_law_257 : decode c_L_law 257 = .ok (.bipush 32, 2) := by decide +kernel
theorem d_L_law_259 : decode c_L_law 259 = .ok (.lshl, 1) := by decide +kernel
theorem d_L_law_260 : decode c_L_law 260 = .ok (.aload_n 0, 1) := by decide +kernel
theorem d_L_law_261 : decode c_L_law 261 = .ok (.iload 4, 2) := by decide +kernel
theorem d_L_law_263 : decode c_L_law 263 = .ok (.bipush 9, 2) := by decide +kernel
theorem d_L_law_265 : decode c_L_law 265 = .ok (.iadd, 1) := by decide +kernel
theorem d_L_law_266 : decode c_L_law 266 = .ok (.iaload, 1) := by decide +kernel
theorem d_L_law_267 : decode c_L_law 267 = .ok (.i2l, 1) := by decide +kernel
theorem d_L_law_268 : decode c_L_law 268 = .ok (.ldc2_w 62, 3) := by decide +kernel
theorem d_L_law_271 : decode c_L_law 271 = .ok (.land, 1) := by decide +kernel
theorem d_L_law_272 : decode c_L_law 272 = .ok (.lor, 1) := by decide +kernel
theorem d_L_law_273 : decode c_L_law 273 = .ok (.aload_n 3, 1) := by decide +kernel
theorem d_L_law_274 : decode c_L_law 274 = .ok (.invokestatic 64, 3) := by decide +kernel
theorem d_L_law_277 : decode c_L_law 277 = .ok (.istore 5, 2) := by decide +kernel
theorem d_L_law_279 : decode c_L_law 279 = .ok (.aload_n 2, 1) := by decide +kernel
theorem d_L_law_280 : decode c_L_law 280 = .ok (.aload_n 0, 1) := by decide +kernel
theorem d_L_law_281 : decode c_L_law 281 = .ok (.iload 4, 2) := by decide +kernel
theorem d_L_law_283 : decode c_L_law 283 = .ok (.iconst 1, 1) := by decide +kernel
theorem d_L_law_284 : decode c_L_law 284 = .ok (.iadd, 1) := by decide +kernel
theorem d_L_law_285 : decode c_L_law 285 = .ok (.iaload, 1) := by decide +kernel
theorem d_L_law_286 : decode c_L_law 286 = .ok (.aload_n 0, 1) := by decide +kernel
theorem d_L_law_287 : decode c_L_law 287 = .ok (.iload 4, 2) := by decide +kernel
theorem d_L_law_289 : decode c_L_law 289 = .ok (.iconst 2, 1) := by decide +kernel
theorem d_L_law_290 : decode c_L_law 290 = .ok (.iadd, 1) := by decide +kernel
theorem d_L_law_291 : decode c_L_law 291 = .ok (.iaload, 1) := by decide +kernel
theorem d_L_law_292 : decode c_L_law 292 = .ok (.aload_n 0, 1) := by decide +kernel
theorem d_L_law_293 : decode c_L_law 293 = .ok (.iload 4, 2) := by decide +kernel
theorem d_L_law_295 : decode c_L_law 295 = .ok (.iconst 3, 1) := by decide +kernel
theorem d_L_law_296 : decode c_L_law 296 = .ok (.iadd, 1) := by decide +kernel
theorem d_L_law_297 : decode c_L_law 297 = .ok (.iaload, 1) := by decide +kernel
theorem d_L_law_298 : decode c_L_law 298 = .ok (.aload_n 0, 1) := by decide +kernel
theorem d_L_law_299 : decode c_L_law 299 = .ok (.iload 4, 2) := by decide +kernel
theorem d_L_law_301 : decode c_L_law 301 = .ok (.iconst 4, 1) := by decide +kernel
theorem d_L_law_302 : decode c_L_law 302 = .ok (.iadd, 1) := by decide +kernel
theorem d_L_law_303 : decode c_L_law 303 = .ok (.iaload, 1) := by decide +kernel
theorem d_L_law_304 : decode c_L_law 304 = .ok (.i2l, 1) := by decide +kernel
theorem d_L_law_305 : decode c_L_law 305 = .ok (.bipush 32, 2) := by decide +kernel
theorem d_L_law_307 : decode c_L_law 307 = .ok (.lshl, 1) := by decide +kernel
theorem d_L_law_308 : decode c_L_law 308 = .ok (.aload_n 0, 1) := by decide +kernel
theorem d_L_law_309 : decode c_L_law 309 = .ok (.iload 4, 2) := by decide +kernel
theorem d_L_law_311 : decode c_L_law 311 = .ok (.iconst 5, 1) := by decide +kernel
theorem d_L_law_312 : decode c_L_law 312 = .ok (.iadd, 1) := by decide +kernel
theorem d_L_law_313 : decode c_L_law 313 = .ok (.iaload, 1) := by decide +kernel
theorem d_L_law_314 : decode c_L_law 314 = .ok (.i2l, 1) := by decide +kernel
theorem d_L_law_315 : decode c_L_law 315 = .ok (.ldc2_w 62, 3) := by decide +kernel
theorem d_L_law_318 : decode c_L_law 318 = .ok (.land, 1) := by decide +kernel
theorem d_L_law_319 : decode c_L_law 319 = .ok (.lor, 1) := by decide +kernel
theorem d_L_law_320 : decode c_L_law 320 = .ok (.aload_n 0, 1) := by decide +kernel
theorem d_L_law_321 : decode c_L_law 321 = .ok (.iload 4, 2) := by decide +kernel
theorem d_L_law_323 : decode c_L_law 323 = .ok (.bipush 6, 2) := by decide +kernel
theorem d_L_law_325 : decode c_L_law 325 = .ok (.iadd, 1) := by decide +kernel
theorem d_L_law_326 : decode c_L_law 326 = .ok (.iaload, 1) := by decide +kernel
theorem d_L_law_327 : decode c_L_law 327 = .ok (.i2l, 1) := by decide +kernel
theorem d_L_law_328 : decode c_L_law 328 = .ok (.bipush 32, 2) := by decide +kernel
theorem d_L_law_330 : decode c_L_law 330 = .ok (.lshl, 1) := by decide +kernel
theorem d_L_law_331 : decode c_L_law 331 = .ok (.aload_n 0, 1) := by decide +kernel
theorem d_L_law_332 : decode c_L_law 332 = .ok (.iload 4, 2) := by decide +kernel
theorem d_L_law_334 : decode c_L_law 334 = .ok (.bipush 7, 2) := by decide +kernel
theorem d_L_law_336 : decode c_L_law 336 = .ok (.iadd, 1) := by decide +kernel
theorem d_L_law_337 : decode c_L_law 337 = .ok (.iaload, 1) := by decide +kernel
theorem d_L_law_338 : decode c_L_law 338 = .ok (.i2l, 1) := by decide +kernel
theorem d_L_law_339 : decode c_L_law 339 = .ok (.ldc2_w 62, 3) := by decide +kernel
theorem d_L_law_342 : decode c_L_law 342 = .ok (.land, 1) := by decide +kernel
theorem d_L_law_343 : decode c_L_law 343 = .ok (.lor, 1) := by decide +kernel
theorem d_L_law_344 : decode c_L_law 344 = .ok (.aload_n 0, 1) := by decide +kernel
theorem d_L_law_345 : decode c_L_law 345 = .ok (.iload 4, 2) := by decide +kernel
theorem d_L_law_347 : decode c_L_law 347 = .ok (.bipush 8, 2) := by decide +kernel
theorem d_L_law_349 : decode c_L_law 349 = .ok (.iadd, 1) := by decide +kernel
theorem d_L_law_350 : decode c_L_law 350 = .ok (.iaload, 1) := by decide +kernel
theorem d_L_law_351 : decode c_L_law 351 = .ok (.i2l, 1) := by decide +kernel
theorem d_L_law_352 : decode c_L_law 352 = .ok (.bipush 32, 2) := by decide +kernel
theorem d_L_law_354 : decode c_L_law 354 = .ok (.lshl, 1) := by decide +kernel
theorem d_L_law_355 : decode c_L_law 355 = .ok (.aload_n 0, 1) := by decide +kernel
theorem d_L_law_356 : decode c_L_law 356 = .ok (.iload 4, 2) := by decide +kernel
theorem d_L_law_358 : decode c_L_law 358 = .ok (.bipush 9, 2) := by decide +kernel
theorem d_L_law_360 : decode c_L_law 360 = .ok (.iadd, 1) := by decide +kernel
theorem d_L_law_361 : decode c_L_law 361 = .ok (.iaload, 1) := by decide +kernel
theorem d_L_law_362 : decode c_L_law 362 = .ok (.i2l, 1) := by decide +kernel
theorem d_L_law_363 : decode c_L_law 363 = .ok (.ldc2_w 62, 3) := by decide +kernel
theorem d_L_law_366 : decode c_L_law 366 = .ok (.land, 1) := by decide +kernel
theorem d_L_law_367 : decode c_L_law 367 = .ok (.lor, 1) := by decide +kernel
theorem d_L_law_368 : decode c_L_law 368 = .ok (.invokevirtual 67, 3) := by decide +kernel
theorem d_L_law_371 : decode c_L_law 371 = .ok (.istore 6, 2) := by decide +kernel
theorem d_L_law_373 : decode c_L_law 373 = .ok (.aload_n 2, 1) := by decide +kernel
theorem d_L_law_374 : decode c_L_law 374 = .ok (.invokevirtual 59, 3) := by decide +kernel
theorem d_L_law_377 : decode c_L_law 377 = .ok (.iload 5, 2) := by decide +kernel
theorem d_L_law_379 : decode c_L_law 379 = .ok (.if_icmp .eq 5, 3) := by decide +kernel
theorem d_L_law_382 : decode c_L_law 382 = .ok (.iconst 0, 1) := by decide +kernel
theorem d_L_law_383 : decode c_L_law 383 = .ok (.ireturn, 1) := by decide +kernel
theorem d_L_law_384 : decode c_L_law 384 = .ok (.iload 5, 2) := by decide +kernel
theorem d_L_law_386 : decode c_L_law 386 = .ok (.ifCond .ne 15, 3) := by decide +kernel
theorem d_L_law_389 : decode c_L_law 389 = .ok (.aload_n 3, 1) := by decide +kernel
theorem d_L_law_390 : decode c_L_law 390 = .ok (.iconst 0, 1) := by decide +kernel
theorem d_L_law_391 : decode c_L_law 391 = .ok (.laload, 1) := by decide +kernel
theorem d_L_law_392 : decode c_L_law 392 = .ok (.iload 6, 2) := by decide +kernel
theorem d_L_law_394 : decode c_L_law 394 = .ok (.i2l, 1) := by decide +kernel
theorem d_L_law_395 : decode c_L_law 395 = .ok (.lcmp, 1) := by decide +kernel
theorem d_L_law_396 : decode c_L_law 396 = .ok (.ifCond .eq 5, 3) := by decide +kernel
theorem d_L_law_399 : decode c_L_law 399 = .ok (.iconst 0, 1) := by decide +kernel
theorem d_L_law_400 : decode c_L_law 400 = .ok (.ireturn, 1) := by decide +kernel
theorem d_L_law_401 : decode c_L_law 401 = .ok (.goto 537, 3) := by decide +kernel
theorem d_L_law_404 : decode c_L_law 404 = .ok (.aload_n 1, 1) := by decide +kernel
theorem d_L_law_405 : decode c_L_law 405 = .ok (.aload_n 0, 1) := by decide +kernel
theorem d_L_law_406 : decode c_L_law 406 = .ok (.iload 4, 2) := by decide +kernel
theorem d_L_law_408 : decode c_L_law 408 = .ok (.iconst 1, 1) := by decide +kernel
theorem d_L_law_409 : decode c_L_law 409 = .ok (.iadd, 1) := by decide +kernel
theorem d_L_law_410 : decode c_L_law 410 = .ok (.iaload, 1) := by decide +kernel
theorem d_L_law_411 : decode c_L_law 411 = .ok (.aload_n 3, 1) := by decide +kernel
theorem d_L_law_412 : decode c_L_law 412 = .ok (.invokestatic 68, 3) := by decide +kernel
theorem d_L_law_415 : decode c_L_law 415 = .ok (.istore 5, 2) := by decide +kernel
theorem d_L_law_417 : decode c_L_law 417 = .ok (.aload_n 2, 1) := by decide +kernel
theorem d_L_law_418 : decode c_L_law 418 = .ok (.aload_n 0, 1) := by decide +kernel
theorem d_L_law_419 : decode c_L_law 419 = .ok (.iload 4, 2) := by decide +kernel
theorem d_L_law_421 : decode c_L_law 421 = .ok (.iconst 1, 1) := by decide +kernel
theorem d_L_law_422 : decode c_L_law 422 = .ok (.iadd, 1) := by decide +kernel
theorem d_L_law_423 : decode c_L_law 423 = .ok (.iaload, 1) := by decide +kernel
theorem d_L_law_424 : decode c_L_law 424 = .ok (.invokevirtual 71, 3) := by decide +kernel
theorem d_L_law_427 : decode c_L_law 427 = .ok (.istore 6, 2) := by decide +kernel
theorem d_L_law_429 : decode c_L_law 429 = .ok (.aload_n 2, 1) := by decide +kernel
theorem d_L_law_430 : decode c_L_law 430 = .ok (.invokevirtual 59, 3) := by decide +kernel
theorem d_L_law_433 : decode c_L_law 433 = .ok (.iload 5, 2) := by decide +kernel
theorem d_L_law_435 : decode c_L_law 435 = .ok (.if_icmp .eq 5, 3) := by decide +kernel
theorem d_L_law_438 : decode c_L_law 438 = .ok (.iconst 0, 1) := by decide +kernel
theorem d_L_law_439 : decode c_L_law 439 = .ok (.ireturn, 1) := by decide +kernel
theorem d_L_law_440 : decode c_L_law 440 = .ok (.iload 5, 2) := by decide +kernel
theorem d_L_law_442 : decode c_L_law 442 = .ok (.ifCond .ne 15, 3) := by decide +kernel
theorem d_L_law_445 : decode c_L_law 445 = .ok (.aload_n 3, 1) := by decide +kernel
theorem d_L_law_446 : decode c_L_law 446 = .ok (.iconst 0, 1) := by decide +kernel
theorem d_L_law_447 : decode c_L_law 447 = .ok (.laload, 1) := by decide +kernel
theorem d_L_law_448 : decode c_L_law 448 = .ok (.iload 6, 2) := by decide +kernel
theorem d_L_law_450 : decode c_L_law 450 = .ok (.i2l, 1) := by decide +kernel
theorem d_L_law_451 : decode c_L_law 451 = .ok (.lcmp, 1) := by decide +kernel
theorem d_L_law_452 : decode c_L_law 452 = .ok (.ifCond .eq 5, 3) := by decide +kernel
theorem d_L_law_455 : decode c_L_law 455 = .ok (.iconst 0, 1) := by decide +kernel
theorem d_L_law_456 : decode c_L_law 456 = .ok (.ireturn, 1) := by decide +kernel
theorem d_L_law_457 : decode c_L_law 457 = .ok (.goto 481, 3) := by decide +kernel
theorem d_L_law_460 : decode c_L_law 460 = .ok (.aload_n 1, 1) := by decide +kernel
theorem d_L_law_461 : decode c_L_law 461 = .ok (.aload_n 0, 1) := by decide +kernel
theorem d_L_law_462 : decode c_L_law 462 = .ok (.iload 4, 2) := by decide +kernel
theorem d_L_law_464 : decode c_L_law 464 = .ok (.iconst 1, 1) := by decide +kernel
theorem d_L_law_465 : decode c_L_law 465 = .ok (.iadd, 1) := by decide +kernel
theorem d_L_law_466 : decode c_L_law 466 = .ok (.iaload, 1) := by decide +kernel
theorem d_L_law_467 : decode c_L_law 467 = .ok (.invokestatic 72, 3) := by decide +kernel
theorem d_L_law_470 : decode c_L_law 470 = .ok (.istore 5, 2) := by decide +kernel
theorem d_L_law_472 : decode c_L_law 472 = .ok (.aload_n 2, 1) := by decide +kernel
theorem d_L_law_473 : decode c_L_law 473 = .ok (.aload_n 0, 1) := by decide +kernel
theorem d_L_law_474 : decode c_L_law 474 = .ok (.iload 4, 2) := by decide +kernel
theorem d_L_law_476 : decode c_L_law 476 = .ok (.iconst 1, 1) := by decide +kernel
theorem d_L_law_477 : decode c_L_law 477 = .ok (.iadd, 1) := by decide +kernel
theorem d_L_law_478 : decode c_L_law 478 = .ok (.iaload, 1) := by decide +kernel
theorem d_L_law_479 : decode c_L_law 479 = .ok (.invokevirtual 75, 3) := by decide +kernel
theorem d_L_law_482 : decode c_L_law 482 = .ok (.aload_n 2, 1) := by decide +kernel
theorem d_L_law_483 : decode c_L_law 483 = .ok (.invokevirtual 59, 3) := by decide +kernel
theorem d_L_law_486 : decode c_L_law 486 = .ok (.iload 5, 2) := by decide +kernel
theorem d_L_law_488 : decode c_L_law 488 = .ok (.if_icmp .eq 5, 3) := by decide +kernel
theorem d_L_law_491 : decode c_L_law 491 = .ok (.iconst 0, 1) := by decide +kernel
theorem d_L_law_492 : decode c_L_law 492 = .ok (.ireturn, 1) := by decide +kernel
theorem d_L_law_493 : decode c_L_law 493 = .ok (.goto 445, 3) := by decide +kernel
theorem d_L_law_496 : decode c_L_law 496 = .ok (.aload_n 1, 1) := by decide +kernel
theorem d_L_law_497 : decode c_L_law 497 = .ok (.aload_n 0, 1) := by decide +kernel
theorem d_L_law_498 : decode c_L_law 498 = .ok (.iload 4, 2) := by decide +kernel
theorem d_L_law_500 : decode c_L_law 500 = .ok (.iconst 1, 1) := by decide +kernel
theorem d_L_law_501 : decode c_L_law 501 = .ok (.iadd, 1) := by decide +kernel
theorem d_L_law_502 : decode c_L_law 502 = .ok (.iaload, 1) := by decide +kernel
theorem d_L_law_503 : decode c_L_law 503 = .ok (.aload_n 3, 1) := by decide +kernel
theorem d_L_law_504 : decode c_L_law 504 = .ok (.invokestatic 76, 3) := by decide +kernel
theorem d_L_law_507 : decode c_L_law 507 = .ok (.istore 5, 2) := by decide +kernel
theorem d_L_law_509 : decode c_L_law 509 = .ok (.aload_n 2, 1) := by decide +kernel
theorem d_L_law_510 : decode c_L_law 510 = .ok (.aload_n 0, 1) := by decide +kernel
theorem d_L_law_511 : decode c_L_law 511 = .ok (.iload 4, 2) := by decide +kernel
theorem d_L_law_513 : decode c_L_law 513 = .ok (.iconst 1, 1) := by decide +kernel
theorem d_L_law_514 : decode c_L_law 514 = .ok (.iadd, 1) := by decide +kernel
theorem d_L_law_515 : decode c_L_law 515 = .ok (.iaload, 1) := by decide +kernel
theorem d_L_law_516 : decode c_L_law 516 = .ok (.invokevirtual 78, 3) := by decide +kernel
theorem d_L_law_519 : decode c_L_law 519 = .ok (.istore 6, 2) := by decide +kernel
theorem d_L_law_521 : decode c_L_law 521 = .ok (.aload_n 2, 1) := by decide +kernel
theorem d_L_law_522 : decode c_L_law 522 = .ok (.invokevirtual 59, 3) := by decide +kernel
theorem d_L_law_525 : decode c_L_law 525 = .ok (.iload 5, 2) := by decide +kernel
theorem d_L_law_527 : decode c_L_law 527 = .ok (.if_icmp .eq 5, 3) := by decide +kernel
theorem d_L_law_530 : decode c_L_law 530 = .ok (.iconst 0, 1) := by decide +kernel
theorem d_L_law_531 : decode c_L_law 531 = .ok (.ireturn, 1) := by decide +kernel
theorem d_L_law_532 : decode c_L_law 532 = .ok (.iload 5, 2) := by decide +kernel
theorem d_L_law_534 : decode c_L_law 534 = .ok (.ifCond .ne 22, 3) := by decide +kernel
theorem d_L_law_537 : decode c_L_law 537 = .ok (.aload_n 3, 1) := by decide +kernel
theorem d_L_law_538 : decode c_L_law 538 = .ok (.iconst 0, 1) := by decide +kernel
theorem d_L_law_539 : decode c_L_law 539 = .ok (.laload, 1) := by decide +kernel
theorem d_L_law_540 : decode c_L_law 540 = .ok (.iload 6, 2) := by decide +kernel
theorem d_L_law_542 : decode c_L_law 542 = .ok (.ifCond .eq 7, 3) := by decide +kernel
theorem d_L_law_545 : decode c_L_law 545 = .ok (.lconst 1, 1) := by decide +kernel
theorem d_L_law_546 : decode c_L_law 546 = .ok (.goto 4, 3) := by decide +kernel
theorem d_L_law_549 : decode c_L_law 549 = .ok (.lconst 0, 1) := by decide +kernel
theorem d_L_law_550 : decode c_L_law 550 = .ok (.lcmp, 1) := by decide +kernel
theorem d_L_law_551 : decode c_L_law 551 = .ok (.ifCond .eq 5, 3) := by decide +kernel
theorem d_L_law_554 : decode c_L_law 554 = .ok (.iconst 0, 1) := by decide +kernel
theorem d_L_law_555 : decode c_L_law 555 = .ok (.ireturn, 1) := by decide +kernel
theorem d_L_law_556 : decode c_L_law 556 = .ok (.goto 382, 3) := by decide +kernel
theorem d_L_law_559 : decode c_L_law 559 = .ok (.aload_n 1, 1) := by decide +kernel
theorem d_L_law_560 : decode c_L_law 560 = .ok (.aload_n 3, 1) := by decide +kernel
theorem d_L_law_561 : decode c_L_law 561 = .ok (.invokestatic 79, 3) := by decide +kernel
theorem d_L_law_564 : decode c_L_law 564 = .ok (.istore 5, 2) := by decide +kernel
theorem d_L_law_566 : decode c_L_law 566 = .ok (.aload_n 2, 1) := by decide +kernel
theorem d_L_law_567 : decode c_L_law 567 = .ok (.invokevirtual 82, 3) := by decide +kernel
theorem d_L_law_570 : decode c_L_law 570 = .ok (.istore 6, 2) := by decide +kernel
theorem d_L_law_572 : decode c_L_law 572 = .ok (.aload_n 2, 1) := by decide +kernel
theorem d_L_law_573 : decode c_L_law 573 = .ok (.invokevirtual 59, 3) := by decide +kernel
theorem d_L_law_576 : decode c_L_law 576 = .ok (.iload 5, 2) := by decide +kernel
theorem d_L_law_578 : decode c_L_law 578 = .ok (.if_icmp .eq 5, 3) := by decide +kernel
theorem d_L_law_581 : decode c_L_law 581 = .ok (.iconst 0, 1) := by decide +kernel
theorem d_L_law_582 : decode c_L_law 582 = .ok (.ireturn, 1) := by decide +kernel
theorem d_L_law_583 : decode c_L_law 583 = .ok (.iload 5, 2) := by decide +kernel
theorem d_L_law_585 : decode c_L_law 585 = .ok (.ifCond .ne 15, 3) := by decide +kernel
theorem d_L_law_588 : decode c_L_law 588 = .ok (.aload_n 3, 1) := by decide +kernel
theorem d_L_law_589 : decode c_L_law 589 = .ok (.iconst 0, 1) := by decide +kernel
theorem d_L_law_590 : decode c_L_law 590 = .ok (.laload, 1) := by decide +kernel
theorem d_L_law_591 : decode c_L_law 591 = .ok (.iload 6, 2) := by decide +kernel
theorem d_L_law_593 : decode c_L_law 593 = .ok (.i2l, 1) := by decide +kernel
theorem d_L_law_594 : decode c_L_law 594 = .ok (.lcmp, 1) := by decide +kernel
theorem d_L_law_595 : decode c_L_law 595 = .ok (.ifCond .eq 5, 3) := by decide +kernel
theorem d_L_law_598 : decode c_L_law 598 = .ok (.iconst 0, 1) := by decide +kernel
theorem d_L_law_599 : decode c_L_law 599 = .ok (.ireturn, 1) := by decide +kernel
theorem d_L_law_600 : decode c_L_law 600 = .ok (.goto 338, 3) := by decide +kernel
theorem d_L_law_603 : decode c_L_law 603 = .ok (.aload_n 1, 1) := by decide +kernel
theorem d_L_law_604 : decode c_L_law 604 = .ok (.aload_n 0, 1) := by decide +kernel
theorem d_L_law_605 : decode c_L_law 605 = .ok (.iload 4, 2) := by decide +kernel
theorem d_L_law_607 : decode c_L_law 607 = .ok (.iconst 1, 1) := by decide +kernel
theorem d_L_law_608 : decode c_L_law 608 = .ok (.iadd, 1) := by decide +kernel
theorem d_L_law_609 : decode c_L_law 609 = .ok (.iaload, 1) := by decide +kernel
theorem d_L_law_610 : decode c_L_law 610 = .ok (.invokestatic 83, 3) := by decide +kernel
theorem d_L_law_613 : decode c_L_law 613 = .ok (.istore 5, 2) := by decide +kernel
theorem d_L_law_615 : decode c_L_law 615 = .ok (.aload_n 2, 1) := by decide +kernel
theorem d_L_law_616 : decode c_L_law 616 = .ok (.aload_n 0, 1) := by decide +kernel
theorem d_L_law_617 : decode c_L_law 617 = .ok (.iload 4, 2) := by decide +kernel
theorem d_L_law_619 : decode c_L_law 619 = .ok (.iconst 1, 1) := by decide +kernel
theorem d_L_law_620 : decode c_L_law 620 = .ok (.iadd, 1) := by decide +kernel
theorem d_L_law_621 : decode c_L_law 621 = .ok (.iaload, 1) := by decide +kernel
theorem d_L_law_622 : decode c_L_law 622 = .ok (.invokevirtual 85, 3) := by decide +kernel
theorem d_L_law_625 : decode c_L_law 625 = .ok (.aload_n 2, 1) := by decide +kernel
theorem d_L_law_626 : decode c_L_law 626 = .ok (.invokevirtual 59, 3) := by decide +kernel
theorem d_L_law_629 : decode c_L_law 629 = .ok (.iload 5, 2) := by decide +kernel
theorem d_L_law_631 : decode c_L_law 631 = .ok (.if_icmp .eq 5, 3) := by decide +kernel
theorem d_L_law_634 : decode c_L_law 634 = .ok (.iconst 0, 1) := by decide +kernel
theorem d_L_law_635 : decode c_L_law 635 = .ok (.ireturn, 1) := by decide +kernel
theorem d_L_law_636 : decode c_L_law 636 = .ok (.goto 302, 3) := by decide +kernel
theorem d_L_law_639 : decode c_L_law 639 = .ok (.aload_n 1, 1) := by decide +kernel
theorem d_L_law_640 : decode c_L_law 640 = .ok (.invokevirtual 86, 3) := by decide +kernel
theorem d_L_law_643 : decode c_L_law 643 = .ok (.aload_n 2, 1) := by decide +kernel
theorem d_L_law_644 : decode c_L_law 644 = .ok (.invokevirtual 90, 3) := by decide +kernel
theorem d_L_law_647 : decode c_L_law 647 = .ok (.if_icmp .eq 291, 3) := by decide +kernel
theorem d_L_law_650 : decode c_L_law 650 = .ok (.iconst 0, 1) := by decide +kernel
theorem d_L_law_651 : decode c_L_law 651 = .ok (.ireturn, 1) := by decide +kernel
theorem d_L_law_652 : decode c_L_law 652 = .ok (.aload_n 1, 1) := by decide +kernel
theorem d_L_law_653 : decode c_L_law 653 = .ok (.aload_n 0, 1) := by decide +kernel
theorem d_L_law_654 : decode c_L_law 654 = .ok (.iload 4, 2) := by decide +kernel
theorem d_L_law_656 : decode c_L_law 656 = .ok (.iconst 1, 1) := by decide +kernel
theorem d_L_law_657 : decode c_L_law 657 = .ok (.iadd, 1) := by decide +kernel
theorem d_L_law_658 : decode c_L_law 658 = .ok (.iaload, 1) := by decide +kernel
theorem d_L_law_659 : decode c_L_law 659 = .ok (.aload_n 0, 1) := by decide +kernel
theorem d_L_law_660 : decode c_L_law 660 = .ok (.iload 4, 2) := by decide +kernel
theorem d_L_law_662 : decode c_L_law 662 = .ok (.iconst 2, 1) := by decide +kernel
theorem d_L_law_663 : decode c_L_law 663 = .ok (.iadd, 1) := by decide +kernel
theorem d_L_law_664 : decode c_L_law 664 = .ok (.iaload, 1) := by decide +kernel
theorem d_L_law_665 : decode c_L_law 665 = .ok (.invokevirtual 91, 3) := by decide +kernel
theorem d_L_law_668 : decode c_L_law 668 = .ok (.aload_n 2, 1) := by decide +kernel
theorem d_L_law_669 : decode c_L_law 669 = .ok (.aload_n 0, 1) := by decide +kernel
theorem d_L_law_670 : decode c_L_law 670 = .ok (.iload 4, 2) := by decide +kernel
theorem d_L_law_672 : decode c_L_law 672 = .ok (.iconst 1, 1) := by decide +kernel
theorem d_L_law_673 : decode c_L_law 673 = .ok (.iadd, 1) := by decide +kernel
theorem d_L_law_674 : decode c_L_law 674 = .ok (.iaload, 1) := by decide +kernel
theorem d_L_law_675 : decode c_L_law 675 = .ok (.aload_n 0, 1) := by decide +kernel
theorem d_L_law_676 : decode c_L_law 676 = .ok (.iload 4, 2) := by decide +kernel
theorem d_L_law_678 : decode c_L_law 678 = .ok (.iconst 2, 1) := by decide +kernel
theorem d_L_law_679 : decode c_L_law 679 = .ok (.iadd, 1) := by decide +kernel
theorem d_L_law_680 : decode c_L_law 680 = .ok (.iaload, 1) := by decide +kernel
theorem d_L_law_681 : decode c_L_law 681 = .ok (.invokevirtual 94, 3) := by decide +kernel
theorem d_L_law_684 : decode c_L_law 684 = .ok (.if_icmp .eq 254, 3) := by decide +kernel
theorem d_L_law_687 : decode c_L_law 687 = .ok (.iconst 0, 1) := by decide +kernel
theorem d_L_law_688 : decode c_L_law 688 = .ok (.ireturn, 1) := by decide +kernel
theorem d_L_law_689 : decode c_L_law 689 = .ok (.aload_n 1, 1) := by decide +kernel
theorem d_L_law_690 : decode c_L_law 690 = .ok (.aload_n 0, 1) := by decide +kernel
theorem d_L_law_691 : decode c_L_law 691 = .ok (.iload 4, 2) := by decide +kernel
theorem d_L_law_693 : decode c_L_law 693 = .ok (.iconst 1, 1) := by decide +kernel
theorem d_L_law_694 : decode c_L_law 694 = .ok (.iadd, 1) := by decide +kernel
theorem d_L_law_695 : decode c_L_law 695 = .ok (.iaload, 1) := by decide +kernel
theorem d_L_law_696 : decode c_L_law 696 = .ok (.invokevirtual 95, 3) := by decide +kernel
theorem d_L_law_699 : decode c_L_law 699 = .ok (.aload_n 2, 1) := by decide +kernel
theorem d_L_law_700 : decode c_L_law 700 = .ok (.aload_n 0, 1) := by decide +kernel
theorem d_L_law_701 : decode c_L_law 701 = .ok (.iload 4, 2) := by decide +kernel
theorem d_L_law_703 : decode c_L_law 703 = .ok (.iconst 1, 1) := by decide +kernel
theorem d_L_law_704 : decode c_L_law 704 = .ok (.iadd, 1) := by decide +kernel
theorem d_L_law_705 : decode c_L_law 705 = .ok (.iaload, 1) := by decide +kernel
theorem d_L_law_706 : decode c_L_law 706 = .ok (.invokevirtual 98, 3) := by decide +kernel
theorem d_L_law_709 : decode c_L_law 709 = .ok (.if_icmp .eq 229, 3) := by decide +kernel
theorem d_L_law_712 : decode c_L_law 712 = .ok (.iconst 0, 1) := by decide +kernel
theorem d_L_law_713 : decode c_L_law 713 = .ok (.ireturn, 1) := by decide +kernel
theorem d_L_law_714 : decode c_L_law 714 = .ok (.aload_n 1, 1) := by decide +kernel
theorem d_L_law_715 : decode c_L_law 715 = .ok (.aload_n 0, 1) := by decide +kernel
theorem d_L_law_716 : decode c_L_law 716 = .ok (.iload 4, 2) := by decide +kernel
theorem d_L_law_718 : decode c_L_law 718 = .ok (.iconst 1, 1) := by decide +kernel
theorem d_L_law_719 : decode c_L_law 719 = .ok (.iadd, 1) := by decide +kernel
theorem d_L_law_720 : decode c_L_law 720 = .ok (.iaload, 1) := by decide +kernel
theorem d_L_law_721 : decode c_L_law 721 = .ok (.aload_n 0, 1) := by decide +kernel
theorem d_L_law_722 : decode c_L_law 722 = .ok (.iload 4, 2) := by decide +kernel
theorem d_L_law_724 : decode c_L_law 724 = .ok (.iconst 2, 1) := by decide +kernel
theorem d_L_law_725 : decode c_L_law 725 = .ok (.iadd, 1) := by decide +kernel
theorem d_L_law_726 : decode c_L_law 726 = .ok (.iaload, 1) := by decide +kernel
theorem d_L_law_727 : decode c_L_law 727 = .ok (.invokevirtual 99, 3) := by decide +kernel
theorem d_L_law_730 : decode c_L_law 730 = .ok (.aload_n 2, 1) := by decide +kernel
theorem d_L_law_731 : decode c_L_law 731 = .ok (.aload_n 0, 1) := by decide +kernel
theorem d_L_law_732 : decode c_L_law 732 = .ok (.iload 4, 2) := by decide +kernel
theorem d_L_law_734 : decode c_L_law 734 = .ok (.iconst 1, 1) := by decide +kernel
theorem d_L_law_735 : decode c_L_law 735 = .ok (.iadd, 1) := by decide +kernel
theorem d_L_law_736 : decode c_L_law 736 = .ok (.iaload, 1) := by decide +kernel
theorem d_L_law_737 : decode c_L_law 737 = .ok (.aload_n 0, 1) := by decide +kernel
theorem d_L_law_738 : decode c_L_law 738 = .ok (.iload 4, 2) := by decide +kernel
theorem d_L_law_740 : decode c_L_law 740 = .ok (.iconst 2, 1) := by decide +kernel
theorem d_L_law_741 : decode c_L_law 741 = .ok (.iadd, 1) := by decide +kernel
theorem d_L_law_742 : decode c_L_law 742 = .ok (.iaload, 1) := by decide +kernel
theorem d_L_law_743 : decode c_L_law 743 = .ok (.invokevirtual 102, 3) := by decide +kernel
theorem d_L_law_746 : decode c_L_law 746 = .ok (.if_icmp .eq 192, 3) := by decide +kernel
theorem d_L_law_749 : decode c_L_law 749 = .ok (.iconst 0, 1) := by decide +kernel
theorem d_L_law_750 : decode c_L_law 750 = .ok (.ireturn, 1) := by decide +kernel
theorem d_L_law_751 : decode c_L_law 751 = .ok (.aload_n 1, 1) := by decide +kernel
theorem d_L_law_752 : decode c_L_law 752 = .ok (.aload_n 0, 1) := by decide +kernel
theorem d_L_law_753 : decode c_L_law 753 = .ok (.iload 4, 2) := by decide +kernel
theorem d_L_law_755 : decode c_L_law 755 = .ok (.iconst 1, 1) := by decide +kernel
theorem d_L_law_756 : decode c_L_law 756 = .ok (.iadd, 1) := by decide +kernel
theorem d_L_law_757 : decode c_L_law 757 = .ok (.iaload, 1) := by decide +kernel
theorem d_L_law_758 : decode c_L_law 758 = .ok (.aload_n 0, 1) := by decide +kernel
theorem d_L_law_759 : decode c_L_law 759 = .ok (.iload 4, 2) := by decide +kernel
theorem d_L_law_761 : decode c_L_law 761 = .ok (.iconst 2, 1) := by decide +kernel
theorem d_L_law_762 : decode c_L_law 762 = .ok (.iadd, 1) := by decide +kernel
theorem d_L_law_763 : decode c_L_law 763 = .ok (.iaload, 1) := by decide +kernel
theorem d_L_law_764 : decode c_L_law 764 = .ok (.aload_n 3, 1) := by decide +kernel
theorem d_L_law_765 : decode c_L_law 765 = .ok (.invokestatic 103, 3) := by decide +kernel
theorem d_L_law_768 : decode c_L_law 768 = .ok (.istore 5, 2) := by decide +kernel
theorem d_L_law_770 : decode c_L_law 770 = .ok (.aload_n 2, 1) := by decide +kernel
theorem d_L_law_771 : decode c_L_law 771 = .ok (.aload_n 0, 1) := by decide +kernel
theorem d_L_law_772 : decode c_L_law 772 = .ok (.iload 4, 2) := by decide +kernel
theorem d_L_law_774 : decode c_L_law 774 = .ok (.iconst 1, 1) := by decide +kernel
theorem d_L_law_775 : decode c_L_law 775 = .ok (.iadd, 1) := by decide +kernel
theorem d_L_law_776 : decode c_L_law 776 = .ok (.iaload, 1) := by decide +kernel
theorem d_L_law_777 : decode c_L_law 777 = .ok (.aload_n 0, 1) := by decide +kernel
theorem d_L_law_778 : decode c_L_law 778 = .ok (.iload 4, 2) := by decide +kernel
theorem d_L_law_780 : decode c_L_law 780 = .ok (.iconst 2, 1) := by decide +kernel
theorem d_L_law_781 : decode c_L_law 781 = .ok (.iadd, 1) := by decide +kernel
theorem d_L_law_782 : decode c_L_law 782 = .ok (.iaload, 1) := by decide +kernel
theorem d_L_law_783 : decode c_L_law 783 = .ok (.invokevirtual 105, 3) := by decide +kernel
theorem d_L_law_786 : decode c_L_law 786 = .ok (.istore 6, 2) := by decide +kernel
theorem d_L_law_788 : decode c_L_law 788 = .ok (.aload_n 2, 1) := by decide +kernel
theorem d_L_law_789 : decode c_L_law 789 = .ok (.invokevirtual 59, 3) := by decide +kernel
theorem d_L_law_792 : decode c_L_law 792 = .ok (.iload 5, 2) := by decide +kernel
theorem d_L_law_794 : decode c_L_law 794 = .ok (.if_icmp .eq 5, 3) := by decide +kernel
theorem d_L_law_797 : decode c_L_law 797 = .ok (.iconst 0, 1) := by decide +kernel
theorem d_L_law_798 : decode c_L_law 798 = .ok (.ireturn, 1) := by decide +kernel
theorem d_L_law_799 : decode c_L_law 799 = .ok (.iload 5, 2) := by decide +kernel
theorem d_L_law_801 : decode c_L_law 801 = .ok (.ifCond .ne 15, 3) := by decide +kernel
theorem d_L_law_804 : decode c_L_law 804 = .ok (.aload_n 3, 1) := by decide +kernel
theorem d_L_law_805 : decode c_L_law 805 = .ok (.iconst 0, 1) := by decide +kernel
theorem d_L_law_806 : decode c_L_law 806 = .ok (.laload, 1) := by decide +kernel
theorem d_L_law_807 : decode c_L_law 807 = .ok (.iload 6, 2) := by decide +kernel
theorem d_L_law_809 : decode c_L_law 809 = .ok (.i2l, 1) := by decide +kernel
theorem d_L_law_810 : decode c_L_law 810 = .ok (.lcmp, 1) := by decide +kernel
theorem d_L_law_811 : decode c_L_law 811 = .ok (.ifCond .eq 5, 3) := by decide +kernel
theorem d_L_law_814 : decode c_L_law 814 = .ok (.iconst 0, 1) := by decide +kernel
theorem d_L_law_815 : decode c_L_law 815 = .ok (.ireturn, 1) := by decide +kernel
theorem d_L_law_816 : decode c_L_law 816 = .ok (.goto 122, 3) := by decide +kernel
theorem d_L_law_819 : decode c_L_law 819 = .ok (.aload_n 1, 1) := by decide +kernel
theorem d_L_law_820 : decode c_L_law 820 = .ok (.aload_n 0, 1) := by decide +kernel
theorem d_L_law_821 : decode c_L_law 821 = .ok (.iload 4, 2) := by decide +kernel
theorem d_L_law_823 : decode c_L_law 823 = .ok (.iconst 1, 1) := by decide +kernel
theorem d_L_law_824 : decode c_L_law 824 = .ok (.iadd, 1) := by decide +kernel
theorem d_L_law_825 : decode c_L_law 825 = .ok (.iaload, 1) := by decide +kernel
theorem d_L_law_826 : decode c_L_law 826 = .ok (.invokevirtual 106, 3) := by decide +kernel
theorem d_L_law_829 : decode c_L_law 829 = .ok (.aload_n 2, 1) := by decide +kernel
theorem d_L_law_830 : decode c_L_law 830 = .ok (.aload_n 0, 1) := by decide +kernel
theorem d_L_law_831 : decode c_L_law 831 = .ok (.iload 4, 2) := by decide +kernel
theorem d_L_law_833 : decode c_L_law 833 = .ok (.iconst 1, 1) := by decide +kernel
theorem d_L_law_834 : decode c_L_law 834 = .ok (.iadd, 1) := by decide +kernel
theorem d_L_law_835 : decode c_L_law 835 = .ok (.iaload, 1) := by decide +kernel
theorem d_L_law_836 : decode c_L_law 836 = .ok (.invokevirtual 109, 3) := by decide +kernel
theorem d_L_law_839 : decode c_L_law 839 = .ok (.if_icmp .eq 99, 3) := by decide +kernel
theorem d_L_law_842 : decode c_L_law 842 = .ok (.iconst 0, 1) := by decide +kernel
theorem d_L_law_843 : decode c_L_law 843 = .ok (.ireturn, 1) := by decide +kernel
theorem d_L_law_844 : decode c_L_law 844 = .ok (.aload_n 1, 1) := by decide +kernel
theorem d_L_law_845 : decode c_L_law 845 = .ok (.aload_n 0, 1) := by decide +kernel
theorem d_L_law_846 : decode c_L_law 846 = .ok (.iload 4, 2) := by decide +kernel
theorem d_L_law_848 : decode c_L_law 848 = .ok (.iconst 1, 1) := by decide +kernel
theorem d_L_law_849 : decode c_L_law 849 = .ok (.iadd, 1) := by decide +kernel
theorem d_L_law_850 : decode c_L_law 850 = .ok (.iaload, 1) := by decide +kernel
theorem d_L_law_851 : decode c_L_law 851 = .ok (.aload_n 0, 1) := by decide +kernel
theorem d_L_law_852 : decode c_L_law 852 = .ok (.iload 4, 2) := by decide +kernel
theorem d_L_law_854 : decode c_L_law 854 = .ok (.iconst 2, 1) := by decide +kernel
theorem d_L_law_855 : decode c_L_law 855 = .ok (.iadd, 1) := by decide +kernel
theorem d_L_law_856 : decode c_L_law 856 = .ok (.iaload, 1) := by decide +kernel
theorem d_L_law_857 : decode c_L_law 857 = .ok (.i2l, 1) := by decide +kernel
theorem d_L_law_858 : decode c_L_law 858 = .ok (.bipush 32, 2) := by decide +kernel
theorem d_L_law_860 : decode c_L_law 860 = .ok (.lshl, 1) := by decide +kernel
theorem d_L_law_861 : decode c_L_law 861 = .ok (.aload_n 0, 1) := by decide +kernel
theorem d_L_law_862 : decode c_L_law 862 = .ok (.iload 4, 2) := by decide +kernel
theorem d_L_law_864 : decode c_L_law 864 = .ok (.iconst 3, 1) := by decide +kernel
theorem d_L_law_865 : decode c_L_law 865 = .ok (.iadd, 1) := by decide +kernel
theorem d_L_law_866 : decode c_L_law 866 = .ok (.iaload, 1) := by decide +kernel
theorem d_L_law_867 : decode c_L_law 867 = .ok (.i2l, 1) := by decide +kernel
theorem d_L_law_868 : decode c_L_law 868 = .ok (.ldc2_w 62, 3) := by decide +kernel
theorem d_L_law_871 : decode c_L_law 871 = .ok (.land, 1) := by decide +kernel
theorem d_L_law_872 : decode c_L_law 872 = .ok (.lor, 1) := by decide +kernel
theorem d_L_law_873 : decode c_L_law 873 = .ok (.invokevirtual 110, 3) := by decide +kernel
theorem d_L_law_876 : decode c_L_law 876 = .ok (.aload_n 2, 1) := by decide +kernel
theorem d_L_law_877 : decode c_L_law 877 = .ok (.aload_n 0, 1) := by decide +kernel
theorem d_L_law_878 : decode c_L_law 878 = .ok (.iload 4, 2) := by decide +kernel
theorem d_L_law_880 : decode c_L_law 880 = .ok (.iconst 1, 1) := by decide +kernel
theorem d_L_law_881 : decode c_L_law 881 = .ok (.iadd, 1) := by decide +kernel
theorem d_L_law_882 : decode c_L_law 882 = .ok (.iaload, 1) := by decide +kernel
theorem d_L_law_883 : decode c_L_law 883 = .ok (.aload_n 0, 1) := by decide +kernel
theorem d_L_law_884 : decode c_L_law 884 = .ok (.iload 4, 2) := by decide +kernel
theorem d_L_law_886 : decode c_L_law 886 = .ok (.iconst 2, 1) := by decide +kernel
theorem d_L_law_887 : decode c_L_law 887 = .ok (.iadd, 1) := by decide +kernel
theorem d_L_law_888 : decode c_L_law 888 = .ok (.iaload, 1) := by decide +kernel
theorem d_L_law_889 : decode c_L_law 889 = .ok (.i2l, 1) := by decide +kernel
theorem d_L_law_890 : decode c_L_law 890 = .ok (.bipush 32, 2) := by decide +kernel
theorem d_L_law_892 : decode c_L_law 892 = .ok (.lshl, 1) := by decide +kernel
theorem d_L_law_893 : decode c_L_law 893 = .ok (.aload_n 0, 1) := by decide +kernel
theorem d_L_law_894 : decode c_L_law 894 = .ok (.iload 4, 2) := by decide +kernel
theorem d_L_law_896 : decode c_L_law 896 = .ok (.iconst 3, 1) := by decide +kernel
theorem d_L_law_897 : decode c_L_law 897 = .ok (.iadd, 1) := by decide +kernel
theorem d_L_law_898 : decode c_L_law 898 = .ok (.iaload, 1) := by decide +kernel
theorem d_L_law_899 : decode c_L_law 899 = .ok (.i2l, 1) := by decide +kernel
theorem d_L_law_900 : decode c_L_law 900 = .ok (.ldc2_w 62, 3) := by decide +kernel
theorem d_L_law_903 : decode c_L_law 903 = .ok (.land, 1) := by decide +kernel
theorem d_L_law_904 : decode c_L_law 904 = .ok (.lor, 1) := by decide +kernel
theorem d_L_law_905 : decode c_L_law 905 = .ok (.invokevirtual 114, 3) := by decide +kernel
theorem d_L_law_908 : decode c_L_law 908 = .ok (.if_icmp .eq 30, 3) := by decide +kernel
theorem d_L_law_911 : decode c_L_law 911 = .ok (.iconst 0, 1) := by decide +kernel
theorem d_L_law_912 : decode c_L_law 912 = .ok (.ireturn, 1) := by decide +kernel
theorem d_L_law_913 : decode c_L_law 913 = .ok (.aload_n 1, 1) := by decide +kernel
theorem d_L_law_914 : decode c_L_law 914 = .ok (.aload_n 0, 1) := by decide +kernel
theorem d_L_law_915 : decode c_L_law 915 = .ok (.iload 4, 2) := by decide +kernel
theorem d_L_law_917 : decode c_L_law 917 = .ok (.iconst 1, 1) := by decide +kernel
theorem d_L_law_918 : decode c_L_law 918 = .ok (.iadd, 1) := by decide +kernel
theorem d_L_law_919 : decode c_L_law 919 = .ok (.iaload, 1) := by decide +kernel
theorem d_L_law_920 : decode c_L_law 920 = .ok (.invokevirtual 115, 3) := by decide +kernel
theorem d_L_law_923 : decode c_L_law 923 = .ok (.aload_n 2, 1) := by decide +kernel
theorem d_L_law_924 : decode c_L_law 924 = .ok (.aload_n 0, 1) := by decide +kernel
theorem d_L_law_925 : decode c_L_law 925 = .ok (.iload 4, 2) := by decide +kernel
theorem d_L_law_927 : decode c_L_law 927 = .ok (.iconst 1, 1) := by decide +kernel
theorem d_L_law_928 : decode c_L_law 928 = .ok (.iadd, 1) := by decide +kernel
theorem d_L_law_929 : decode c_L_law 929 = .ok (.iaload, 1) := by decide +kernel
theorem d_L_law_930 : decode c_L_law 930 = .ok (.invokevirtual 118, 3) := by decide +kernel
theorem d_L_law_933 : decode c_L_law 933 = .ok (.if_icmp .eq 5, 3) := by decide +kernel
theorem d_L_law_936 : decode c_L_law 936 = .ok (.iconst 0, 1) := by decide +kernel
theorem d_L_law_937 : decode c_L_law 937 = .ok (.ireturn, 1) := by decide +kernel
theorem d_L_law_938 : decode c_L_law 938 = .ok (.iinc 4 10, 3) := by decide +kernel
theorem d_L_law_941 : decode c_L_law 941 = .ok (.goto (-918), 3) := by decide +kernel
theorem d_L_law_944 : decode c_L_law 944 = .ok (.iconst 1, 1) := by decide +kernel
theorem d_L_law_945 : decode c_L_law 945 = .ok (.ireturn, 1) := by decide +kernel
