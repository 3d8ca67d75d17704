section
-- ===== PART A: goes FIRST, ahead of the names: the tables' words, and 'selects' of the private methods out of them =====
/-- a private method of a class that the tables say can be made, by its rows of tables_1 -/
def lw_okq (q : MethodName × Nat) : Prop := (q.1.cls ≠ "java/lang/invoke/MethodHandle" ∧ q.1.cls ≠ "java/lang/invoke/VarHandle") ∧ Cond.instantiable q.1.cls q.2 ∈ tables_1 ∧ Cond.privateMethod q.1 ∈ tables_1 ∧ Cond.instanceMethod q.1 ∈ tables_1
theorem lw_p0 : lw_okq (⟨"BlobStore$Power", "turnOn", "()Z"⟩, 3) := ⟨⟨by decide +kernel, by decide +kernel⟩, List.mem_of_getElem? (i := 29) (by decide +kernel), List.mem_of_getElem? (i := 182) (by decide +kernel), List.mem_of_getElem? (i := 183) (by decide +kernel)⟩
theorem lw_p1 : lw_okq (⟨"BlobStore", "livingVersion", "(I)LBlobStore$Version;"⟩, 10) := ⟨⟨by decide +kernel, by decide +kernel⟩, List.mem_of_getElem? (i := 21) (by decide +kernel), List.mem_of_getElem? (i := 194) (by decide +kernel), List.mem_of_getElem? (i := 195) (by decide +kernel)⟩
theorem lw_p2 : lw_okq (⟨"BlobStore$Chunk", "byteOf", "(I)I"⟩, 3) := ⟨⟨by decide +kernel, by decide +kernel⟩, List.mem_of_getElem? (i := 79) (by decide +kernel), List.mem_of_getElem? (i := 202) (by decide +kernel), List.mem_of_getElem? (i := 203) (by decide +kernel)⟩
theorem lw_p3 : lw_okq (⟨"BlobStore", "hasChunk", "(I)Z"⟩, 10) := ⟨⟨by decide +kernel, by decide +kernel⟩, List.mem_of_getElem? (i := 21) (by decide +kernel), List.mem_of_getElem? (i := 210) (by decide +kernel), List.mem_of_getElem? (i := 211) (by decide +kernel)⟩
theorem lw_p4 : lw_okq (⟨"BlobStore$Chunk", "isFree", "()Z"⟩, 3) := ⟨⟨by decide +kernel, by decide +kernel⟩, List.mem_of_getElem? (i := 79) (by decide +kernel), List.mem_of_getElem? (i := 214) (by decide +kernel), List.mem_of_getElem? (i := 215) (by decide +kernel)⟩
theorem lw_p5 : lw_okq (⟨"BlobStore", "countNeeds", "()V"⟩, 10) := ⟨⟨by decide +kernel, by decide +kernel⟩, List.mem_of_getElem? (i := 21) (by decide +kernel), List.mem_of_getElem? (i := 218) (by decide +kernel), List.mem_of_getElem? (i := 219) (by decide +kernel)⟩
theorem lw_p6 : lw_okq (⟨"BlobStore$Session", "countInto", "([I)V"⟩, 4) := ⟨⟨by decide +kernel, by decide +kernel⟩, List.mem_of_getElem? (i := 96) (by decide +kernel), List.mem_of_getElem? (i := 225) (by decide +kernel), List.mem_of_getElem? (i := 226) (by decide +kernel)⟩
theorem lw_p7 : lw_okq (⟨"BlobStore$Row", "countInto", "([I)V"⟩, 2) := ⟨⟨by decide +kernel, by decide +kernel⟩, List.mem_of_getElem? (i := 64) (by decide +kernel), List.mem_of_getElem? (i := 229) (by decide +kernel), List.mem_of_getElem? (i := 230) (by decide +kernel)⟩
theorem lw_p8 : lw_okq (⟨"BlobStore$Chunk", "fill", "(IJLBlobStore$Sha256;)V"⟩, 3) := ⟨⟨by decide +kernel, by decide +kernel⟩, List.mem_of_getElem? (i := 79) (by decide +kernel), List.mem_of_getElem? (i := 238) (by decide +kernel), List.mem_of_getElem? (i := 239) (by decide +kernel)⟩
theorem lw_p9 : lw_okq (⟨"BlobStore$Sha256", "digest", "(IJ[I)V"⟩, 1) := ⟨⟨by decide +kernel, by decide +kernel⟩, List.mem_of_getElem? (i := 47) (by decide +kernel), List.mem_of_getElem? (i := 243) (by decide +kernel), List.mem_of_getElem? (i := 244) (by decide +kernel)⟩
theorem lw_p10 : lw_okq (⟨"BlobStore$Sha256", "padBlock", "(IJ)V"⟩, 1) := ⟨⟨by decide +kernel, by decide +kernel⟩, List.mem_of_getElem? (i := 47) (by decide +kernel), List.mem_of_getElem? (i := 247) (by decide +kernel), List.mem_of_getElem? (i := 248) (by decide +kernel)⟩
theorem lw_p11 : lw_okq (⟨"BlobStore$Sha256", "expandBlock", "()V"⟩, 1) := ⟨⟨by decide +kernel, by decide +kernel⟩, List.mem_of_getElem? (i := 47) (by decide +kernel), List.mem_of_getElem? (i := 253) (by decide +kernel), List.mem_of_getElem? (i := 254) (by decide +kernel)⟩
theorem lw_p12 : lw_okq (⟨"BlobStore$Sha256", "mixBlock", "([I)V"⟩, 1) := ⟨⟨by decide +kernel, by decide +kernel⟩, List.mem_of_getElem? (i := 47) (by decide +kernel), List.mem_of_getElem? (i := 260) (by decide +kernel), List.mem_of_getElem? (i := 261) (by decide +kernel)⟩
theorem lw_p13 : lw_okq (⟨"BlobStore", "slotWith", "(LBlobStore$Chunk;)I"⟩, 10) := ⟨⟨by decide +kernel, by decide +kernel⟩, List.mem_of_getElem? (i := 21) (by decide +kernel), List.mem_of_getElem? (i := 268) (by decide +kernel), List.mem_of_getElem? (i := 269) (by decide +kernel)⟩
theorem lw_p14 : lw_okq (⟨"BlobStore$Chunk", "isLike", "(LBlobStore$Chunk;)Z"⟩, 3) := ⟨⟨by decide +kernel, by decide +kernel⟩, List.mem_of_getElem? (i := 79) (by decide +kernel), List.mem_of_getElem? (i := 272) (by decide +kernel), List.mem_of_getElem? (i := 273) (by decide +kernel)⟩
theorem lw_p15 : lw_okq (⟨"BlobStore", "countChunks", "()I"⟩, 10) := ⟨⟨by decide +kernel, by decide +kernel⟩, List.mem_of_getElem? (i := 21) (by decide +kernel), List.mem_of_getElem? (i := 280) (by decide +kernel), List.mem_of_getElem? (i := 281) (by decide +kernel)⟩
def lw_privs_1 : List (MethodName × Nat) := [(⟨"BlobStore$Power", "turnOn", "()Z"⟩, 3), (⟨"BlobStore", "livingVersion", "(I)LBlobStore$Version;"⟩, 10), (⟨"BlobStore$Chunk", "byteOf", "(I)I"⟩, 3), (⟨"BlobStore", "hasChunk", "(I)Z"⟩, 10), (⟨"BlobStore$Chunk", "isFree", "()Z"⟩, 3), (⟨"BlobStore", "countNeeds", "()V"⟩, 10), (⟨"BlobStore$Session", "countInto", "([I)V"⟩, 4), (⟨"BlobStore$Row", "countInto", "([I)V"⟩, 2), (⟨"BlobStore$Chunk", "fill", "(IJLBlobStore$Sha256;)V"⟩, 3), (⟨"BlobStore$Sha256", "digest", "(IJ[I)V"⟩, 1), (⟨"BlobStore$Sha256", "padBlock", "(IJ)V"⟩, 1), (⟨"BlobStore$Sha256", "expandBlock", "()V"⟩, 1), (⟨"BlobStore$Sha256", "mixBlock", "([I)V"⟩, 1), (⟨"BlobStore", "slotWith", "(LBlobStore$Chunk;)I"⟩, 10), (⟨"BlobStore$Chunk", "isLike", "(LBlobStore$Chunk;)Z"⟩, 3), (⟨"BlobStore", "countChunks", "()I"⟩, 10)]
theorem lw_r1 : ∀ q ∈ lw_privs_1, lw_okq q := List.forall_mem_cons.mpr ⟨lw_p0, List.forall_mem_cons.mpr ⟨lw_p1, List.forall_mem_cons.mpr ⟨lw_p2, List.forall_mem_cons.mpr ⟨lw_p3, List.forall_mem_cons.mpr ⟨lw_p4, List.forall_mem_cons.mpr ⟨lw_p5, List.forall_mem_cons.mpr ⟨lw_p6, List.forall_mem_cons.mpr ⟨lw_p7, List.forall_mem_cons.mpr ⟨lw_p8, List.forall_mem_cons.mpr ⟨lw_p9, List.forall_mem_cons.mpr ⟨lw_p10, List.forall_mem_cons.mpr ⟨lw_p11, List.forall_mem_cons.mpr ⟨lw_p12, List.forall_mem_cons.mpr ⟨lw_p13, List.forall_mem_cons.mpr ⟨lw_p14, List.forall_mem_cons.mpr ⟨lw_p15, fun _ h => absurd h List.not_mem_nil⟩⟩⟩⟩⟩⟩⟩⟩⟩⟩⟩⟩⟩⟩⟩⟩
theorem lw_p16 : lw_okq (⟨"BlobStore", "countOpenSessions", "()I"⟩, 10) := ⟨⟨by decide +kernel, by decide +kernel⟩, List.mem_of_getElem? (i := 21) (by decide +kernel), List.mem_of_getElem? (i := 284) (by decide +kernel), List.mem_of_getElem? (i := 285) (by decide +kernel)⟩
theorem lw_p17 : lw_okq (⟨"BlobStore", "countLivingVersions", "()I"⟩, 10) := ⟨⟨by decide +kernel, by decide +kernel⟩, List.mem_of_getElem? (i := 21) (by decide +kernel), List.mem_of_getElem? (i := 288) (by decide +kernel), List.mem_of_getElem? (i := 289) (by decide +kernel)⟩
theorem lw_p18 : lw_okq (⟨"BlobStore$Power", "requireOn", "()V"⟩, 3) := ⟨⟨by decide +kernel, by decide +kernel⟩, List.mem_of_getElem? (i := 29) (by decide +kernel), List.mem_of_getElem? (i := 302) (by decide +kernel), List.mem_of_getElem? (i := 303) (by decide +kernel)⟩
theorem lw_p19 : lw_okq (⟨"java/lang/Throwable", "fillInStackTrace", "(I)Ljava/lang/Throwable;"⟩, 6) := ⟨⟨by decide +kernel, by decide +kernel⟩, List.mem_of_getElem? (i := 346) (by decide +kernel), List.mem_of_getElem? (i := 344) (by decide +kernel), List.mem_of_getElem? (i := 345) (by decide +kernel)⟩
theorem lw_p20 : lw_okq (⟨"BlobStore", "leastClosedSession", "()I"⟩, 10) := ⟨⟨by decide +kernel, by decide +kernel⟩, List.mem_of_getElem? (i := 21) (by decide +kernel), List.mem_of_getElem? (i := 376) (by decide +kernel), List.mem_of_getElem? (i := 377) (by decide +kernel)⟩
theorem lw_p21 : lw_okq (⟨"BlobStore$Power", "spendWrite", "()V"⟩, 3) := ⟨⟨by decide +kernel, by decide +kernel⟩, List.mem_of_getElem? (i := 29) (by decide +kernel), List.mem_of_getElem? (i := 399) (by decide +kernel), List.mem_of_getElem? (i := 400) (by decide +kernel)⟩
theorem lw_p22 : lw_okq (⟨"BlobStore$Session", "start", "(II)V"⟩, 4) := ⟨⟨by decide +kernel, by decide +kernel⟩, List.mem_of_getElem? (i := 96) (by decide +kernel), List.mem_of_getElem? (i := 419) (by decide +kernel), List.mem_of_getElem? (i := 420) (by decide +kernel)⟩
theorem lw_p23 : lw_okq (⟨"BlobStore", "openSession", "(I)LBlobStore$Session;"⟩, 10) := ⟨⟨by decide +kernel, by decide +kernel⟩, List.mem_of_getElem? (i := 21) (by decide +kernel), List.mem_of_getElem? (i := 431) (by decide +kernel), List.mem_of_getElem? (i := 432) (by decide +kernel)⟩
theorem lw_p24 : lw_okq (⟨"BlobStore", "cutIntoChunks", "(IJJJ)I"⟩, 10) := ⟨⟨by decide +kernel, by decide +kernel⟩, List.mem_of_getElem? (i := 21) (by decide +kernel), List.mem_of_getElem? (i := 437) (by decide +kernel), List.mem_of_getElem? (i := 438) (by decide +kernel)⟩
theorem lw_p25 : lw_okq (⟨"BlobStore", "planSlots", "(I)V"⟩, 10) := ⟨⟨by decide +kernel, by decide +kernel⟩, List.mem_of_getElem? (i := 21) (by decide +kernel), List.mem_of_getElem? (i := 444) (by decide +kernel), List.mem_of_getElem? (i := 445) (by decide +kernel)⟩
theorem lw_p26 : lw_okq (⟨"BlobStore", "plannedSlot", "(I)I"⟩, 10) := ⟨⟨by decide +kernel, by decide +kernel⟩, List.mem_of_getElem? (i := 21) (by decide +kernel), List.mem_of_getElem? (i := 448) (by decide +kernel), List.mem_of_getElem? (i := 449) (by decide +kernel)⟩
theorem lw_p27 : lw_okq (⟨"BlobStore", "leastFreeSlot", "(I)I"⟩, 10) := ⟨⟨by decide +kernel, by decide +kernel⟩, List.mem_of_getElem? (i := 21) (by decide +kernel), List.mem_of_getElem? (i := 452) (by decide +kernel), List.mem_of_getElem? (i := 453) (by decide +kernel)⟩
theorem lw_p28 : lw_okq (⟨"BlobStore$Row", "add", "(I)V"⟩, 2) := ⟨⟨by decide +kernel, by decide +kernel⟩, List.mem_of_getElem? (i := 64) (by decide +kernel), List.mem_of_getElem? (i := 472) (by decide +kernel), List.mem_of_getElem? (i := 473) (by decide +kernel)⟩
theorem lw_p29 : lw_okq (⟨"BlobStore", "writeChunks", "(I)I"⟩, 10) := ⟨⟨by decide +kernel, by decide +kernel⟩, List.mem_of_getElem? (i := 21) (by decide +kernel), List.mem_of_getElem? (i := 476) (by decide +kernel), List.mem_of_getElem? (i := 477) (by decide +kernel)⟩
theorem lw_p30 : lw_okq (⟨"BlobStore$Chunk", "copyFrom", "(LBlobStore$Chunk;)V"⟩, 3) := ⟨⟨by decide +kernel, by decide +kernel⟩, List.mem_of_getElem? (i := 79) (by decide +kernel), List.mem_of_getElem? (i := 480) (by decide +kernel), List.mem_of_getElem? (i := 481) (by decide +kernel)⟩
theorem lw_p31 : lw_okq (⟨"BlobStore$Row", "copyFrom", "(LBlobStore$Row;)V"⟩, 2) := ⟨⟨by decide +kernel, by decide +kernel⟩, List.mem_of_getElem? (i := 64) (by decide +kernel), List.mem_of_getElem? (i := 487) (by decide +kernel), List.mem_of_getElem? (i := 488) (by decide +kernel)⟩
def lw_privs_2 : List (MethodName × Nat) := [(⟨"BlobStore", "countOpenSessions", "()I"⟩, 10), (⟨"BlobStore", "countLivingVersions", "()I"⟩, 10), (⟨"BlobStore$Power", "requireOn", "()V"⟩, 3), (⟨"java/lang/Throwable", "fillInStackTrace", "(I)Ljava/lang/Throwable;"⟩, 6), (⟨"BlobStore", "leastClosedSession", "()I"⟩, 10), (⟨"BlobStore$Power", "spendWrite", "()V"⟩, 3), (⟨"BlobStore$Session", "start", "(II)V"⟩, 4), (⟨"BlobStore", "openSession", "(I)LBlobStore$Session;"⟩, 10), (⟨"BlobStore", "cutIntoChunks", "(IJJJ)I"⟩, 10), (⟨"BlobStore", "planSlots", "(I)V"⟩, 10), (⟨"BlobStore", "plannedSlot", "(I)I"⟩, 10), (⟨"BlobStore", "leastFreeSlot", "(I)I"⟩, 10), (⟨"BlobStore$Row", "add", "(I)V"⟩, 2), (⟨"BlobStore", "writeChunks", "(I)I"⟩, 10), (⟨"BlobStore$Chunk", "copyFrom", "(LBlobStore$Chunk;)V"⟩, 3), (⟨"BlobStore$Row", "copyFrom", "(LBlobStore$Row;)V"⟩, 2)]
theorem lw_r2 : ∀ q ∈ lw_privs_2, lw_okq q := List.forall_mem_cons.mpr ⟨lw_p16, List.forall_mem_cons.mpr ⟨lw_p17, List.forall_mem_cons.mpr ⟨lw_p18, List.forall_mem_cons.mpr ⟨lw_p19, List.forall_mem_cons.mpr ⟨lw_p20, List.forall_mem_cons.mpr ⟨lw_p21, List.forall_mem_cons.mpr ⟨lw_p22, List.forall_mem_cons.mpr ⟨lw_p23, List.forall_mem_cons.mpr ⟨lw_p24, List.forall_mem_cons.mpr ⟨lw_p25, List.forall_mem_cons.mpr ⟨lw_p26, List.forall_mem_cons.mpr ⟨lw_p27, List.forall_mem_cons.mpr ⟨lw_p28, List.forall_mem_cons.mpr ⟨lw_p29, List.forall_mem_cons.mpr ⟨lw_p30, List.forall_mem_cons.mpr ⟨lw_p31, fun _ h => absurd h List.not_mem_nil⟩⟩⟩⟩⟩⟩⟩⟩⟩⟩⟩⟩⟩⟩⟩⟩
theorem lw_p32 : lw_okq (⟨"BlobStore$Row", "addAll", "(LBlobStore$Row;)V"⟩, 2) := ⟨⟨by decide +kernel, by decide +kernel⟩, List.mem_of_getElem? (i := 64) (by decide +kernel), List.mem_of_getElem? (i := 491) (by decide +kernel), List.mem_of_getElem? (i := 492) (by decide +kernel)⟩
theorem lw_p33 : lw_okq (⟨"BlobStore$Version", "comeFrom", "(LBlobStore$Session;)V"⟩, 4) := ⟨⟨by decide +kernel, by decide +kernel⟩, List.mem_of_getElem? (i := 122) (by decide +kernel), List.mem_of_getElem? (i := 504) (by decide +kernel), List.mem_of_getElem? (i := 505) (by decide +kernel)⟩
theorem lw_p34 : lw_okq (⟨"BlobStore$Chunk", "free", "()V"⟩, 3) := ⟨⟨by decide +kernel, by decide +kernel⟩, List.mem_of_getElem? (i := 79) (by decide +kernel), List.mem_of_getElem? (i := 530) (by decide +kernel), List.mem_of_getElem? (i := 531) (by decide +kernel)⟩
theorem lw_p35 : lw_okq (⟨"BlobStore$Power", "tellCut", "(I)V"⟩, 3) := ⟨⟨by decide +kernel, by decide +kernel⟩, List.mem_of_getElem? (i := 29) (by decide +kernel), List.mem_of_getElem? (i := 542) (by decide +kernel), List.mem_of_getElem? (i := 543) (by decide +kernel)⟩
theorem lw_p36 : lw_okq (⟨"BlobStoreModel", "root", "(II)I"⟩, 22) := ⟨⟨by decide +kernel, by decide +kernel⟩, List.mem_of_getElem? (i := 570) (by decide +kernel), List.mem_of_getElem? (i := 579) (by decide +kernel), List.mem_of_getElem? (i := 580) (by decide +kernel)⟩
theorem lw_p37 : lw_okq (⟨"BlobStoreModel", "isAbove", "(JII)Z"⟩, 22) := ⟨⟨by decide +kernel, by decide +kernel⟩, List.mem_of_getElem? (i := 570) (by decide +kernel), List.mem_of_getElem? (i := 583) (by decide +kernel), List.mem_of_getElem? (i := 584) (by decide +kernel)⟩
theorem lw_p38 : lw_okq (⟨"BlobStoreModel", "says", "(I)Z"⟩, 22) := ⟨⟨by decide +kernel, by decide +kernel⟩, List.mem_of_getElem? (i := 570) (by decide +kernel), List.mem_of_getElem? (i := 668) (by decide +kernel), List.mem_of_getElem? (i := 669) (by decide +kernel)⟩
theorem lw_p39 : lw_okq (⟨"BlobStoreModel", "writes", "(I)Z"⟩, 22) := ⟨⟨by decide +kernel, by decide +kernel⟩, List.mem_of_getElem? (i := 570) (by decide +kernel), List.mem_of_getElem? (i := 672) (by decide +kernel), List.mem_of_getElem? (i := 673) (by decide +kernel)⟩
theorem lw_p40 : lw_okq (⟨"BlobStoreModel", "isOpen", "(I)Z"⟩, 22) := ⟨⟨by decide +kernel, by decide +kernel⟩, List.mem_of_getElem? (i := 570) (by decide +kernel), List.mem_of_getElem? (i := 680) (by decide +kernel), List.mem_of_getElem? (i := 681) (by decide +kernel)⟩
theorem lw_p41 : lw_okq (⟨"BlobStoreModel", "lay", "(JJJ)V"⟩, 22) := ⟨⟨by decide +kernel, by decide +kernel⟩, List.mem_of_getElem? (i := 570) (by decide +kernel), List.mem_of_getElem? (i := 684) (by decide +kernel), List.mem_of_getElem? (i := 685) (by decide +kernel)⟩
theorem lw_p42 : lw_okq (⟨"BlobStoreModel", "missing", "(I)I"⟩, 22) := ⟨⟨by decide +kernel, by decide +kernel⟩, List.mem_of_getElem? (i := 570) (by decide +kernel), List.mem_of_getElem? (i := 689) (by decide +kernel), List.mem_of_getElem? (i := 690) (by decide +kernel)⟩
theorem lw_p43 : lw_okq (⟨"BlobStoreModel", "find", "(II)I"⟩, 22) := ⟨⟨by decide +kernel, by decide +kernel⟩, List.mem_of_getElem? (i := 570) (by decide +kernel), List.mem_of_getElem? (i := 696) (by decide +kernel), List.mem_of_getElem? (i := 697) (by decide +kernel)⟩
theorem lw_p44 : lw_okq (⟨"BlobStoreModel", "isThere", "(III)Z"⟩, 22) := ⟨⟨by decide +kernel, by decide +kernel⟩, List.mem_of_getElem? (i := 570) (by decide +kernel), List.mem_of_getElem? (i := 700) (by decide +kernel), List.mem_of_getElem? (i := 701) (by decide +kernel)⟩
theorem lw_p45 : lw_okq (⟨"BlobStoreModel", "isAlike", "(III)Z"⟩, 22) := ⟨⟨by decide +kernel, by decide +kernel⟩, List.mem_of_getElem? (i := 570) (by decide +kernel), List.mem_of_getElem? (i := 704) (by decide +kernel), List.mem_of_getElem? (i := 705) (by decide +kernel)⟩
theorem lw_p46 : lw_okq (⟨"BlobStoreModel", "freeSlots", "()I"⟩, 22) := ⟨⟨by decide +kernel, by decide +kernel⟩, List.mem_of_getElem? (i := 570) (by decide +kernel), List.mem_of_getElem? (i := 708) (by decide +kernel), List.mem_of_getElem? (i := 709) (by decide +kernel)⟩
theorem lw_p47 : lw_okq (⟨"BlobStoreModel", "firstFree", "()I"⟩, 22) := ⟨⟨by decide +kernel, by decide +kernel⟩, List.mem_of_getElem? (i := 570) (by decide +kernel), List.mem_of_getElem? (i := 712) (by decide +kernel), List.mem_of_getElem? (i := 713) (by decide +kernel)⟩
def lw_privs_3 : List (MethodName × Nat) := [(⟨"BlobStore$Row", "addAll", "(LBlobStore$Row;)V"⟩, 2), (⟨"BlobStore$Version", "comeFrom", "(LBlobStore$Session;)V"⟩, 4), (⟨"BlobStore$Chunk", "free", "()V"⟩, 3), (⟨"BlobStore$Power", "tellCut", "(I)V"⟩, 3), (⟨"BlobStoreModel", "root", "(II)I"⟩, 22), (⟨"BlobStoreModel", "isAbove", "(JII)Z"⟩, 22), (⟨"BlobStoreModel", "says", "(I)Z"⟩, 22), (⟨"BlobStoreModel", "writes", "(I)Z"⟩, 22), (⟨"BlobStoreModel", "isOpen", "(I)Z"⟩, 22), (⟨"BlobStoreModel", "lay", "(JJJ)V"⟩, 22), (⟨"BlobStoreModel", "missing", "(I)I"⟩, 22), (⟨"BlobStoreModel", "find", "(II)I"⟩, 22), (⟨"BlobStoreModel", "isThere", "(III)Z"⟩, 22), (⟨"BlobStoreModel", "isAlike", "(III)Z"⟩, 22), (⟨"BlobStoreModel", "freeSlots", "()I"⟩, 22), (⟨"BlobStoreModel", "firstFree", "()I"⟩, 22)]
theorem lw_r3 : ∀ q ∈ lw_privs_3, lw_okq q := List.forall_mem_cons.mpr ⟨lw_p32, List.forall_mem_cons.mpr ⟨lw_p33, List.forall_mem_cons.mpr ⟨lw_p34, List.forall_mem_cons.mpr ⟨lw_p35, List.forall_mem_cons.mpr ⟨lw_p36, List.forall_mem_cons.mpr ⟨lw_p37, List.forall_mem_cons.mpr ⟨lw_p38, List.forall_mem_cons.mpr ⟨lw_p39, List.forall_mem_cons.mpr ⟨lw_p40, List.forall_mem_cons.mpr ⟨lw_p41, List.forall_mem_cons.mpr ⟨lw_p42, List.forall_mem_cons.mpr ⟨lw_p43, List.forall_mem_cons.mpr ⟨lw_p44, List.forall_mem_cons.mpr ⟨lw_p45, List.forall_mem_cons.mpr ⟨lw_p46, List.forall_mem_cons.mpr ⟨lw_p47, fun _ h => absurd h List.not_mem_nil⟩⟩⟩⟩⟩⟩⟩⟩⟩⟩⟩⟩⟩⟩⟩⟩
theorem lw_p48 : lw_okq (⟨"BlobStoreModel", "isLiving", "(I)Z"⟩, 22) := ⟨⟨by decide +kernel, by decide +kernel⟩, List.mem_of_getElem? (i := 570) (by decide +kernel), List.mem_of_getElem? (i := 728) (by decide +kernel), List.mem_of_getElem? (i := 729) (by decide +kernel)⟩
theorem lw_p49 : lw_okq (⟨"BlobStoreModel", "need", "(I)I"⟩, 22) := ⟨⟨by decide +kernel, by decide +kernel⟩, List.mem_of_getElem? (i := 570) (by decide +kernel), List.mem_of_getElem? (i := 736) (by decide +kernel), List.mem_of_getElem? (i := 737) (by decide +kernel)⟩
theorem lw_p50 : lw_okq (⟨"BlobStoreModel", "slotAt", "(II)I"⟩, 22) := ⟨⟨by decide +kernel, by decide +kernel⟩, List.mem_of_getElem? (i := 570) (by decide +kernel), List.mem_of_getElem? (i := 740) (by decide +kernel), List.mem_of_getElem? (i := 741) (by decide +kernel)⟩
theorem lw_p51 : lw_okq (⟨"BlobStoreModel", "hasChunk", "(I)Z"⟩, 22) := ⟨⟨by decide +kernel, by decide +kernel⟩, List.mem_of_getElem? (i := 570) (by decide +kernel), List.mem_of_getElem? (i := 768) (by decide +kernel), List.mem_of_getElem? (i := 769) (by decide +kernel)⟩
theorem lw_p52 : lw_okq (⟨"BlobStoreModel", "addressOf", "(I)V"⟩, 22) := ⟨⟨by decide +kernel, by decide +kernel⟩, List.mem_of_getElem? (i := 570) (by decide +kernel), List.mem_of_getElem? (i := 772) (by decide +kernel), List.mem_of_getElem? (i := 773) (by decide +kernel)⟩
def lw_privs_4 : List (MethodName × Nat) := [(⟨"BlobStoreModel", "isLiving", "(I)Z"⟩, 22), (⟨"BlobStoreModel", "need", "(I)I"⟩, 22), (⟨"BlobStoreModel", "slotAt", "(II)I"⟩, 22), (⟨"BlobStoreModel", "hasChunk", "(I)Z"⟩, 22), (⟨"BlobStoreModel", "addressOf", "(I)V"⟩, 22)]
theorem lw_r4 : ∀ q ∈ lw_privs_4, lw_okq q := List.forall_mem_cons.mpr ⟨lw_p48, List.forall_mem_cons.mpr ⟨lw_p49, List.forall_mem_cons.mpr ⟨lw_p50, List.forall_mem_cons.mpr ⟨lw_p51, List.forall_mem_cons.mpr ⟨lw_p52, fun _ h => absurd h List.not_mem_nil⟩⟩⟩⟩⟩
def lw_privs : List (MethodName × Nat) := lw_privs_1 ++ (lw_privs_2 ++ (lw_privs_3 ++ (lw_privs_4)))
def lw_tbl : List Cond := k2_sels lw_privs ++ tables_1
theorem lw_privs_ok : ∀ q ∈ lw_privs, lw_okq q := by
  show ∀ q ∈ lw_privs_1 ++ (lw_privs_2 ++ (lw_privs_3 ++ (lw_privs_4))), lw_okq q
  exact List.forall_mem_append.mpr ⟨lw_r1, List.forall_mem_append.mpr ⟨lw_r2, List.forall_mem_append.mpr ⟨lw_r3, lw_r4⟩⟩⟩
end
section
/-! the words, a name each -/
def bGood (w : Cond) : Bool := (w.onTables && w.keeps) || (match w with
  | .arrayClass _ => true
  | _ => false)
def bNestOnly : Cond → Bool
  | .fieldLinkNest .. => true
  | .methodLinkNest .. => true
  | .declares _ => true
  | .castable .. => true
  | _ => false
def Tb : List Cond := lw_tbl.filter bGood
def bNst : List Cond := tables_1.filter bNestOnly
theorem tb_t {w : Cond} (h : w ∈ tables_1) (hg : bGood w = true) : w ∈ Tb := List.mem_filter.mpr ⟨List.mem_append_right _ h, hg⟩
theorem tb_s {q : MethodName × Nat} (h : q ∈ lw_privs) (hg : bGood (Cond.selects q.1.cls q.1 q.1) = true) : Cond.selects q.1.cls q.1 q.1 ∈ Tb := List.mem_filter.mpr ⟨List.mem_append_left _ (List.mem_map.mpr ⟨q, h, rfl⟩), hg⟩
theorem tn_t {w : Cond} (h : w ∈ tables_1) (hg : bNestOnly w = true) : w ∈ bNst := List.mem_filter.mpr ⟨h, hg⟩
theorem tt_1 (i : Nat) {w : Cond} (h : tables_1_1[i]? = some w) : w ∈ tables_1 := List.mem_append_left _ (List.mem_of_getElem? h)
theorem tt_2 (i : Nat) {w : Cond} (h : tables_1_2[i]? = some w) : w ∈ tables_1 := List.mem_append_right _ (List.mem_append_left _ (List.mem_of_getElem? h))
theorem tt_3 (i : Nat) {w : Cond} (h : tables_1_3[i]? = some w) : w ∈ tables_1 := List.mem_append_right _ (List.mem_append_right _ (List.mem_append_left _ (List.mem_of_getElem? h)))
theorem tt_4 (i : Nat) {w : Cond} (h : tables_1_4[i]? = some w) : w ∈ tables_1 := List.mem_append_right _ (List.mem_append_right _ (List.mem_append_right _ (List.mem_of_getElem? h)))
theorem bTb_good : ∀ w ∈ Tb, bGood w = true := fun _ h => (List.mem_filter.mp h).2
theorem bNst_only : ∀ w ∈ bNst, bNestOnly w = true := fun _ h => (List.mem_filter.mp h).2
theorem t1_0 : (Jvm.Cond.initialized "BlobStoreLaw") ∈ Tb := tb_t (tt_1 0 rfl) rfl
theorem t1_1 : (Jvm.Cond.initialized "BlobStore") ∈ Tb := tb_t (tt_1 1 rfl) rfl
theorem t1_2 : (Jvm.Cond.initialized "BlobStore$Power") ∈ Tb := tb_t (tt_1 2 rfl) rfl
theorem t1_3 : (Jvm.Cond.initialized "BlobStore$Sha256") ∈ Tb := tb_t (tt_1 3 rfl) rfl
theorem t1_4 : (Jvm.Cond.initialized "BlobStore$Row") ∈ Tb := tb_t (tt_1 4 rfl) rfl
theorem t1_5 : (Jvm.Cond.initialized "BlobStore$Chunk") ∈ Tb := tb_t (tt_1 5 rfl) rfl
theorem t1_6 : (Jvm.Cond.initialized "BlobStore$Session") ∈ Tb := tb_t (tt_1 6 rfl) rfl
theorem t1_7 : (Jvm.Cond.initialized "BlobStore$Version") ∈ Tb := tb_t (tt_1 7 rfl) rfl
theorem t1_8 : (Jvm.Cond.initialized "BlobStoreModel") ∈ Tb := tb_t (tt_1 8 rfl) rfl
theorem t1_9 : (Jvm.Cond.initialized "java/lang/Throwable") ∈ Tb := tb_t (tt_1 9 rfl) rfl
theorem t1_10 : (Jvm.Cond.initialized "java/lang/Exception") ∈ Tb := tb_t (tt_1 10 rfl) rfl
theorem t1_11 : (Jvm.Cond.initialized "java/lang/RuntimeException") ∈ Tb := tb_t (tt_1 11 rfl) rfl
theorem t1_12 : (Jvm.Cond.initialized "java/lang/IllegalStateException") ∈ Tb := tb_t (tt_1 12 rfl) rfl
theorem t1_13 : (Jvm.Cond.initialized "java/lang/IllegalArgumentException") ∈ Tb := tb_t (tt_1 13 rfl) rfl
theorem t1_14 : (Jvm.Cond.initialized "java/lang/UnsupportedOperationException") ∈ Tb := tb_t (tt_1 14 rfl) rfl
theorem t1_15 : (Jvm.Cond.initialized "java/lang/Math") ∈ Tb := tb_t (tt_1 15 rfl) rfl
theorem t1_16 : (Jvm.Cond.initialized "java/lang/IndexOutOfBoundsException") ∈ Tb := tb_t (tt_1 16 rfl) rfl
theorem t1_17 : (Jvm.Cond.initialized "java/lang/System") ∈ Tb := tb_t (tt_1 17 rfl) rfl
theorem t1_18 : (Jvm.Cond.initialized "java/util/Arrays") ∈ Tb := tb_t (tt_1 18 rfl) rfl
theorem t1_19 : (Jvm.Cond.initialized "java/util/NoSuchElementException") ∈ Tb := tb_t (tt_1 19 rfl) rfl
theorem t1_20 : (Jvm.Cond.classLink "BlobStoreLaw" (8 : Nat) "BlobStore") ∈ Tb := tb_t (tt_1 20 rfl) rfl
theorem t1_21 : (Jvm.Cond.instantiable "BlobStore" (10 : Nat)) ∈ Tb := tb_t (tt_1 21 rfl) rfl
theorem t1_22 : (Jvm.Cond.methodLink "BlobStoreLaw" (49 : Nat) ({ cls := "BlobStore", name := "<init>", desc := "()V" } : Jvm.MethodName)) ∈ Tb := tb_t (tt_1 22 rfl) rfl
theorem t1_23 : (Jvm.Cond.instanceMethod ({ cls := "BlobStore", name := "<init>", desc := "()V" } : Jvm.MethodName)) ∈ Tb := tb_t (tt_1 23 rfl) rfl
theorem t1_24 : (Jvm.Cond.code ({ cls := "BlobStore", name := "<init>", desc := "()V" } : Jvm.MethodName) prog_1_method_1_code (2 : Nat) (Option.none : Option Jvm.ClassFile.FieldType)) ∈ Tb := tb_t (tt_1 24 rfl) rfl
theorem t1_25 : (Jvm.Cond.methodLink "BlobStore" (3 : Nat) ({ cls := "java/lang/Object", name := "<init>", desc := "()V" } : Jvm.MethodName)) ∈ Tb := tb_t (tt_1 25 rfl) rfl
theorem t1_26 : (Jvm.Cond.instanceMethod ({ cls := "java/lang/Object", name := "<init>", desc := "()V" } : Jvm.MethodName)) ∈ Tb := tb_t (tt_1 26 rfl) rfl
theorem t1_27 : (Jvm.Cond.code ({ cls := "java/lang/Object", name := "<init>", desc := "()V" } : Jvm.MethodName) object_method_1_code (1 : Nat) (Option.none : Option Jvm.ClassFile.FieldType)) ∈ Tb := tb_t (tt_1 27 rfl) rfl
theorem t1_28 : (Jvm.Cond.classLink "BlobStore" (9 : Nat) "BlobStore$Power") ∈ Tb := tb_t (tt_1 28 rfl) rfl
theorem t1_29 : (Jvm.Cond.instantiable "BlobStore$Power" (3 : Nat)) ∈ Tb := tb_t (tt_1 29 rfl) rfl
theorem n1_30 : (Jvm.Cond.methodLinkNest "BlobStore" (11 : Nat) ({ cls := "BlobStore$Power", name := "<init>", desc := "()V" } : Jvm.MethodName) "BlobStore") ∈ bNst := tn_t (tt_1 30 rfl) rfl
theorem t1_31 : (Jvm.Cond.instanceMethod ({ cls := "BlobStore$Power", name := "<init>", desc := "()V" } : Jvm.MethodName)) ∈ Tb := tb_t (tt_1 31 rfl) rfl
theorem t1_32 : (Jvm.Cond.code ({ cls := "BlobStore$Power", name := "<init>", desc := "()V" } : Jvm.MethodName) prog_3_method_1_code (1 : Nat) (Option.none : Option Jvm.ClassFile.FieldType)) ∈ Tb := tb_t (tt_1 32 rfl) rfl
theorem t1_33 : (Jvm.Cond.methodLink "BlobStore$Power" (1 : Nat) ({ cls := "java/lang/Object", name := "<init>", desc := "()V" } : Jvm.MethodName)) ∈ Tb := tb_t (tt_1 33 rfl) rfl
theorem t1_34 : (Jvm.Cond.fieldLink "BlobStore$Power" (7 : Nat) "BlobStore$Power" "writes" "I") ∈ Tb := tb_t (tt_1 34 rfl) rfl
theorem n1_35 : (Jvm.Cond.fieldLinkNest "BlobStore" (201 : Nat) "BlobStore$Power" "writes" "I" "BlobStore") ∈ bNst := tn_t (tt_1 35 rfl) rfl
theorem t1_36 : (Jvm.Cond.fieldLink "BlobStore$Power" (13 : Nat) "BlobStore$Power" "writesToCut" "I") ∈ Tb := tb_t (tt_1 36 rfl) rfl
theorem t1_37 : (Jvm.Cond.fieldLink "BlobStore$Power" (16 : Nat) "BlobStore$Power" "gone" "Z") ∈ Tb := tb_t (tt_1 37 rfl) rfl
theorem n1_38 : (Jvm.Cond.fieldLinkNest "BlobStore" (204 : Nat) "BlobStore$Power" "gone" "Z" "BlobStore") ∈ bNst := tn_t (tt_1 38 rfl) rfl
theorem t1_39 : (Jvm.Cond.lays "BlobStore$Power" "BlobStore$Power" "writes" "I") ∈ Tb := tb_t (tt_1 39 rfl) rfl
theorem u1_40 : (Jvm.Cond.soleField "BlobStore$Power" "writes") ∈ tables_1 := tt_1 40 rfl
theorem t1_41 : (Jvm.Cond.lays "BlobStore$Power" "BlobStore$Power" "writesToCut" "I") ∈ Tb := tb_t (tt_1 41 rfl) rfl
theorem u1_42 : (Jvm.Cond.soleField "BlobStore$Power" "writesToCut") ∈ tables_1 := tt_1 42 rfl
theorem t1_43 : (Jvm.Cond.lays "BlobStore$Power" "BlobStore$Power" "gone" "Z") ∈ Tb := tb_t (tt_1 43 rfl) rfl
theorem u1_44 : (Jvm.Cond.soleField "BlobStore$Power" "gone") ∈ tables_1 := tt_1 44 rfl
theorem t1_45 : (Jvm.Cond.superclass "BlobStore$Power" "java/lang/Object") ∈ Tb := tb_t (tt_1 45 rfl) rfl
theorem t1_46 : (Jvm.Cond.classLink "BlobStore" (16 : Nat) "BlobStore$Sha256") ∈ Tb := tb_t (tt_1 46 rfl) rfl
theorem t1_47 : (Jvm.Cond.instantiable "BlobStore$Sha256" (1 : Nat)) ∈ Tb := tb_t (tt_1 47 rfl) rfl
theorem n1_48 : (Jvm.Cond.methodLinkNest "BlobStore" (18 : Nat) ({ cls := "BlobStore$Sha256", name := "<init>", desc := "()V" } : Jvm.MethodName) "BlobStore") ∈ bNst := tn_t (tt_1 48 rfl) rfl
theorem t1_49 : (Jvm.Cond.instanceMethod ({ cls := "BlobStore$Sha256", name := "<init>", desc := "()V" } : Jvm.MethodName)) ∈ Tb := tb_t (tt_1 49 rfl) rfl
theorem t1_50 : (Jvm.Cond.code ({ cls := "BlobStore$Sha256", name := "<init>", desc := "()V" } : Jvm.MethodName) prog_6_method_1_code (1 : Nat) (Option.none : Option Jvm.ClassFile.FieldType)) ∈ Tb := tb_t (tt_1 50 rfl) rfl
theorem t1_51 : (Jvm.Cond.methodLink "BlobStore$Sha256" (3 : Nat) ({ cls := "java/lang/Object", name := "<init>", desc := "()V" } : Jvm.MethodName)) ∈ Tb := tb_t (tt_1 51 rfl) rfl
theorem t1_52 : (Jvm.Cond.fieldLink "BlobStore$Sha256" (11 : Nat) "BlobStore$Sha256" "schedule" "[I") ∈ Tb := tb_t (tt_1 52 rfl) rfl
theorem t1_53 : (Jvm.Cond.laysFinal "BlobStore$Sha256" "BlobStore$Sha256" "schedule" "[I") ∈ Tb := tb_t (tt_1 53 rfl) rfl
theorem u1_54 : (Jvm.Cond.soleField "BlobStore$Sha256" "schedule") ∈ tables_1 := tt_1 54 rfl
theorem t1_55 : (Jvm.Cond.superclass "BlobStore$Sha256" "java/lang/Object") ∈ Tb := tb_t (tt_1 55 rfl) rfl
theorem t1_56 : (Jvm.Cond.arrayClass Jvm.ClassFile.FieldType.int) ∈ Tb := tb_t (tt_1 56 rfl) rfl
theorem t1_57 : (Jvm.Cond.classLink "BlobStore" (23 : Nat) "BlobStore$Chunk") ∈ Tb := tb_t (tt_1 57 rfl) rfl
theorem u1_58 : (Jvm.Cond.arrayOver (Jvm.ClassFile.FieldType.object "BlobStore$Chunk")) ∈ tables_1 := tt_1 58 rfl
theorem t1_59 : (Jvm.Cond.classLink "BlobStore" (29 : Nat) "BlobStore$Session") ∈ Tb := tb_t (tt_1 59 rfl) rfl
theorem u1_60 : (Jvm.Cond.arrayOver (Jvm.ClassFile.FieldType.object "BlobStore$Session")) ∈ tables_1 := tt_1 60 rfl
theorem t1_61 : (Jvm.Cond.classLink "BlobStore" (35 : Nat) "BlobStore$Version") ∈ Tb := tb_t (tt_1 61 rfl) rfl
theorem u1_62 : (Jvm.Cond.arrayOver (Jvm.ClassFile.FieldType.object "BlobStore$Version")) ∈ tables_1 := tt_1 62 rfl
theorem t1_63 : (Jvm.Cond.classLink "BlobStore" (48 : Nat) "BlobStore$Row") ∈ Tb := tb_t (tt_1 63 rfl) rfl
theorem t1_64 : (Jvm.Cond.instantiable "BlobStore$Row" (2 : Nat)) ∈ Tb := tb_t (tt_1 64 rfl) rfl
theorem n1_65 : (Jvm.Cond.methodLinkNest "BlobStore" (50 : Nat) ({ cls := "BlobStore$Row", name := "<init>", desc := "(I)V" } : Jvm.MethodName) "BlobStore") ∈ bNst := tn_t (tt_1 65 rfl) rfl
theorem t1_66 : (Jvm.Cond.instanceMethod ({ cls := "BlobStore$Row", name := "<init>", desc := "(I)V" } : Jvm.MethodName)) ∈ Tb := tb_t (tt_1 66 rfl) rfl
theorem t1_67 : (Jvm.Cond.code ({ cls := "BlobStore$Row", name := "<init>", desc := "(I)V" } : Jvm.MethodName) prog_4_method_1_code (2 : Nat) (Option.none : Option Jvm.ClassFile.FieldType)) ∈ Tb := tb_t (tt_1 67 rfl) rfl
theorem t1_68 : (Jvm.Cond.methodLink "BlobStore$Row" (1 : Nat) ({ cls := "java/lang/Object", name := "<init>", desc := "()V" } : Jvm.MethodName)) ∈ Tb := tb_t (tt_1 68 rfl) rfl
theorem t1_69 : (Jvm.Cond.fieldLink "BlobStore$Row" (13 : Nat) "BlobStore$Row" "slots" "[I") ∈ Tb := tb_t (tt_1 69 rfl) rfl
theorem n1_70 : (Jvm.Cond.fieldLinkNest "BlobStore" (166 : Nat) "BlobStore$Row" "slots" "[I" "BlobStore") ∈ bNst := tn_t (tt_1 70 rfl) rfl
theorem t1_71 : (Jvm.Cond.fieldLink "BlobStore$Row" (7 : Nat) "BlobStore$Row" "length" "I") ∈ Tb := tb_t (tt_1 71 rfl) rfl
theorem n1_72 : (Jvm.Cond.fieldLinkNest "BlobStore$Session" (31 : Nat) "BlobStore$Row" "length" "I" "BlobStore") ∈ bNst := tn_t (tt_1 72 rfl) rfl
theorem n1_73 : (Jvm.Cond.fieldLinkNest "BlobStore" (163 : Nat) "BlobStore$Row" "length" "I" "BlobStore") ∈ bNst := tn_t (tt_1 73 rfl) rfl
theorem t1_74 : (Jvm.Cond.laysFinal "BlobStore$Row" "BlobStore$Row" "slots" "[I") ∈ Tb := tb_t (tt_1 74 rfl) rfl
theorem u1_75 : (Jvm.Cond.soleField "BlobStore$Row" "slots") ∈ tables_1 := tt_1 75 rfl
theorem t1_76 : (Jvm.Cond.lays "BlobStore$Row" "BlobStore$Row" "length" "I") ∈ Tb := tb_t (tt_1 76 rfl) rfl
theorem u1_77 : (Jvm.Cond.soleField "BlobStore$Row" "length") ∈ tables_1 := tt_1 77 rfl
theorem t1_78 : (Jvm.Cond.superclass "BlobStore$Row" "java/lang/Object") ∈ Tb := tb_t (tt_1 78 rfl) rfl
theorem t1_79 : (Jvm.Cond.instantiable "BlobStore$Chunk" (3 : Nat)) ∈ Tb := tb_t (tt_1 79 rfl) rfl
theorem n1_80 : (Jvm.Cond.methodLinkNest "BlobStore" (57 : Nat) ({ cls := "BlobStore$Chunk", name := "<init>", desc := "()V" } : Jvm.MethodName) "BlobStore") ∈ bNst := tn_t (tt_1 80 rfl) rfl
theorem t1_81 : (Jvm.Cond.instanceMethod ({ cls := "BlobStore$Chunk", name := "<init>", desc := "()V" } : Jvm.MethodName)) ∈ Tb := tb_t (tt_1 81 rfl) rfl
theorem t1_82 : (Jvm.Cond.code ({ cls := "BlobStore$Chunk", name := "<init>", desc := "()V" } : Jvm.MethodName) prog_2_method_1_code (1 : Nat) (Option.none : Option Jvm.ClassFile.FieldType)) ∈ Tb := tb_t (tt_1 82 rfl) rfl
theorem t1_83 : (Jvm.Cond.methodLink "BlobStore$Chunk" (3 : Nat) ({ cls := "java/lang/Object", name := "<init>", desc := "()V" } : Jvm.MethodName)) ∈ Tb := tb_t (tt_1 83 rfl) rfl
theorem t1_84 : (Jvm.Cond.fieldLink "BlobStore$Chunk" (9 : Nat) "BlobStore$Chunk" "length" "I") ∈ Tb := tb_t (tt_1 84 rfl) rfl
theorem n1_85 : (Jvm.Cond.fieldLinkNest "BlobStore" (168 : Nat) "BlobStore$Chunk" "length" "I" "BlobStore") ∈ bNst := tn_t (tt_1 85 rfl) rfl
theorem t1_86 : (Jvm.Cond.fieldLink "BlobStore$Chunk" (15 : Nat) "BlobStore$Chunk" "bytes" "J") ∈ Tb := tb_t (tt_1 86 rfl) rfl
theorem t1_87 : (Jvm.Cond.fieldLink "BlobStore$Chunk" (19 : Nat) "BlobStore$Chunk" "address" "[I") ∈ Tb := tb_t (tt_1 87 rfl) rfl
theorem n1_88 : (Jvm.Cond.fieldLinkNest "BlobStore" (181 : Nat) "BlobStore$Chunk" "address" "[I" "BlobStore") ∈ bNst := tn_t (tt_1 88 rfl) rfl
theorem t1_89 : (Jvm.Cond.lays "BlobStore$Chunk" "BlobStore$Chunk" "length" "I") ∈ Tb := tb_t (tt_1 89 rfl) rfl
theorem u1_90 : (Jvm.Cond.soleField "BlobStore$Chunk" "length") ∈ tables_1 := tt_1 90 rfl
theorem t1_91 : (Jvm.Cond.lays "BlobStore$Chunk" "BlobStore$Chunk" "bytes" "J") ∈ Tb := tb_t (tt_1 91 rfl) rfl
theorem u1_92 : (Jvm.Cond.soleField "BlobStore$Chunk" "bytes") ∈ tables_1 := tt_1 92 rfl
theorem t1_93 : (Jvm.Cond.laysFinal "BlobStore$Chunk" "BlobStore$Chunk" "address" "[I") ∈ Tb := tb_t (tt_1 93 rfl) rfl
theorem u1_94 : (Jvm.Cond.soleField "BlobStore$Chunk" "address") ∈ tables_1 := tt_1 94 rfl
theorem t1_95 : (Jvm.Cond.superclass "BlobStore$Chunk" "java/lang/Object") ∈ Tb := tb_t (tt_1 95 rfl) rfl
theorem t1_96 : (Jvm.Cond.instantiable "BlobStore$Session" (4 : Nat)) ∈ Tb := tb_t (tt_1 96 rfl) rfl
theorem n1_97 : (Jvm.Cond.methodLinkNest "BlobStore" (66 : Nat) ({ cls := "BlobStore$Session", name := "<init>", desc := "()V" } : Jvm.MethodName) "BlobStore") ∈ bNst := tn_t (tt_1 97 rfl) rfl
theorem t1_98 : (Jvm.Cond.instanceMethod ({ cls := "BlobStore$Session", name := "<init>", desc := "()V" } : Jvm.MethodName)) ∈ Tb := tb_t (tt_1 98 rfl) rfl
theorem t1_99 : (Jvm.Cond.code ({ cls := "BlobStore$Session", name := "<init>", desc := "()V" } : Jvm.MethodName) prog_5_method_1_code (2 : Nat) (Option.none : Option Jvm.ClassFile.FieldType)) ∈ Tb := tb_t (tt_1 99 rfl) rfl
theorem t1_100 : (Jvm.Cond.methodLink "BlobStore$Session" (3 : Nat) ({ cls := "java/lang/Object", name := "<init>", desc := "()V" } : Jvm.MethodName)) ∈ Tb := tb_t (tt_1 100 rfl) rfl
theorem t1_101 : (Jvm.Cond.classLink "BlobStore$Session" (22 : Nat) "BlobStore$Row") ∈ Tb := tb_t (tt_1 101 rfl) rfl
theorem u1_102 : (Jvm.Cond.arrayOver (Jvm.ClassFile.FieldType.object "BlobStore$Row")) ∈ tables_1 := tt_1 102 rfl
theorem n1_103 : (Jvm.Cond.methodLinkNest "BlobStore$Session" (28 : Nat) ({ cls := "BlobStore$Row", name := "<init>", desc := "(I)V" } : Jvm.MethodName) "BlobStore") ∈ bNst := tn_t (tt_1 103 rfl) rfl
theorem t1_104 : (Jvm.Cond.fieldLink "BlobStore$Session" (9 : Nat) "BlobStore$Session" "open" "Z") ∈ Tb := tb_t (tt_1 104 rfl) rfl
theorem n1_105 : (Jvm.Cond.fieldLinkNest "BlobStore" (125 : Nat) "BlobStore$Session" "open" "Z" "BlobStore") ∈ bNst := tn_t (tt_1 105 rfl) rfl
theorem t1_106 : (Jvm.Cond.fieldLink "BlobStore$Session" (15 : Nat) "BlobStore$Session" "bucket" "I") ∈ Tb := tb_t (tt_1 106 rfl) rfl
theorem n1_107 : (Jvm.Cond.fieldLinkNest "BlobStore$Version" (31 : Nat) "BlobStore$Session" "bucket" "I" "BlobStore") ∈ bNst := tn_t (tt_1 107 rfl) rfl
theorem t1_108 : (Jvm.Cond.fieldLink "BlobStore$Session" (19 : Nat) "BlobStore$Session" "key" "I") ∈ Tb := tb_t (tt_1 108 rfl) rfl
theorem n1_109 : (Jvm.Cond.fieldLinkNest "BlobStore$Version" (34 : Nat) "BlobStore$Session" "key" "I" "BlobStore") ∈ bNst := tn_t (tt_1 109 rfl) rfl
theorem t1_110 : (Jvm.Cond.fieldLink "BlobStore$Session" (24 : Nat) "BlobStore$Session" "parts" "[LBlobStore$Row;") ∈ Tb := tb_t (tt_1 110 rfl) rfl
theorem n1_111 : (Jvm.Cond.fieldLinkNest "BlobStore$Version" (35 : Nat) "BlobStore$Session" "parts" "[LBlobStore$Row;" "BlobStore") ∈ bNst := tn_t (tt_1 111 rfl) rfl
theorem n1_112 : (Jvm.Cond.fieldLinkNest "BlobStore" (111 : Nat) "BlobStore$Session" "parts" "[LBlobStore$Row;" "BlobStore") ∈ bNst := tn_t (tt_1 112 rfl) rfl
theorem t1_113 : (Jvm.Cond.lays "BlobStore$Session" "BlobStore$Session" "open" "Z") ∈ Tb := tb_t (tt_1 113 rfl) rfl
theorem u1_114 : (Jvm.Cond.soleField "BlobStore$Session" "open") ∈ tables_1 := tt_1 114 rfl
theorem t1_115 : (Jvm.Cond.lays "BlobStore$Session" "BlobStore$Session" "bucket" "I") ∈ Tb := tb_t (tt_1 115 rfl) rfl
theorem u1_116 : (Jvm.Cond.soleField "BlobStore$Session" "bucket") ∈ tables_1 := tt_1 116 rfl
theorem t1_117 : (Jvm.Cond.lays "BlobStore$Session" "BlobStore$Session" "key" "I") ∈ Tb := tb_t (tt_1 117 rfl) rfl
theorem u1_118 : (Jvm.Cond.soleField "BlobStore$Session" "key") ∈ tables_1 := tt_1 118 rfl
theorem t1_119 : (Jvm.Cond.laysFinal "BlobStore$Session" "BlobStore$Session" "parts" "[LBlobStore$Row;") ∈ Tb := tb_t (tt_1 119 rfl) rfl
theorem u1_120 : (Jvm.Cond.soleField "BlobStore$Session" "parts") ∈ tables_1 := tt_1 120 rfl
theorem t1_121 : (Jvm.Cond.superclass "BlobStore$Session" "java/lang/Object") ∈ Tb := tb_t (tt_1 121 rfl) rfl
theorem t1_122 : (Jvm.Cond.instantiable "BlobStore$Version" (4 : Nat)) ∈ Tb := tb_t (tt_1 122 rfl) rfl
theorem n1_123 : (Jvm.Cond.methodLinkNest "BlobStore" (67 : Nat) ({ cls := "BlobStore$Version", name := "<init>", desc := "()V" } : Jvm.MethodName) "BlobStore") ∈ bNst := tn_t (tt_1 123 rfl) rfl
theorem t1_124 : (Jvm.Cond.instanceMethod ({ cls := "BlobStore$Version", name := "<init>", desc := "()V" } : Jvm.MethodName)) ∈ Tb := tb_t (tt_1 124 rfl) rfl
theorem t1_125 : (Jvm.Cond.code ({ cls := "BlobStore$Version", name := "<init>", desc := "()V" } : Jvm.MethodName) prog_7_method_1_code (1 : Nat) (Option.none : Option Jvm.ClassFile.FieldType)) ∈ Tb := tb_t (tt_1 125 rfl) rfl
theorem t1_126 : (Jvm.Cond.methodLink "BlobStore$Version" (3 : Nat) ({ cls := "java/lang/Object", name := "<init>", desc := "()V" } : Jvm.MethodName)) ∈ Tb := tb_t (tt_1 126 rfl) rfl
theorem t1_127 : (Jvm.Cond.classLink "BlobStore$Version" (22 : Nat) "BlobStore$Row") ∈ Tb := tb_t (tt_1 127 rfl) rfl
theorem n1_128 : (Jvm.Cond.methodLinkNest "BlobStore$Version" (24 : Nat) ({ cls := "BlobStore$Row", name := "<init>", desc := "(I)V" } : Jvm.MethodName) "BlobStore") ∈ bNst := tn_t (tt_1 128 rfl) rfl
theorem t1_129 : (Jvm.Cond.fieldLink "BlobStore$Version" (9 : Nat) "BlobStore$Version" "lives" "Z") ∈ Tb := tb_t (tt_1 129 rfl) rfl
theorem n1_130 : (Jvm.Cond.fieldLinkNest "BlobStore" (133 : Nat) "BlobStore$Version" "lives" "Z" "BlobStore") ∈ bNst := tn_t (tt_1 130 rfl) rfl
theorem t1_131 : (Jvm.Cond.fieldLink "BlobStore$Version" (15 : Nat) "BlobStore$Version" "bucket" "I") ∈ Tb := tb_t (tt_1 131 rfl) rfl
theorem n1_132 : (Jvm.Cond.fieldLinkNest "BlobStore" (154 : Nat) "BlobStore$Version" "bucket" "I" "BlobStore") ∈ bNst := tn_t (tt_1 132 rfl) rfl
theorem t1_133 : (Jvm.Cond.fieldLink "BlobStore$Version" (19 : Nat) "BlobStore$Version" "key" "I") ∈ Tb := tb_t (tt_1 133 rfl) rfl
theorem n1_134 : (Jvm.Cond.fieldLinkNest "BlobStore" (157 : Nat) "BlobStore$Version" "key" "I" "BlobStore") ∈ bNst := tn_t (tt_1 134 rfl) rfl
theorem t1_135 : (Jvm.Cond.fieldLink "BlobStore$Version" (27 : Nat) "BlobStore$Version" "row" "LBlobStore$Row;") ∈ Tb := tb_t (tt_1 135 rfl) rfl
theorem n1_136 : (Jvm.Cond.fieldLinkNest "BlobStore" (160 : Nat) "BlobStore$Version" "row" "LBlobStore$Row;" "BlobStore") ∈ bNst := tn_t (tt_1 136 rfl) rfl
theorem t1_137 : (Jvm.Cond.lays "BlobStore$Version" "BlobStore$Version" "lives" "Z") ∈ Tb := tb_t (tt_1 137 rfl) rfl
theorem u1_138 : (Jvm.Cond.soleField "BlobStore$Version" "lives") ∈ tables_1 := tt_1 138 rfl
theorem t1_139 : (Jvm.Cond.lays "BlobStore$Version" "BlobStore$Version" "bucket" "I") ∈ Tb := tb_t (tt_1 139 rfl) rfl
theorem u1_140 : (Jvm.Cond.soleField "BlobStore$Version" "bucket") ∈ tables_1 := tt_1 140 rfl
theorem t1_141 : (Jvm.Cond.lays "BlobStore$Version" "BlobStore$Version" "key" "I") ∈ Tb := tb_t (tt_1 141 rfl) rfl
theorem u1_142 : (Jvm.Cond.soleField "BlobStore$Version" "key") ∈ tables_1 := tt_1 142 rfl
theorem t1_143 : (Jvm.Cond.laysFinal "BlobStore$Version" "BlobStore$Version" "row" "LBlobStore$Row;") ∈ Tb := tb_t (tt_1 143 rfl) rfl
theorem u1_144 : (Jvm.Cond.soleField "BlobStore$Version" "row") ∈ tables_1 := tt_1 144 rfl
theorem t1_145 : (Jvm.Cond.superclass "BlobStore$Version" "java/lang/Object") ∈ Tb := tb_t (tt_1 145 rfl) rfl
theorem t1_146 : (Jvm.Cond.fieldLink "BlobStore" (12 : Nat) "BlobStore" "power" "LBlobStore$Power;") ∈ Tb := tb_t (tt_1 146 rfl) rfl
theorem t1_147 : (Jvm.Cond.fieldLink "BlobStore" (19 : Nat) "BlobStore" "sha256" "LBlobStore$Sha256;") ∈ Tb := tb_t (tt_1 147 rfl) rfl
theorem t1_148 : (Jvm.Cond.fieldLink "BlobStore" (25 : Nat) "BlobStore" "slots" "[LBlobStore$Chunk;") ∈ Tb := tb_t (tt_1 148 rfl) rfl
theorem t1_149 : (Jvm.Cond.fieldLink "BlobStore" (31 : Nat) "BlobStore" "sessions" "[LBlobStore$Session;") ∈ Tb := tb_t (tt_1 149 rfl) rfl
theorem t1_150 : (Jvm.Cond.fieldLink "BlobStore" (37 : Nat) "BlobStore" "versions" "[LBlobStore$Version;") ∈ Tb := tb_t (tt_1 150 rfl) rfl
theorem t1_151 : (Jvm.Cond.fieldLink "BlobStore" (41 : Nat) "BlobStore" "versionsEver" "I") ∈ Tb := tb_t (tt_1 151 rfl) rfl
theorem t1_152 : (Jvm.Cond.fieldLink "BlobStore" (45 : Nat) "BlobStore" "incoming" "[LBlobStore$Chunk;") ∈ Tb := tb_t (tt_1 152 rfl) rfl
theorem t1_153 : (Jvm.Cond.fieldLink "BlobStore" (53 : Nat) "BlobStore" "incomingSlots" "LBlobStore$Row;") ∈ Tb := tb_t (tt_1 153 rfl) rfl
theorem t1_154 : (Jvm.Cond.fieldLink "BlobStore" (58 : Nat) "BlobStore" "wanted" "LBlobStore$Chunk;") ∈ Tb := tb_t (tt_1 154 rfl) rfl
theorem t1_155 : (Jvm.Cond.fieldLink "BlobStore" (62 : Nat) "BlobStore" "needs" "[I") ∈ Tb := tb_t (tt_1 155 rfl) rfl
theorem t1_156 : (Jvm.Cond.laysFinal "BlobStore" "BlobStore" "power" "LBlobStore$Power;") ∈ Tb := tb_t (tt_1 156 rfl) rfl
theorem u1_157 : (Jvm.Cond.soleField "BlobStore" "power") ∈ tables_1 := tt_1 157 rfl
theorem t1_158 : (Jvm.Cond.laysFinal "BlobStore" "BlobStore" "sha256" "LBlobStore$Sha256;") ∈ Tb := tb_t (tt_1 158 rfl) rfl
theorem u1_159 : (Jvm.Cond.soleField "BlobStore" "sha256") ∈ tables_1 := tt_1 159 rfl
theorem t1_160 : (Jvm.Cond.laysFinal "BlobStore" "BlobStore" "slots" "[LBlobStore$Chunk;") ∈ Tb := tb_t (tt_1 160 rfl) rfl
theorem u1_161 : (Jvm.Cond.soleField "BlobStore" "slots") ∈ tables_1 := tt_1 161 rfl
theorem t1_162 : (Jvm.Cond.laysFinal "BlobStore" "BlobStore" "sessions" "[LBlobStore$Session;") ∈ Tb := tb_t (tt_1 162 rfl) rfl
theorem u1_163 : (Jvm.Cond.soleField "BlobStore" "sessions") ∈ tables_1 := tt_1 163 rfl
theorem t1_164 : (Jvm.Cond.laysFinal "BlobStore" "BlobStore" "versions" "[LBlobStore$Version;") ∈ Tb := tb_t (tt_1 164 rfl) rfl
theorem u1_165 : (Jvm.Cond.soleField "BlobStore" "versions") ∈ tables_1 := tt_1 165 rfl
theorem t1_166 : (Jvm.Cond.lays "BlobStore" "BlobStore" "versionsEver" "I") ∈ Tb := tb_t (tt_1 166 rfl) rfl
theorem u1_167 : (Jvm.Cond.soleField "BlobStore" "versionsEver") ∈ tables_1 := tt_1 167 rfl
theorem t1_168 : (Jvm.Cond.laysFinal "BlobStore" "BlobStore" "incoming" "[LBlobStore$Chunk;") ∈ Tb := tb_t (tt_1 168 rfl) rfl
theorem u1_169 : (Jvm.Cond.soleField "BlobStore" "incoming") ∈ tables_1 := tt_1 169 rfl
theorem t1_170 : (Jvm.Cond.laysFinal "BlobStore" "BlobStore" "incomingSlots" "LBlobStore$Row;") ∈ Tb := tb_t (tt_1 170 rfl) rfl
theorem u1_171 : (Jvm.Cond.soleField "BlobStore" "incomingSlots") ∈ tables_1 := tt_1 171 rfl
theorem t1_172 : (Jvm.Cond.laysFinal "BlobStore" "BlobStore" "wanted" "LBlobStore$Chunk;") ∈ Tb := tb_t (tt_1 172 rfl) rfl
theorem u1_173 : (Jvm.Cond.soleField "BlobStore" "wanted") ∈ tables_1 := tt_1 173 rfl
theorem t1_174 : (Jvm.Cond.laysFinal "BlobStore" "BlobStore" "needs" "[I") ∈ Tb := tb_t (tt_1 174 rfl) rfl
theorem u1_175 : (Jvm.Cond.soleField "BlobStore" "needs") ∈ tables_1 := tt_1 175 rfl
theorem t1_176 : (Jvm.Cond.superclass "BlobStore" "java/lang/Object") ∈ Tb := tb_t (tt_1 176 rfl) rfl
theorem t1_177 : (Jvm.Cond.methodLink "BlobStoreLaw" (86 : Nat) ({ cls := "BlobStore", name := "recover", desc := "()Z" } : Jvm.MethodName)) ∈ Tb := tb_t (tt_1 177 rfl) rfl
theorem t1_178 : (Jvm.Cond.instanceMethod ({ cls := "BlobStore", name := "recover", desc := "()Z" } : Jvm.MethodName)) ∈ Tb := tb_t (tt_1 178 rfl) rfl
theorem t1_179 : (Jvm.Cond.selects "BlobStore" ({ cls := "BlobStore", name := "recover", desc := "()Z" } : Jvm.MethodName) ({ cls := "BlobStore", name := "recover", desc := "()Z" } : Jvm.MethodName)) ∈ Tb := tb_t (tt_1 179 rfl) rfl
theorem t1_180 : (Jvm.Cond.code ({ cls := "BlobStore", name := "recover", desc := "()Z" } : Jvm.MethodName) prog_1_method_9_code (1 : Nat) (Option.some Jvm.ClassFile.FieldType.boolean)) ∈ Tb := tb_t (tt_1 180 rfl) rfl
theorem n1_181 : (Jvm.Cond.methodLinkNest "BlobStore" (151 : Nat) ({ cls := "BlobStore$Power", name := "turnOn", desc := "()Z" } : Jvm.MethodName) "BlobStore") ∈ bNst := tn_t (tt_1 181 rfl) rfl
theorem u1_182 : (Jvm.Cond.privateMethod ({ cls := "BlobStore$Power", name := "turnOn", desc := "()Z" } : Jvm.MethodName)) ∈ tables_1 := tt_1 182 rfl
theorem t1_183 : (Jvm.Cond.instanceMethod ({ cls := "BlobStore$Power", name := "turnOn", desc := "()Z" } : Jvm.MethodName)) ∈ Tb := tb_t (tt_1 183 rfl) rfl
theorem t1_184 : (Jvm.Cond.code ({ cls := "BlobStore$Power", name := "turnOn", desc := "()Z" } : Jvm.MethodName) prog_3_method_5_code (1 : Nat) (Option.some Jvm.ClassFile.FieldType.boolean)) ∈ Tb := tb_t (tt_1 184 rfl) rfl
theorem t1_185 : (Jvm.Cond.methodLink "BlobStoreLaw" (91 : Nat) ({ cls := "BlobStore", name := "latest", desc := "(II)I" } : Jvm.MethodName)) ∈ Tb := tb_t (tt_1 185 rfl) rfl
theorem t1_186 : (Jvm.Cond.instanceMethod ({ cls := "BlobStore", name := "latest", desc := "(II)I" } : Jvm.MethodName)) ∈ Tb := tb_t (tt_1 186 rfl) rfl
theorem t1_187 : (Jvm.Cond.selects "BlobStore" ({ cls := "BlobStore", name := "latest", desc := "(II)I" } : Jvm.MethodName) ({ cls := "BlobStore", name := "latest", desc := "(II)I" } : Jvm.MethodName)) ∈ Tb := tb_t (tt_1 187 rfl) rfl
theorem t1_188 : (Jvm.Cond.code ({ cls := "BlobStore", name := "latest", desc := "(II)I" } : Jvm.MethodName) prog_1_method_10_code (5 : Nat) (Option.some Jvm.ClassFile.FieldType.int)) ∈ Tb := tb_t (tt_1 188 rfl) rfl
theorem t1_189 : (Jvm.Cond.methodLink "BlobStoreLaw" (95 : Nat) ({ cls := "BlobStore", name := "size", desc := "(I)I" } : Jvm.MethodName)) ∈ Tb := tb_t (tt_1 189 rfl) rfl
theorem t1_190 : (Jvm.Cond.instanceMethod ({ cls := "BlobStore", name := "size", desc := "(I)I" } : Jvm.MethodName)) ∈ Tb := tb_t (tt_1 190 rfl) rfl
theorem t1_191 : (Jvm.Cond.selects "BlobStore" ({ cls := "BlobStore", name := "size", desc := "(I)I" } : Jvm.MethodName) ({ cls := "BlobStore", name := "size", desc := "(I)I" } : Jvm.MethodName)) ∈ Tb := tb_t (tt_1 191 rfl) rfl
theorem t1_192 : (Jvm.Cond.code ({ cls := "BlobStore", name := "size", desc := "(I)I" } : Jvm.MethodName) prog_1_method_11_code (5 : Nat) (Option.some Jvm.ClassFile.FieldType.int)) ∈ Tb := tb_t (tt_1 192 rfl) rfl
theorem t1_193 : (Jvm.Cond.methodLink "BlobStore" (129 : Nat) ({ cls := "BlobStore", name := "livingVersion", desc := "(I)LBlobStore$Version;" } : Jvm.MethodName)) ∈ Tb := tb_t (tt_1 193 rfl) rfl
theorem u1_194 : (Jvm.Cond.privateMethod ({ cls := "BlobStore", name := "livingVersion", desc := "(I)LBlobStore$Version;" } : Jvm.MethodName)) ∈ tables_1 := tt_1 194 rfl
theorem t1_195 : (Jvm.Cond.instanceMethod ({ cls := "BlobStore", name := "livingVersion", desc := "(I)LBlobStore$Version;" } : Jvm.MethodName)) ∈ Tb := tb_t (tt_1 195 rfl) rfl
theorem t1_196 : (Jvm.Cond.code ({ cls := "BlobStore", name := "livingVersion", desc := "(I)LBlobStore$Version;" } : Jvm.MethodName) prog_1_method_19_code (2 : Nat) (Option.some (Jvm.ClassFile.FieldType.object "BlobStore$Version"))) ∈ Tb := tb_t (tt_1 196 rfl) rfl
theorem t1_197 : (Jvm.Cond.methodLink "BlobStoreLaw" (99 : Nat) ({ cls := "BlobStore", name := "byteAt", desc := "(II)I" } : Jvm.MethodName)) ∈ Tb := tb_t (tt_1 197 rfl) rfl
theorem t1_198 : (Jvm.Cond.instanceMethod ({ cls := "BlobStore", name := "byteAt", desc := "(II)I" } : Jvm.MethodName)) ∈ Tb := tb_t (tt_1 198 rfl) rfl
theorem t1_199 : (Jvm.Cond.selects "BlobStore" ({ cls := "BlobStore", name := "byteAt", desc := "(II)I" } : Jvm.MethodName) ({ cls := "BlobStore", name := "byteAt", desc := "(II)I" } : Jvm.MethodName)) ∈ Tb := tb_t (tt_1 199 rfl) rfl
theorem t1_200 : (Jvm.Cond.code ({ cls := "BlobStore", name := "byteAt", desc := "(II)I" } : Jvm.MethodName) prog_1_method_12_code (7 : Nat) (Option.some Jvm.ClassFile.FieldType.int)) ∈ Tb := tb_t (tt_1 200 rfl) rfl
theorem n1_201 : (Jvm.Cond.methodLinkNest "BlobStore" (169 : Nat) ({ cls := "BlobStore$Chunk", name := "byteOf", desc := "(I)I" } : Jvm.MethodName) "BlobStore") ∈ bNst := tn_t (tt_1 201 rfl) rfl
theorem u1_202 : (Jvm.Cond.privateMethod ({ cls := "BlobStore$Chunk", name := "byteOf", desc := "(I)I" } : Jvm.MethodName)) ∈ tables_1 := tt_1 202 rfl
theorem t1_203 : (Jvm.Cond.instanceMethod ({ cls := "BlobStore$Chunk", name := "byteOf", desc := "(I)I" } : Jvm.MethodName)) ∈ Tb := tb_t (tt_1 203 rfl) rfl
theorem t1_204 : (Jvm.Cond.code ({ cls := "BlobStore$Chunk", name := "byteOf", desc := "(I)I" } : Jvm.MethodName) prog_2_method_7_code (2 : Nat) (Option.some Jvm.ClassFile.FieldType.int)) ∈ Tb := tb_t (tt_1 204 rfl) rfl
theorem t1_205 : (Jvm.Cond.methodLink "BlobStoreLaw" (106 : Nat) ({ cls := "BlobStore", name := "needed", desc := "(I)I" } : Jvm.MethodName)) ∈ Tb := tb_t (tt_1 205 rfl) rfl
theorem t1_206 : (Jvm.Cond.instanceMethod ({ cls := "BlobStore", name := "needed", desc := "(I)I" } : Jvm.MethodName)) ∈ Tb := tb_t (tt_1 206 rfl) rfl
theorem t1_207 : (Jvm.Cond.selects "BlobStore" ({ cls := "BlobStore", name := "needed", desc := "(I)I" } : Jvm.MethodName) ({ cls := "BlobStore", name := "needed", desc := "(I)I" } : Jvm.MethodName)) ∈ Tb := tb_t (tt_1 207 rfl) rfl
theorem t1_208 : (Jvm.Cond.code ({ cls := "BlobStore", name := "needed", desc := "(I)I" } : Jvm.MethodName) prog_1_method_14_code (2 : Nat) (Option.some Jvm.ClassFile.FieldType.int)) ∈ Tb := tb_t (tt_1 208 rfl) rfl
theorem t1_209 : (Jvm.Cond.methodLink "BlobStore" (172 : Nat) ({ cls := "BlobStore", name := "hasChunk", desc := "(I)Z" } : Jvm.MethodName)) ∈ Tb := tb_t (tt_1 209 rfl) rfl
theorem u1_210 : (Jvm.Cond.privateMethod ({ cls := "BlobStore", name := "hasChunk", desc := "(I)Z" } : Jvm.MethodName)) ∈ tables_1 := tt_1 210 rfl
theorem t1_211 : (Jvm.Cond.instanceMethod ({ cls := "BlobStore", name := "hasChunk", desc := "(I)Z" } : Jvm.MethodName)) ∈ Tb := tb_t (tt_1 211 rfl) rfl
theorem t1_212 : (Jvm.Cond.code ({ cls := "BlobStore", name := "hasChunk", desc := "(I)Z" } : Jvm.MethodName) prog_1_method_20_code (2 : Nat) (Option.some Jvm.ClassFile.FieldType.boolean)) ∈ Tb := tb_t (tt_1 212 rfl) rfl
theorem n1_213 : (Jvm.Cond.methodLinkNest "BlobStore" (139 : Nat) ({ cls := "BlobStore$Chunk", name := "isFree", desc := "()Z" } : Jvm.MethodName) "BlobStore") ∈ bNst := tn_t (tt_1 213 rfl) rfl
theorem u1_214 : (Jvm.Cond.privateMethod ({ cls := "BlobStore$Chunk", name := "isFree", desc := "()Z" } : Jvm.MethodName)) ∈ tables_1 := tt_1 214 rfl
theorem t1_215 : (Jvm.Cond.instanceMethod ({ cls := "BlobStore$Chunk", name := "isFree", desc := "()Z" } : Jvm.MethodName)) ∈ Tb := tb_t (tt_1 215 rfl) rfl
theorem t1_216 : (Jvm.Cond.code ({ cls := "BlobStore$Chunk", name := "isFree", desc := "()Z" } : Jvm.MethodName) prog_2_method_2_code (1 : Nat) (Option.some Jvm.ClassFile.FieldType.boolean)) ∈ Tb := tb_t (tt_1 216 rfl) rfl
theorem t1_217 : (Jvm.Cond.methodLink "BlobStore" (136 : Nat) ({ cls := "BlobStore", name := "countNeeds", desc := "()V" } : Jvm.MethodName)) ∈ Tb := tb_t (tt_1 217 rfl) rfl
theorem u1_218 : (Jvm.Cond.privateMethod ({ cls := "BlobStore", name := "countNeeds", desc := "()V" } : Jvm.MethodName)) ∈ tables_1 := tt_1 218 rfl
theorem t1_219 : (Jvm.Cond.instanceMethod ({ cls := "BlobStore", name := "countNeeds", desc := "()V" } : Jvm.MethodName)) ∈ Tb := tb_t (tt_1 219 rfl) rfl
theorem t1_220 : (Jvm.Cond.code ({ cls := "BlobStore", name := "countNeeds", desc := "()V" } : Jvm.MethodName) prog_1_method_27_code (2 : Nat) (Option.none : Option Jvm.ClassFile.FieldType)) ∈ Tb := tb_t (tt_1 220 rfl) rfl
theorem t1_221 : (Jvm.Cond.methodLink "BlobStore" (236 : Nat) ({ cls := "java/util/Arrays", name := "fill", desc := "([II)V" } : Jvm.MethodName)) ∈ Tb := tb_t (tt_1 221 rfl) rfl
theorem t1_222 : (Jvm.Cond.static ({ cls := "java/util/Arrays", name := "fill", desc := "([II)V" } : Jvm.MethodName)) ∈ Tb := tb_t (tt_1 222 rfl) rfl
theorem t1_223 : (Jvm.Cond.code ({ cls := "java/util/Arrays", name := "fill", desc := "([II)V" } : Jvm.MethodName) prog_20_method_103_code (4 : Nat) (Option.none : Option Jvm.ClassFile.FieldType)) ∈ Tb := tb_t (tt_1 223 rfl) rfl
theorem n1_224 : (Jvm.Cond.methodLinkNest "BlobStore" (241 : Nat) ({ cls := "BlobStore$Session", name := "countInto", desc := "([I)V" } : Jvm.MethodName) "BlobStore") ∈ bNst := tn_t (tt_1 224 rfl) rfl
theorem u1_225 : (Jvm.Cond.privateMethod ({ cls := "BlobStore$Session", name := "countInto", desc := "([I)V" } : Jvm.MethodName)) ∈ tables_1 := tt_1 225 rfl
theorem t1_226 : (Jvm.Cond.instanceMethod ({ cls := "BlobStore$Session", name := "countInto", desc := "([I)V" } : Jvm.MethodName)) ∈ Tb := tb_t (tt_1 226 rfl) rfl
theorem t1_227 : (Jvm.Cond.code ({ cls := "BlobStore$Session", name := "countInto", desc := "([I)V" } : Jvm.MethodName) prog_5_method_3_code (3 : Nat) (Option.none : Option Jvm.ClassFile.FieldType)) ∈ Tb := tb_t (tt_1 227 rfl) rfl
theorem n1_228 : (Jvm.Cond.methodLinkNest "BlobStore$Session" (34 : Nat) ({ cls := "BlobStore$Row", name := "countInto", desc := "([I)V" } : Jvm.MethodName) "BlobStore") ∈ bNst := tn_t (tt_1 228 rfl) rfl
theorem u1_229 : (Jvm.Cond.privateMethod ({ cls := "BlobStore$Row", name := "countInto", desc := "([I)V" } : Jvm.MethodName)) ∈ tables_1 := tt_1 229 rfl
theorem t1_230 : (Jvm.Cond.instanceMethod ({ cls := "BlobStore$Row", name := "countInto", desc := "([I)V" } : Jvm.MethodName)) ∈ Tb := tb_t (tt_1 230 rfl) rfl
theorem t1_231 : (Jvm.Cond.code ({ cls := "BlobStore$Row", name := "countInto", desc := "([I)V" } : Jvm.MethodName) prog_4_method_5_code (3 : Nat) (Option.none : Option Jvm.ClassFile.FieldType)) ∈ Tb := tb_t (tt_1 231 rfl) rfl
theorem n1_232 : (Jvm.Cond.methodLinkNest "BlobStore" (245 : Nat) ({ cls := "BlobStore$Row", name := "countInto", desc := "([I)V" } : Jvm.MethodName) "BlobStore") ∈ bNst := tn_t (tt_1 232 rfl) rfl
theorem t1_233 : (Jvm.Cond.methodLink "BlobStoreLaw" (110 : Nat) ({ cls := "BlobStore", name := "slotOf", desc := "(IJ)I" } : Jvm.MethodName)) ∈ Tb := tb_t (tt_1 233 rfl) rfl
theorem t1_234 : (Jvm.Cond.instanceMethod ({ cls := "BlobStore", name := "slotOf", desc := "(IJ)I" } : Jvm.MethodName)) ∈ Tb := tb_t (tt_1 234 rfl) rfl
theorem t1_235 : (Jvm.Cond.selects "BlobStore" ({ cls := "BlobStore", name := "slotOf", desc := "(IJ)I" } : Jvm.MethodName) ({ cls := "BlobStore", name := "slotOf", desc := "(IJ)I" } : Jvm.MethodName)) ∈ Tb := tb_t (tt_1 235 rfl) rfl
theorem t1_236 : (Jvm.Cond.code ({ cls := "BlobStore", name := "slotOf", desc := "(IJ)I" } : Jvm.MethodName) prog_1_method_15_code (4 : Nat) (Option.some Jvm.ClassFile.FieldType.int)) ∈ Tb := tb_t (tt_1 236 rfl) rfl
theorem n1_237 : (Jvm.Cond.methodLinkNest "BlobStore" (184 : Nat) ({ cls := "BlobStore$Chunk", name := "fill", desc := "(IJLBlobStore$Sha256;)V" } : Jvm.MethodName) "BlobStore") ∈ bNst := tn_t (tt_1 237 rfl) rfl
theorem u1_238 : (Jvm.Cond.privateMethod ({ cls := "BlobStore$Chunk", name := "fill", desc := "(IJLBlobStore$Sha256;)V" } : Jvm.MethodName)) ∈ tables_1 := tt_1 238 rfl
theorem t1_239 : (Jvm.Cond.instanceMethod ({ cls := "BlobStore$Chunk", name := "fill", desc := "(IJLBlobStore$Sha256;)V" } : Jvm.MethodName)) ∈ Tb := tb_t (tt_1 239 rfl) rfl
theorem t2_0 : (Jvm.Cond.code ({ cls := "BlobStore$Chunk", name := "fill", desc := "(IJLBlobStore$Sha256;)V" } : Jvm.MethodName) prog_2_method_4_code (5 : Nat) (Option.none : Option Jvm.ClassFile.FieldType)) ∈ Tb := tb_t (tt_2 0 rfl) rfl
theorem t2_1 : (Jvm.Cond.constantLong "BlobStore$Chunk" (23 : Nat) (-1 : Int64)) ∈ Tb := tb_t (tt_2 1 rfl) rfl
theorem n2_2 : (Jvm.Cond.methodLinkNest "BlobStore$Chunk" (25 : Nat) ({ cls := "BlobStore$Sha256", name := "digest", desc := "(IJ[I)V" } : Jvm.MethodName) "BlobStore") ∈ bNst := tn_t (tt_2 2 rfl) rfl
theorem u2_3 : (Jvm.Cond.privateMethod ({ cls := "BlobStore$Sha256", name := "digest", desc := "(IJ[I)V" } : Jvm.MethodName)) ∈ tables_1 := tt_2 3 rfl
theorem t2_4 : (Jvm.Cond.instanceMethod ({ cls := "BlobStore$Sha256", name := "digest", desc := "(IJ[I)V" } : Jvm.MethodName)) ∈ Tb := tb_t (tt_2 4 rfl) rfl
theorem t2_5 : (Jvm.Cond.code ({ cls := "BlobStore$Sha256", name := "digest", desc := "(IJ[I)V" } : Jvm.MethodName) prog_6_method_2_code (5 : Nat) (Option.none : Option Jvm.ClassFile.FieldType)) ∈ Tb := tb_t (tt_2 5 rfl) rfl
theorem t2_6 : (Jvm.Cond.methodLink "BlobStore$Sha256" (15 : Nat) ({ cls := "BlobStore$Sha256", name := "padBlock", desc := "(IJ)V" } : Jvm.MethodName)) ∈ Tb := tb_t (tt_2 6 rfl) rfl
theorem u2_7 : (Jvm.Cond.privateMethod ({ cls := "BlobStore$Sha256", name := "padBlock", desc := "(IJ)V" } : Jvm.MethodName)) ∈ tables_1 := tt_2 7 rfl
theorem t2_8 : (Jvm.Cond.instanceMethod ({ cls := "BlobStore$Sha256", name := "padBlock", desc := "(IJ)V" } : Jvm.MethodName)) ∈ Tb := tb_t (tt_2 8 rfl) rfl
theorem t2_9 : (Jvm.Cond.code ({ cls := "BlobStore$Sha256", name := "padBlock", desc := "(IJ)V" } : Jvm.MethodName) prog_6_method_3_code (7 : Nat) (Option.none : Option Jvm.ClassFile.FieldType)) ∈ Tb := tb_t (tt_2 9 rfl) rfl
theorem t2_10 : (Jvm.Cond.constantLong "BlobStore$Sha256" (26 : Nat) (128 : Int64)) ∈ Tb := tb_t (tt_2 10 rfl) rfl
theorem t2_11 : (Jvm.Cond.constant "BlobStore$Sha256" (28 : Nat) (-2147483648 : Int32)) ∈ Tb := tb_t (tt_2 11 rfl) rfl
theorem t2_12 : (Jvm.Cond.methodLink "BlobStore$Sha256" (19 : Nat) ({ cls := "BlobStore$Sha256", name := "expandBlock", desc := "()V" } : Jvm.MethodName)) ∈ Tb := tb_t (tt_2 12 rfl) rfl
theorem u2_13 : (Jvm.Cond.privateMethod ({ cls := "BlobStore$Sha256", name := "expandBlock", desc := "()V" } : Jvm.MethodName)) ∈ tables_1 := tt_2 13 rfl
theorem t2_14 : (Jvm.Cond.instanceMethod ({ cls := "BlobStore$Sha256", name := "expandBlock", desc := "()V" } : Jvm.MethodName)) ∈ Tb := tb_t (tt_2 14 rfl) rfl
theorem t2_15 : (Jvm.Cond.code ({ cls := "BlobStore$Sha256", name := "expandBlock", desc := "()V" } : Jvm.MethodName) prog_6_method_4_code (6 : Nat) (Option.none : Option Jvm.ClassFile.FieldType)) ∈ Tb := tb_t (tt_2 15 rfl) rfl
theorem t2_16 : (Jvm.Cond.methodLink "BlobStore$Sha256" (29 : Nat) ({ cls := "BlobStore$Sha256", name := "turnRight", desc := "(II)I" } : Jvm.MethodName)) ∈ Tb := tb_t (tt_2 16 rfl) rfl
theorem t2_17 : (Jvm.Cond.static ({ cls := "BlobStore$Sha256", name := "turnRight", desc := "(II)I" } : Jvm.MethodName)) ∈ Tb := tb_t (tt_2 17 rfl) rfl
theorem t2_18 : (Jvm.Cond.code ({ cls := "BlobStore$Sha256", name := "turnRight", desc := "(II)I" } : Jvm.MethodName) prog_6_method_6_code (2 : Nat) (Option.some Jvm.ClassFile.FieldType.int)) ∈ Tb := tb_t (tt_2 18 rfl) rfl
theorem t2_19 : (Jvm.Cond.methodLink "BlobStore$Sha256" (22 : Nat) ({ cls := "BlobStore$Sha256", name := "mixBlock", desc := "([I)V" } : Jvm.MethodName)) ∈ Tb := tb_t (tt_2 19 rfl) rfl
theorem u2_20 : (Jvm.Cond.privateMethod ({ cls := "BlobStore$Sha256", name := "mixBlock", desc := "([I)V" } : Jvm.MethodName)) ∈ tables_1 := tt_2 20 rfl
theorem t2_21 : (Jvm.Cond.instanceMethod ({ cls := "BlobStore$Sha256", name := "mixBlock", desc := "([I)V" } : Jvm.MethodName)) ∈ Tb := tb_t (tt_2 21 rfl) rfl
theorem t2_22 : (Jvm.Cond.code ({ cls := "BlobStore$Sha256", name := "mixBlock", desc := "([I)V" } : Jvm.MethodName) prog_6_method_5_code (16 : Nat) (Option.none : Option Jvm.ClassFile.FieldType)) ∈ Tb := tb_t (tt_2 22 rfl) rfl
theorem t2_23 : (Jvm.Cond.fieldLink "BlobStore$Sha256" (33 : Nat) "BlobStore$Sha256" "FIRST_HASH" "[I") ∈ Tb := tb_t (tt_2 23 rfl) rfl
theorem u2_24 : (Jvm.Cond.laysStatic "BlobStore$Sha256" "FIRST_HASH" "[I") ∈ tables_1 := tt_2 24 rfl
theorem t2_25 : (Jvm.Cond.fieldLink "BlobStore$Sha256" (36 : Nat) "BlobStore$Sha256" "ROUND_WORDS" "[I") ∈ Tb := tb_t (tt_2 25 rfl) rfl
theorem u2_26 : (Jvm.Cond.laysStatic "BlobStore$Sha256" "ROUND_WORDS" "[I") ∈ tables_1 := tt_2 26 rfl
theorem t2_27 : (Jvm.Cond.methodLink "BlobStore" (188 : Nat) ({ cls := "BlobStore", name := "slotWith", desc := "(LBlobStore$Chunk;)I" } : Jvm.MethodName)) ∈ Tb := tb_t (tt_2 27 rfl) rfl
theorem u2_28 : (Jvm.Cond.privateMethod ({ cls := "BlobStore", name := "slotWith", desc := "(LBlobStore$Chunk;)I" } : Jvm.MethodName)) ∈ tables_1 := tt_2 28 rfl
theorem t2_29 : (Jvm.Cond.instanceMethod ({ cls := "BlobStore", name := "slotWith", desc := "(LBlobStore$Chunk;)I" } : Jvm.MethodName)) ∈ Tb := tb_t (tt_2 29 rfl) rfl
theorem t2_30 : (Jvm.Cond.code ({ cls := "BlobStore", name := "slotWith", desc := "(LBlobStore$Chunk;)I" } : Jvm.MethodName) prog_1_method_21_code (3 : Nat) (Option.some Jvm.ClassFile.FieldType.int)) ∈ Tb := tb_t (tt_2 30 rfl) rfl
theorem n2_31 : (Jvm.Cond.methodLinkNest "BlobStore" (209 : Nat) ({ cls := "BlobStore$Chunk", name := "isLike", desc := "(LBlobStore$Chunk;)Z" } : Jvm.MethodName) "BlobStore") ∈ bNst := tn_t (tt_2 31 rfl) rfl
theorem u2_32 : (Jvm.Cond.privateMethod ({ cls := "BlobStore$Chunk", name := "isLike", desc := "(LBlobStore$Chunk;)Z" } : Jvm.MethodName)) ∈ tables_1 := tt_2 32 rfl
theorem t2_33 : (Jvm.Cond.instanceMethod ({ cls := "BlobStore$Chunk", name := "isLike", desc := "(LBlobStore$Chunk;)Z" } : Jvm.MethodName)) ∈ Tb := tb_t (tt_2 33 rfl) rfl
theorem t2_34 : (Jvm.Cond.code ({ cls := "BlobStore$Chunk", name := "isLike", desc := "(LBlobStore$Chunk;)Z" } : Jvm.MethodName) prog_2_method_6_code (3 : Nat) (Option.some Jvm.ClassFile.FieldType.boolean)) ∈ Tb := tb_t (tt_2 34 rfl) rfl
theorem t2_35 : (Jvm.Cond.methodLink "BlobStoreLaw" (115 : Nat) ({ cls := "BlobStore", name := "state", desc := "(I)I" } : Jvm.MethodName)) ∈ Tb := tb_t (tt_2 35 rfl) rfl
theorem t2_36 : (Jvm.Cond.instanceMethod ({ cls := "BlobStore", name := "state", desc := "(I)I" } : Jvm.MethodName)) ∈ Tb := tb_t (tt_2 36 rfl) rfl
theorem t2_37 : (Jvm.Cond.selects "BlobStore" ({ cls := "BlobStore", name := "state", desc := "(I)I" } : Jvm.MethodName) ({ cls := "BlobStore", name := "state", desc := "(I)I" } : Jvm.MethodName)) ∈ Tb := tb_t (tt_2 37 rfl) rfl
theorem t2_38 : (Jvm.Cond.code ({ cls := "BlobStore", name := "state", desc := "(I)I" } : Jvm.MethodName) prog_1_method_16_code (2 : Nat) (Option.some Jvm.ClassFile.FieldType.int)) ∈ Tb := tb_t (tt_2 38 rfl) rfl
theorem t2_39 : (Jvm.Cond.methodLink "BlobStore" (192 : Nat) ({ cls := "BlobStore", name := "countChunks", desc := "()I" } : Jvm.MethodName)) ∈ Tb := tb_t (tt_2 39 rfl) rfl
theorem u2_40 : (Jvm.Cond.privateMethod ({ cls := "BlobStore", name := "countChunks", desc := "()I" } : Jvm.MethodName)) ∈ tables_1 := tt_2 40 rfl
theorem t2_41 : (Jvm.Cond.instanceMethod ({ cls := "BlobStore", name := "countChunks", desc := "()I" } : Jvm.MethodName)) ∈ Tb := tb_t (tt_2 41 rfl) rfl
theorem t2_42 : (Jvm.Cond.code ({ cls := "BlobStore", name := "countChunks", desc := "()I" } : Jvm.MethodName) prog_1_method_28_code (3 : Nat) (Option.some Jvm.ClassFile.FieldType.int)) ∈ Tb := tb_t (tt_2 42 rfl) rfl
theorem t2_43 : (Jvm.Cond.methodLink "BlobStore" (195 : Nat) ({ cls := "BlobStore", name := "countOpenSessions", desc := "()I" } : Jvm.MethodName)) ∈ Tb := tb_t (tt_2 43 rfl) rfl
theorem u2_44 : (Jvm.Cond.privateMethod ({ cls := "BlobStore", name := "countOpenSessions", desc := "()I" } : Jvm.MethodName)) ∈ tables_1 := tt_2 44 rfl
theorem t2_45 : (Jvm.Cond.instanceMethod ({ cls := "BlobStore", name := "countOpenSessions", desc := "()I" } : Jvm.MethodName)) ∈ Tb := tb_t (tt_2 45 rfl) rfl
theorem t2_46 : (Jvm.Cond.code ({ cls := "BlobStore", name := "countOpenSessions", desc := "()I" } : Jvm.MethodName) prog_1_method_29_code (3 : Nat) (Option.some Jvm.ClassFile.FieldType.int)) ∈ Tb := tb_t (tt_2 46 rfl) rfl
theorem t2_47 : (Jvm.Cond.methodLink "BlobStore" (198 : Nat) ({ cls := "BlobStore", name := "countLivingVersions", desc := "()I" } : Jvm.MethodName)) ∈ Tb := tb_t (tt_2 47 rfl) rfl
theorem u2_48 : (Jvm.Cond.privateMethod ({ cls := "BlobStore", name := "countLivingVersions", desc := "()I" } : Jvm.MethodName)) ∈ tables_1 := tt_2 48 rfl
theorem t2_49 : (Jvm.Cond.instanceMethod ({ cls := "BlobStore", name := "countLivingVersions", desc := "()I" } : Jvm.MethodName)) ∈ Tb := tb_t (tt_2 49 rfl) rfl
theorem t2_50 : (Jvm.Cond.code ({ cls := "BlobStore", name := "countLivingVersions", desc := "()I" } : Jvm.MethodName) prog_1_method_30_code (3 : Nat) (Option.some Jvm.ClassFile.FieldType.int)) ∈ Tb := tb_t (tt_2 50 rfl) rfl
theorem t2_51 : (Jvm.Cond.methodLink "BlobStoreLaw" (53 : Nat) ({ cls := "BlobStoreLaw", name := "begin", desc := "(LBlobStore;II[J)I" } : Jvm.MethodName)) ∈ Tb := tb_t (tt_2 51 rfl) rfl
theorem t2_52 : (Jvm.Cond.static ({ cls := "BlobStoreLaw", name := "begin", desc := "(LBlobStore;II[J)I" } : Jvm.MethodName)) ∈ Tb := tb_t (tt_2 52 rfl) rfl
theorem t2_53 : (Jvm.Cond.codeWith ({ cls := "BlobStoreLaw", name := "begin", desc := "(LBlobStore;II[J)I" } : Jvm.MethodName) method_3_code (5 : Nat) (Option.some Jvm.ClassFile.FieldType.int) [((0 : Nat), (10 : Nat), (13 : Nat), (13 : Nat)), ((0 : Nat), (10 : Nat), (17 : Nat), (15 : Nat)), ((0 : Nat), (10 : Nat), (21 : Nat), (17 : Nat))]) ∈ Tb := tb_t (tt_2 53 rfl) rfl
theorem t2_54 : (Jvm.Cond.classLink "BlobStoreLaw" (13 : Nat) "java/lang/IllegalStateException") ∈ Tb := tb_t (tt_2 54 rfl) rfl
theorem t2_55 : (Jvm.Cond.classLink "BlobStoreLaw" (15 : Nat) "java/lang/IllegalArgumentException") ∈ Tb := tb_t (tt_2 55 rfl) rfl
theorem t2_56 : (Jvm.Cond.classLink "BlobStoreLaw" (17 : Nat) "java/lang/UnsupportedOperationException") ∈ Tb := tb_t (tt_2 56 rfl) rfl
theorem t2_57 : (Jvm.Cond.methodLink "BlobStoreLaw" (7 : Nat) ({ cls := "BlobStore", name := "begin", desc := "(II)I" } : Jvm.MethodName)) ∈ Tb := tb_t (tt_2 57 rfl) rfl
theorem t2_58 : (Jvm.Cond.instanceMethod ({ cls := "BlobStore", name := "begin", desc := "(II)I" } : Jvm.MethodName)) ∈ Tb := tb_t (tt_2 58 rfl) rfl
theorem t2_59 : (Jvm.Cond.selects "BlobStore" ({ cls := "BlobStore", name := "begin", desc := "(II)I" } : Jvm.MethodName) ({ cls := "BlobStore", name := "begin", desc := "(II)I" } : Jvm.MethodName)) ∈ Tb := tb_t (tt_2 59 rfl) rfl
theorem t2_60 : (Jvm.Cond.code ({ cls := "BlobStore", name := "begin", desc := "(II)I" } : Jvm.MethodName) prog_1_method_2_code (4 : Nat) (Option.some Jvm.ClassFile.FieldType.int)) ∈ Tb := tb_t (tt_2 60 rfl) rfl
theorem n2_61 : (Jvm.Cond.methodLinkNest "BlobStore" (68 : Nat) ({ cls := "BlobStore$Power", name := "requireOn", desc := "()V" } : Jvm.MethodName) "BlobStore") ∈ bNst := tn_t (tt_2 61 rfl) rfl
theorem u2_62 : (Jvm.Cond.privateMethod ({ cls := "BlobStore$Power", name := "requireOn", desc := "()V" } : Jvm.MethodName)) ∈ tables_1 := tt_2 62 rfl
theorem t2_63 : (Jvm.Cond.instanceMethod ({ cls := "BlobStore$Power", name := "requireOn", desc := "()V" } : Jvm.MethodName)) ∈ Tb := tb_t (tt_2 63 rfl) rfl
theorem t2_64 : (Jvm.Cond.code ({ cls := "BlobStore$Power", name := "requireOn", desc := "()V" } : Jvm.MethodName) prog_3_method_2_code (1 : Nat) (Option.none : Option Jvm.ClassFile.FieldType)) ∈ Tb := tb_t (tt_2 64 rfl) rfl
theorem t2_65 : (Jvm.Cond.classLink "BlobStore$Power" (20 : Nat) "java/lang/IllegalStateException") ∈ Tb := tb_t (tt_2 65 rfl) rfl
theorem t2_66 : (Jvm.Cond.instantiable "java/lang/IllegalStateException" (6 : Nat)) ∈ Tb := tb_t (tt_2 66 rfl) rfl
theorem n2_67 : (Jvm.Cond.castable "java/lang/IllegalStateException" "java/lang/IllegalStateException") ∈ bNst := tn_t (tt_2 67 rfl) rfl
theorem n2_68 : (Jvm.Cond.declares ({ cls := "java/lang/RuntimeException", name := "<init>", desc := "()V" } : Jvm.MethodName)) ∈ bNst := tn_t (tt_2 68 rfl) rfl
theorem n2_69 : (Jvm.Cond.declares ({ cls := "java/lang/RuntimeException", name := "<init>", desc := "(Ljava/lang/String;)V" } : Jvm.MethodName)) ∈ bNst := tn_t (tt_2 69 rfl) rfl
theorem n2_70 : (Jvm.Cond.declares ({ cls := "java/lang/Exception", name := "<init>", desc := "()V" } : Jvm.MethodName)) ∈ bNst := tn_t (tt_2 70 rfl) rfl
theorem n2_71 : (Jvm.Cond.declares ({ cls := "java/lang/Exception", name := "<init>", desc := "(Ljava/lang/String;)V" } : Jvm.MethodName)) ∈ bNst := tn_t (tt_2 71 rfl) rfl
theorem n2_72 : (Jvm.Cond.declares ({ cls := "java/lang/Throwable", name := "<init>", desc := "()V" } : Jvm.MethodName)) ∈ bNst := tn_t (tt_2 72 rfl) rfl
theorem n2_73 : (Jvm.Cond.declares ({ cls := "java/lang/Throwable", name := "<init>", desc := "(Ljava/lang/String;)V" } : Jvm.MethodName)) ∈ bNst := tn_t (tt_2 73 rfl) rfl
theorem t2_74 : (Jvm.Cond.selects "java/lang/IllegalStateException" ({ cls := "java/lang/Throwable", name := "fillInStackTrace", desc := "(I)Ljava/lang/Throwable;" } : Jvm.MethodName) ({ cls := "java/lang/Throwable", name := "fillInStackTrace", desc := "(I)Ljava/lang/Throwable;" } : Jvm.MethodName)) ∈ Tb := tb_t (tt_2 74 rfl) rfl
theorem t2_75 : (Jvm.Cond.selects "java/lang/IllegalStateException" ({ cls := "java/lang/Throwable", name := "fillInStackTrace", desc := "()Ljava/lang/Throwable;" } : Jvm.MethodName) ({ cls := "java/lang/Throwable", name := "fillInStackTrace", desc := "()Ljava/lang/Throwable;" } : Jvm.MethodName)) ∈ Tb := tb_t (tt_2 75 rfl) rfl
theorem t2_76 : (Jvm.Cond.lays "java/lang/IllegalStateException" "java/lang/Throwable" "cause" "Ljava/lang/Throwable;") ∈ Tb := tb_t (tt_2 76 rfl) rfl
theorem t2_77 : (Jvm.Cond.lays "java/lang/Throwable" "java/lang/Throwable" "cause" "Ljava/lang/Throwable;") ∈ Tb := tb_t (tt_2 77 rfl) rfl
theorem t2_78 : (Jvm.Cond.lays "java/lang/IllegalStateException" "java/lang/Throwable" "stackTrace" "[Ljava/lang/StackTraceElement;") ∈ Tb := tb_t (tt_2 78 rfl) rfl
theorem t2_79 : (Jvm.Cond.lays "java/lang/Throwable" "java/lang/Throwable" "stackTrace" "[Ljava/lang/StackTraceElement;") ∈ Tb := tb_t (tt_2 79 rfl) rfl
theorem t2_80 : (Jvm.Cond.lays "java/lang/IllegalStateException" "java/lang/Throwable" "suppressedExceptions" "Ljava/util/List;") ∈ Tb := tb_t (tt_2 80 rfl) rfl
theorem t2_81 : (Jvm.Cond.lays "java/lang/Throwable" "java/lang/Throwable" "suppressedExceptions" "Ljava/util/List;") ∈ Tb := tb_t (tt_2 81 rfl) rfl
theorem t2_82 : (Jvm.Cond.lays "java/lang/IllegalStateException" "java/lang/Throwable" "detailMessage" "Ljava/lang/String;") ∈ Tb := tb_t (tt_2 82 rfl) rfl
theorem t2_83 : (Jvm.Cond.lays "java/lang/Throwable" "java/lang/Throwable" "detailMessage" "Ljava/lang/String;") ∈ Tb := tb_t (tt_2 83 rfl) rfl
theorem t2_84 : (Jvm.Cond.lays "java/lang/IllegalStateException" "java/lang/Throwable" "backtrace" "Ljava/lang/Object;") ∈ Tb := tb_t (tt_2 84 rfl) rfl
theorem t2_85 : (Jvm.Cond.lays "java/lang/Throwable" "java/lang/Throwable" "backtrace" "Ljava/lang/Object;") ∈ Tb := tb_t (tt_2 85 rfl) rfl
theorem t2_86 : (Jvm.Cond.fieldLink "java/lang/Throwable" (198 : Nat) "java/lang/Throwable" "backtrace" "Ljava/lang/Object;") ∈ Tb := tb_t (tt_2 86 rfl) rfl
theorem t2_87 : (Jvm.Cond.superclass "java/lang/Throwable" "java/lang/Object") ∈ Tb := tb_t (tt_2 87 rfl) rfl
theorem t2_88 : (Jvm.Cond.instanceMethod ({ cls := "java/lang/Throwable", name := "<init>", desc := "()V" } : Jvm.MethodName)) ∈ Tb := tb_t (tt_2 88 rfl) rfl
theorem t2_89 : (Jvm.Cond.code ({ cls := "java/lang/Throwable", name := "<init>", desc := "()V" } : Jvm.MethodName) prog_18_method_1_code (1 : Nat) (Option.none : Option Jvm.ClassFile.FieldType)) ∈ Tb := tb_t (tt_2 89 rfl) rfl
theorem t2_90 : (Jvm.Cond.methodLink "java/lang/Throwable" (1 : Nat) ({ cls := "java/lang/Object", name := "<init>", desc := "()V" } : Jvm.MethodName)) ∈ Tb := tb_t (tt_2 90 rfl) rfl
theorem t2_91 : (Jvm.Cond.fieldLink "java/lang/Throwable" (13 : Nat) "java/lang/Throwable" "UNASSIGNED_STACK" "[Ljava/lang/StackTraceElement;") ∈ Tb := tb_t (tt_2 91 rfl) rfl
theorem u2_92 : (Jvm.Cond.laysStatic "java/lang/Throwable" "UNASSIGNED_STACK" "[Ljava/lang/StackTraceElement;") ∈ tables_1 := tt_2 92 rfl
theorem t2_93 : (Jvm.Cond.fieldLink "java/lang/Throwable" (20 : Nat) "java/lang/Throwable" "SUPPRESSED_SENTINEL" "Ljava/util/List;") ∈ Tb := tb_t (tt_2 93 rfl) rfl
theorem u2_94 : (Jvm.Cond.laysStatic "java/lang/Throwable" "SUPPRESSED_SENTINEL" "Ljava/util/List;") ∈ tables_1 := tt_2 94 rfl
theorem t2_95 : (Jvm.Cond.methodLink "java/lang/Throwable" (27 : Nat) ({ cls := "java/lang/Throwable", name := "fillInStackTrace", desc := "()Ljava/lang/Throwable;" } : Jvm.MethodName)) ∈ Tb := tb_t (tt_2 95 rfl) rfl
theorem t2_96 : (Jvm.Cond.instanceMethod ({ cls := "java/lang/Throwable", name := "fillInStackTrace", desc := "()Ljava/lang/Throwable;" } : Jvm.MethodName)) ∈ Tb := tb_t (tt_2 96 rfl) rfl
theorem u2_97 : (Jvm.Cond.sameMethod "java/lang/Throwable" "java/lang/Throwable" "fillInStackTrace" "()Ljava/lang/Throwable;") ∈ tables_1 := tt_2 97 rfl
theorem t2_98 : (Jvm.Cond.selects "java/lang/IllegalArgumentException" ({ cls := "java/lang/Throwable", name := "fillInStackTrace", desc := "()Ljava/lang/Throwable;" } : Jvm.MethodName) ({ cls := "java/lang/Throwable", name := "fillInStackTrace", desc := "()Ljava/lang/Throwable;" } : Jvm.MethodName)) ∈ Tb := tb_t (tt_2 98 rfl) rfl
theorem t2_99 : (Jvm.Cond.selects "java/lang/IndexOutOfBoundsException" ({ cls := "java/lang/Throwable", name := "fillInStackTrace", desc := "()Ljava/lang/Throwable;" } : Jvm.MethodName) ({ cls := "java/lang/Throwable", name := "fillInStackTrace", desc := "()Ljava/lang/Throwable;" } : Jvm.MethodName)) ∈ Tb := tb_t (tt_2 99 rfl) rfl
theorem t2_100 : (Jvm.Cond.selects "java/lang/UnsupportedOperationException" ({ cls := "java/lang/Throwable", name := "fillInStackTrace", desc := "()Ljava/lang/Throwable;" } : Jvm.MethodName) ({ cls := "java/lang/Throwable", name := "fillInStackTrace", desc := "()Ljava/lang/Throwable;" } : Jvm.MethodName)) ∈ Tb := tb_t (tt_2 100 rfl) rfl
theorem t2_101 : (Jvm.Cond.selects "java/util/NoSuchElementException" ({ cls := "java/lang/Throwable", name := "fillInStackTrace", desc := "()Ljava/lang/Throwable;" } : Jvm.MethodName) ({ cls := "java/lang/Throwable", name := "fillInStackTrace", desc := "()Ljava/lang/Throwable;" } : Jvm.MethodName)) ∈ Tb := tb_t (tt_2 101 rfl) rfl
theorem t2_102 : (Jvm.Cond.codeSync ({ cls := "java/lang/Throwable", name := "fillInStackTrace", desc := "()Ljava/lang/Throwable;" } : Jvm.MethodName) prog_18_method_18_code (1 : Nat) (Option.some (Jvm.ClassFile.FieldType.object "java/lang/Throwable"))) ∈ Tb := tb_t (tt_2 102 rfl) rfl
theorem t2_103 : (Jvm.Cond.methodLink "java/lang/Throwable" (202 : Nat) ({ cls := "java/lang/Throwable", name := "fillInStackTrace", desc := "(I)Ljava/lang/Throwable;" } : Jvm.MethodName)) ∈ Tb := tb_t (tt_2 103 rfl) rfl
theorem u2_104 : (Jvm.Cond.privateMethod ({ cls := "java/lang/Throwable", name := "fillInStackTrace", desc := "(I)Ljava/lang/Throwable;" } : Jvm.MethodName)) ∈ tables_1 := tt_2 104 rfl
theorem t2_105 : (Jvm.Cond.instanceMethod ({ cls := "java/lang/Throwable", name := "fillInStackTrace", desc := "(I)Ljava/lang/Throwable;" } : Jvm.MethodName)) ∈ Tb := tb_t (tt_2 105 rfl) rfl
theorem t2_106 : (Jvm.Cond.instantiable "java/lang/Throwable" (6 : Nat)) ∈ Tb := tb_t (tt_2 106 rfl) rfl
theorem t2_107 : (Jvm.Cond.native ({ cls := "java/lang/Throwable", name := "fillInStackTrace", desc := "(I)Ljava/lang/Throwable;" } : Jvm.MethodName)) ∈ Tb := tb_t (tt_2 107 rfl) rfl
theorem u2_108 : (Jvm.Cond.stringRef "BlobStore$Power" (22 : Nat) "the store is down") ∈ tables_1 := tt_2 108 rfl
theorem t2_109 : (Jvm.Cond.methodLink "BlobStore$Power" (24 : Nat) ({ cls := "java/lang/IllegalStateException", name := "<init>", desc := "(Ljava/lang/String;)V" } : Jvm.MethodName)) ∈ Tb := tb_t (tt_2 109 rfl) rfl
theorem t2_110 : (Jvm.Cond.instanceMethod ({ cls := "java/lang/IllegalStateException", name := "<init>", desc := "(Ljava/lang/String;)V" } : Jvm.MethodName)) ∈ Tb := tb_t (tt_2 110 rfl) rfl
theorem t2_111 : (Jvm.Cond.code ({ cls := "java/lang/IllegalStateException", name := "<init>", desc := "(Ljava/lang/String;)V" } : Jvm.MethodName) prog_12_method_2_code (2 : Nat) (Option.none : Option Jvm.ClassFile.FieldType)) ∈ Tb := tb_t (tt_2 111 rfl) rfl
theorem t2_112 : (Jvm.Cond.methodLink "java/lang/IllegalStateException" (7 : Nat) ({ cls := "java/lang/RuntimeException", name := "<init>", desc := "(Ljava/lang/String;)V" } : Jvm.MethodName)) ∈ Tb := tb_t (tt_2 112 rfl) rfl
theorem t2_113 : (Jvm.Cond.instanceMethod ({ cls := "java/lang/RuntimeException", name := "<init>", desc := "(Ljava/lang/String;)V" } : Jvm.MethodName)) ∈ Tb := tb_t (tt_2 113 rfl) rfl
theorem t2_114 : (Jvm.Cond.code ({ cls := "java/lang/RuntimeException", name := "<init>", desc := "(Ljava/lang/String;)V" } : Jvm.MethodName) prog_15_method_2_code (2 : Nat) (Option.none : Option Jvm.ClassFile.FieldType)) ∈ Tb := tb_t (tt_2 114 rfl) rfl
theorem t2_115 : (Jvm.Cond.methodLink "java/lang/RuntimeException" (7 : Nat) ({ cls := "java/lang/Exception", name := "<init>", desc := "(Ljava/lang/String;)V" } : Jvm.MethodName)) ∈ Tb := tb_t (tt_2 115 rfl) rfl
theorem t2_116 : (Jvm.Cond.instanceMethod ({ cls := "java/lang/Exception", name := "<init>", desc := "(Ljava/lang/String;)V" } : Jvm.MethodName)) ∈ Tb := tb_t (tt_2 116 rfl) rfl
theorem t2_117 : (Jvm.Cond.code ({ cls := "java/lang/Exception", name := "<init>", desc := "(Ljava/lang/String;)V" } : Jvm.MethodName) prog_10_method_2_code (2 : Nat) (Option.none : Option Jvm.ClassFile.FieldType)) ∈ Tb := tb_t (tt_2 117 rfl) rfl
theorem t2_118 : (Jvm.Cond.methodLink "java/lang/Exception" (7 : Nat) ({ cls := "java/lang/Throwable", name := "<init>", desc := "(Ljava/lang/String;)V" } : Jvm.MethodName)) ∈ Tb := tb_t (tt_2 118 rfl) rfl
theorem t2_119 : (Jvm.Cond.instanceMethod ({ cls := "java/lang/Throwable", name := "<init>", desc := "(Ljava/lang/String;)V" } : Jvm.MethodName)) ∈ Tb := tb_t (tt_2 119 rfl) rfl
theorem t2_120 : (Jvm.Cond.code ({ cls := "java/lang/Throwable", name := "<init>", desc := "(Ljava/lang/String;)V" } : Jvm.MethodName) prog_18_method_2_code (2 : Nat) (Option.none : Option Jvm.ClassFile.FieldType)) ∈ Tb := tb_t (tt_2 120 rfl) rfl
theorem t2_122 : (Jvm.Cond.fieldLink "java/lang/Throwable" (31 : Nat) "java/lang/Throwable" "detailMessage" "Ljava/lang/String;") ∈ Tb := tb_t (tt_2 122 rfl) rfl
theorem t2_123 : (Jvm.Cond.fieldLink "java/lang/Throwable" (7 : Nat) "java/lang/Throwable" "cause" "Ljava/lang/Throwable;") ∈ Tb := tb_t (tt_2 123 rfl) rfl
theorem t2_124 : (Jvm.Cond.fieldLink "java/lang/Throwable" (17 : Nat) "java/lang/Throwable" "stackTrace" "[Ljava/lang/StackTraceElement;") ∈ Tb := tb_t (tt_2 124 rfl) rfl
theorem t2_125 : (Jvm.Cond.fieldLink "java/lang/Throwable" (24 : Nat) "java/lang/Throwable" "suppressedExceptions" "Ljava/util/List;") ∈ Tb := tb_t (tt_2 125 rfl) rfl
theorem u2_126 : (Jvm.Cond.soleField "java/lang/Throwable" "backtrace") ∈ tables_1 := tt_2 126 rfl
theorem u2_127 : (Jvm.Cond.soleField "java/lang/Throwable" "detailMessage") ∈ tables_1 := tt_2 127 rfl
theorem u2_128 : (Jvm.Cond.soleField "java/lang/Throwable" "cause") ∈ tables_1 := tt_2 128 rfl
theorem u2_129 : (Jvm.Cond.soleField "java/lang/Throwable" "stackTrace") ∈ tables_1 := tt_2 129 rfl
theorem t2_130 : (Jvm.Cond.lays "java/lang/IllegalStateException" "java/lang/Throwable" "depth" "I") ∈ Tb := tb_t (tt_2 130 rfl) rfl
theorem u2_131 : (Jvm.Cond.soleField "java/lang/Throwable" "depth") ∈ tables_1 := tt_2 131 rfl
theorem u2_132 : (Jvm.Cond.soleField "java/lang/Throwable" "suppressedExceptions") ∈ tables_1 := tt_2 132 rfl
theorem t2_133 : (Jvm.Cond.superclass "java/lang/IllegalStateException" "java/lang/RuntimeException") ∈ Tb := tb_t (tt_2 133 rfl) rfl
theorem t2_134 : (Jvm.Cond.arrayClass Jvm.ClassFile.FieldType.byte) ∈ Tb := tb_t (tt_2 134 rfl) rfl
theorem t2_135 : (Jvm.Cond.methodLink "BlobStore" (71 : Nat) ({ cls := "BlobStore", name := "leastClosedSession", desc := "()I" } : Jvm.MethodName)) ∈ Tb := tb_t (tt_2 135 rfl) rfl
theorem u2_136 : (Jvm.Cond.privateMethod ({ cls := "BlobStore", name := "leastClosedSession", desc := "()I" } : Jvm.MethodName)) ∈ tables_1 := tt_2 136 rfl
theorem t2_137 : (Jvm.Cond.instanceMethod ({ cls := "BlobStore", name := "leastClosedSession", desc := "()I" } : Jvm.MethodName)) ∈ Tb := tb_t (tt_2 137 rfl) rfl
theorem t2_138 : (Jvm.Cond.code ({ cls := "BlobStore", name := "leastClosedSession", desc := "()I" } : Jvm.MethodName) prog_1_method_17_code (2 : Nat) (Option.some Jvm.ClassFile.FieldType.int)) ∈ Tb := tb_t (tt_2 138 rfl) rfl
theorem t2_139 : (Jvm.Cond.classLink "BlobStore" (75 : Nat) "java/lang/IllegalStateException") ∈ Tb := tb_t (tt_2 139 rfl) rfl
theorem u2_140 : (Jvm.Cond.stringRef "BlobStore" (77 : Nat) "all sessions are open") ∈ tables_1 := tt_2 140 rfl
theorem t2_141 : (Jvm.Cond.methodLink "BlobStore" (79 : Nat) ({ cls := "java/lang/IllegalStateException", name := "<init>", desc := "(Ljava/lang/String;)V" } : Jvm.MethodName)) ∈ Tb := tb_t (tt_2 141 rfl) rfl
theorem t2_142 : (Jvm.Cond.classLink "BlobStore" (82 : Nat) "java/lang/IllegalArgumentException") ∈ Tb := tb_t (tt_2 142 rfl) rfl
theorem t2_143 : (Jvm.Cond.instantiable "java/lang/IllegalArgumentException" (6 : Nat)) ∈ Tb := tb_t (tt_2 143 rfl) rfl
theorem n2_144 : (Jvm.Cond.castable "java/lang/IllegalArgumentException" "java/lang/IllegalArgumentException") ∈ bNst := tn_t (tt_2 144 rfl) rfl
theorem t2_145 : (Jvm.Cond.selects "java/lang/IllegalArgumentException" ({ cls := "java/lang/Throwable", name := "fillInStackTrace", desc := "(I)Ljava/lang/Throwable;" } : Jvm.MethodName) ({ cls := "java/lang/Throwable", name := "fillInStackTrace", desc := "(I)Ljava/lang/Throwable;" } : Jvm.MethodName)) ∈ Tb := tb_t (tt_2 145 rfl) rfl
theorem t2_146 : (Jvm.Cond.lays "java/lang/IllegalArgumentException" "java/lang/Throwable" "cause" "Ljava/lang/Throwable;") ∈ Tb := tb_t (tt_2 146 rfl) rfl
theorem t2_147 : (Jvm.Cond.lays "java/lang/IllegalArgumentException" "java/lang/Throwable" "stackTrace" "[Ljava/lang/StackTraceElement;") ∈ Tb := tb_t (tt_2 147 rfl) rfl
theorem t2_148 : (Jvm.Cond.lays "java/lang/IllegalArgumentException" "java/lang/Throwable" "suppressedExceptions" "Ljava/util/List;") ∈ Tb := tb_t (tt_2 148 rfl) rfl
theorem t2_149 : (Jvm.Cond.lays "java/lang/IllegalArgumentException" "java/lang/Throwable" "detailMessage" "Ljava/lang/String;") ∈ Tb := tb_t (tt_2 149 rfl) rfl
theorem t2_150 : (Jvm.Cond.lays "java/lang/IllegalArgumentException" "java/lang/Throwable" "backtrace" "Ljava/lang/Object;") ∈ Tb := tb_t (tt_2 150 rfl) rfl
theorem u2_151 : (Jvm.Cond.stringRef "BlobStore" (84 : Nat) "no such bucket or key") ∈ tables_1 := tt_2 151 rfl
theorem t2_152 : (Jvm.Cond.methodLink "BlobStore" (86 : Nat) ({ cls := "java/lang/IllegalArgumentException", name := "<init>", desc := "(Ljava/lang/String;)V" } : Jvm.MethodName)) ∈ Tb := tb_t (tt_2 152 rfl) rfl
theorem t2_153 : (Jvm.Cond.instanceMethod ({ cls := "java/lang/IllegalArgumentException", name := "<init>", desc := "(Ljava/lang/String;)V" } : Jvm.MethodName)) ∈ Tb := tb_t (tt_2 153 rfl) rfl
theorem t2_154 : (Jvm.Cond.code ({ cls := "java/lang/IllegalArgumentException", name := "<init>", desc := "(Ljava/lang/String;)V" } : Jvm.MethodName) prog_11_method_2_code (2 : Nat) (Option.none : Option Jvm.ClassFile.FieldType)) ∈ Tb := tb_t (tt_2 154 rfl) rfl
theorem t2_155 : (Jvm.Cond.methodLink "java/lang/IllegalArgumentException" (7 : Nat) ({ cls := "java/lang/RuntimeException", name := "<init>", desc := "(Ljava/lang/String;)V" } : Jvm.MethodName)) ∈ Tb := tb_t (tt_2 155 rfl) rfl
theorem t2_156 : (Jvm.Cond.lays "java/lang/IllegalArgumentException" "java/lang/Throwable" "depth" "I") ∈ Tb := tb_t (tt_2 156 rfl) rfl
theorem t2_157 : (Jvm.Cond.superclass "java/lang/IllegalArgumentException" "java/lang/RuntimeException") ∈ Tb := tb_t (tt_2 157 rfl) rfl
theorem n2_158 : (Jvm.Cond.methodLinkNest "BlobStore" (87 : Nat) ({ cls := "BlobStore$Power", name := "spendWrite", desc := "()V" } : Jvm.MethodName) "BlobStore") ∈ bNst := tn_t (tt_2 158 rfl) rfl
theorem u2_159 : (Jvm.Cond.privateMethod ({ cls := "BlobStore$Power", name := "spendWrite", desc := "()V" } : Jvm.MethodName)) ∈ tables_1 := tt_2 159 rfl
theorem t2_160 : (Jvm.Cond.instanceMethod ({ cls := "BlobStore$Power", name := "spendWrite", desc := "()V" } : Jvm.MethodName)) ∈ Tb := tb_t (tt_2 160 rfl) rfl
theorem t2_161 : (Jvm.Cond.code ({ cls := "BlobStore$Power", name := "spendWrite", desc := "()V" } : Jvm.MethodName) prog_3_method_3_code (1 : Nat) (Option.none : Option Jvm.ClassFile.FieldType)) ∈ Tb := tb_t (tt_2 161 rfl) rfl
theorem t2_162 : (Jvm.Cond.classLink "BlobStore$Power" (27 : Nat) "java/lang/UnsupportedOperationException") ∈ Tb := tb_t (tt_2 162 rfl) rfl
theorem t2_163 : (Jvm.Cond.instantiable "java/lang/UnsupportedOperationException" (6 : Nat)) ∈ Tb := tb_t (tt_2 163 rfl) rfl
theorem n2_164 : (Jvm.Cond.castable "java/lang/UnsupportedOperationException" "java/lang/UnsupportedOperationException") ∈ bNst := tn_t (tt_2 164 rfl) rfl
theorem t2_165 : (Jvm.Cond.selects "java/lang/UnsupportedOperationException" ({ cls := "java/lang/Throwable", name := "fillInStackTrace", desc := "(I)Ljava/lang/Throwable;" } : Jvm.MethodName) ({ cls := "java/lang/Throwable", name := "fillInStackTrace", desc := "(I)Ljava/lang/Throwable;" } : Jvm.MethodName)) ∈ Tb := tb_t (tt_2 165 rfl) rfl
theorem t2_166 : (Jvm.Cond.lays "java/lang/UnsupportedOperationException" "java/lang/Throwable" "cause" "Ljava/lang/Throwable;") ∈ Tb := tb_t (tt_2 166 rfl) rfl
theorem t2_167 : (Jvm.Cond.lays "java/lang/UnsupportedOperationException" "java/lang/Throwable" "stackTrace" "[Ljava/lang/StackTraceElement;") ∈ Tb := tb_t (tt_2 167 rfl) rfl
theorem t2_168 : (Jvm.Cond.lays "java/lang/UnsupportedOperationException" "java/lang/Throwable" "suppressedExceptions" "Ljava/util/List;") ∈ Tb := tb_t (tt_2 168 rfl) rfl
theorem t2_169 : (Jvm.Cond.lays "java/lang/UnsupportedOperationException" "java/lang/Throwable" "detailMessage" "Ljava/lang/String;") ∈ Tb := tb_t (tt_2 169 rfl) rfl
theorem t2_170 : (Jvm.Cond.lays "java/lang/UnsupportedOperationException" "java/lang/Throwable" "backtrace" "Ljava/lang/Object;") ∈ Tb := tb_t (tt_2 170 rfl) rfl
theorem u2_171 : (Jvm.Cond.stringRef "BlobStore$Power" (29 : Nat) "the power is gone") ∈ tables_1 := tt_2 171 rfl
theorem t2_172 : (Jvm.Cond.methodLink "BlobStore$Power" (31 : Nat) ({ cls := "java/lang/UnsupportedOperationException", name := "<init>", desc := "(Ljava/lang/String;)V" } : Jvm.MethodName)) ∈ Tb := tb_t (tt_2 172 rfl) rfl
theorem t2_173 : (Jvm.Cond.instanceMethod ({ cls := "java/lang/UnsupportedOperationException", name := "<init>", desc := "(Ljava/lang/String;)V" } : Jvm.MethodName)) ∈ Tb := tb_t (tt_2 173 rfl) rfl
theorem t2_174 : (Jvm.Cond.code ({ cls := "java/lang/UnsupportedOperationException", name := "<init>", desc := "(Ljava/lang/String;)V" } : Jvm.MethodName) prog_19_method_2_code (2 : Nat) (Option.none : Option Jvm.ClassFile.FieldType)) ∈ Tb := tb_t (tt_2 174 rfl) rfl
theorem t2_175 : (Jvm.Cond.methodLink "java/lang/UnsupportedOperationException" (7 : Nat) ({ cls := "java/lang/RuntimeException", name := "<init>", desc := "(Ljava/lang/String;)V" } : Jvm.MethodName)) ∈ Tb := tb_t (tt_2 175 rfl) rfl
theorem t2_176 : (Jvm.Cond.lays "java/lang/UnsupportedOperationException" "java/lang/Throwable" "depth" "I") ∈ Tb := tb_t (tt_2 176 rfl) rfl
theorem t2_177 : (Jvm.Cond.superclass "java/lang/UnsupportedOperationException" "java/lang/RuntimeException") ∈ Tb := tb_t (tt_2 177 rfl) rfl
theorem n2_178 : (Jvm.Cond.methodLinkNest "BlobStore" (90 : Nat) ({ cls := "BlobStore$Session", name := "start", desc := "(II)V" } : Jvm.MethodName) "BlobStore") ∈ bNst := tn_t (tt_2 178 rfl) rfl
theorem u2_179 : (Jvm.Cond.privateMethod ({ cls := "BlobStore$Session", name := "start", desc := "(II)V" } : Jvm.MethodName)) ∈ tables_1 := tt_2 179 rfl
theorem t2_180 : (Jvm.Cond.instanceMethod ({ cls := "BlobStore$Session", name := "start", desc := "(II)V" } : Jvm.MethodName)) ∈ Tb := tb_t (tt_2 180 rfl) rfl
theorem t2_181 : (Jvm.Cond.code ({ cls := "BlobStore$Session", name := "start", desc := "(II)V" } : Jvm.MethodName) prog_5_method_2_code (4 : Nat) (Option.none : Option Jvm.ClassFile.FieldType)) ∈ Tb := tb_t (tt_2 181 rfl) rfl
theorem t2_182 : (Jvm.Cond.methodLink "BlobStoreLaw" (64 : Nat) ({ cls := "BlobStoreLaw", name := "part", desc := "(LBlobStore;IIIJJJ[J)I" } : Jvm.MethodName)) ∈ Tb := tb_t (tt_2 182 rfl) rfl
theorem t2_183 : (Jvm.Cond.static ({ cls := "BlobStoreLaw", name := "part", desc := "(LBlobStore;IIIJJJ[J)I" } : Jvm.MethodName)) ∈ Tb := tb_t (tt_2 183 rfl) rfl
theorem t2_184 : (Jvm.Cond.codeWith ({ cls := "BlobStoreLaw", name := "part", desc := "(LBlobStore;IIIJJJ[J)I" } : Jvm.MethodName) method_4_code (12 : Nat) (Option.some Jvm.ClassFile.FieldType.int) [((0 : Nat), (18 : Nat), (21 : Nat), (13 : Nat)), ((0 : Nat), (18 : Nat), (25 : Nat), (15 : Nat)), ((0 : Nat), (18 : Nat), (29 : Nat), (23 : Nat)), ((0 : Nat), (18 : Nat), (33 : Nat), (17 : Nat))]) ∈ Tb := tb_t (tt_2 184 rfl) rfl
theorem t2_185 : (Jvm.Cond.classLink "BlobStoreLaw" (23 : Nat) "java/lang/IndexOutOfBoundsException") ∈ Tb := tb_t (tt_2 185 rfl) rfl
theorem t2_186 : (Jvm.Cond.methodLink "BlobStoreLaw" (19 : Nat) ({ cls := "BlobStore", name := "part", desc := "(IIIJJJ)I" } : Jvm.MethodName)) ∈ Tb := tb_t (tt_2 186 rfl) rfl
theorem t2_187 : (Jvm.Cond.instanceMethod ({ cls := "BlobStore", name := "part", desc := "(IIIJJJ)I" } : Jvm.MethodName)) ∈ Tb := tb_t (tt_2 187 rfl) rfl
theorem t2_188 : (Jvm.Cond.selects "BlobStore" ({ cls := "BlobStore", name := "part", desc := "(IIIJJJ)I" } : Jvm.MethodName) ({ cls := "BlobStore", name := "part", desc := "(IIIJJJ)I" } : Jvm.MethodName)) ∈ Tb := tb_t (tt_2 188 rfl) rfl
theorem t2_189 : (Jvm.Cond.code ({ cls := "BlobStore", name := "part", desc := "(IIIJJJ)I" } : Jvm.MethodName) prog_1_method_3_code (13 : Nat) (Option.some Jvm.ClassFile.FieldType.int)) ∈ Tb := tb_t (tt_2 189 rfl) rfl
theorem t2_190 : (Jvm.Cond.methodLink "BlobStore" (94 : Nat) ({ cls := "BlobStore", name := "openSession", desc := "(I)LBlobStore$Session;" } : Jvm.MethodName)) ∈ Tb := tb_t (tt_2 190 rfl) rfl
theorem u2_191 : (Jvm.Cond.privateMethod ({ cls := "BlobStore", name := "openSession", desc := "(I)LBlobStore$Session;" } : Jvm.MethodName)) ∈ tables_1 := tt_2 191 rfl
theorem t2_192 : (Jvm.Cond.instanceMethod ({ cls := "BlobStore", name := "openSession", desc := "(I)LBlobStore$Session;" } : Jvm.MethodName)) ∈ Tb := tb_t (tt_2 192 rfl) rfl
theorem t2_193 : (Jvm.Cond.code ({ cls := "BlobStore", name := "openSession", desc := "(I)LBlobStore$Session;" } : Jvm.MethodName) prog_1_method_18_code (2 : Nat) (Option.some (Jvm.ClassFile.FieldType.object "BlobStore$Session"))) ∈ Tb := tb_t (tt_2 193 rfl) rfl
theorem u2_194 : (Jvm.Cond.stringRef "BlobStore" (207 : Nat) "no such session is open") ∈ tables_1 := tt_2 194 rfl
theorem u2_195 : (Jvm.Cond.stringRef "BlobStore" (98 : Nat) "no such part number or count of bytes") ∈ tables_1 := tt_2 195 rfl
theorem t2_196 : (Jvm.Cond.methodLink "BlobStore" (100 : Nat) ({ cls := "BlobStore", name := "cutIntoChunks", desc := "(IJJJ)I" } : Jvm.MethodName)) ∈ Tb := tb_t (tt_2 196 rfl) rfl
theorem u2_197 : (Jvm.Cond.privateMethod ({ cls := "BlobStore", name := "cutIntoChunks", desc := "(IJJJ)I" } : Jvm.MethodName)) ∈ tables_1 := tt_2 197 rfl
theorem t2_198 : (Jvm.Cond.instanceMethod ({ cls := "BlobStore", name := "cutIntoChunks", desc := "(IJJJ)I" } : Jvm.MethodName)) ∈ Tb := tb_t (tt_2 198 rfl) rfl
theorem t2_199 : (Jvm.Cond.code ({ cls := "BlobStore", name := "cutIntoChunks", desc := "(IJJJ)I" } : Jvm.MethodName) prog_1_method_23_code (12 : Nat) (Option.some Jvm.ClassFile.FieldType.int)) ∈ Tb := tb_t (tt_2 199 rfl) rfl
theorem t2_200 : (Jvm.Cond.methodLink "BlobStore" (213 : Nat) ({ cls := "java/lang/Math", name := "min", desc := "(II)I" } : Jvm.MethodName)) ∈ Tb := tb_t (tt_2 200 rfl) rfl
theorem t2_201 : (Jvm.Cond.static ({ cls := "java/lang/Math", name := "min", desc := "(II)I" } : Jvm.MethodName)) ∈ Tb := tb_t (tt_2 201 rfl) rfl
theorem t2_202 : (Jvm.Cond.code ({ cls := "java/lang/Math", name := "min", desc := "(II)I" } : Jvm.MethodName) prog_14_method_69_code (2 : Nat) (Option.some Jvm.ClassFile.FieldType.int)) ∈ Tb := tb_t (tt_2 202 rfl) rfl
theorem t2_203 : (Jvm.Cond.methodLink "BlobStore" (104 : Nat) ({ cls := "BlobStore", name := "planSlots", desc := "(I)V" } : Jvm.MethodName)) ∈ Tb := tb_t (tt_2 203 rfl) rfl
theorem u2_204 : (Jvm.Cond.privateMethod ({ cls := "BlobStore", name := "planSlots", desc := "(I)V" } : Jvm.MethodName)) ∈ tables_1 := tt_2 204 rfl
theorem t2_205 : (Jvm.Cond.instanceMethod ({ cls := "BlobStore", name := "planSlots", desc := "(I)V" } : Jvm.MethodName)) ∈ Tb := tb_t (tt_2 205 rfl) rfl
theorem t2_206 : (Jvm.Cond.code ({ cls := "BlobStore", name := "planSlots", desc := "(I)V" } : Jvm.MethodName) prog_1_method_24_code (5 : Nat) (Option.none : Option Jvm.ClassFile.FieldType)) ∈ Tb := tb_t (tt_2 206 rfl) rfl
theorem t2_207 : (Jvm.Cond.methodLink "BlobStore" (219 : Nat) ({ cls := "BlobStore", name := "plannedSlot", desc := "(I)I" } : Jvm.MethodName)) ∈ Tb := tb_t (tt_2 207 rfl) rfl
theorem u2_208 : (Jvm.Cond.privateMethod ({ cls := "BlobStore", name := "plannedSlot", desc := "(I)I" } : Jvm.MethodName)) ∈ tables_1 := tt_2 208 rfl
theorem t2_209 : (Jvm.Cond.instanceMethod ({ cls := "BlobStore", name := "plannedSlot", desc := "(I)I" } : Jvm.MethodName)) ∈ Tb := tb_t (tt_2 209 rfl) rfl
theorem t2_210 : (Jvm.Cond.code ({ cls := "BlobStore", name := "plannedSlot", desc := "(I)I" } : Jvm.MethodName) prog_1_method_25_code (3 : Nat) (Option.some Jvm.ClassFile.FieldType.int)) ∈ Tb := tb_t (tt_2 210 rfl) rfl
theorem t2_211 : (Jvm.Cond.methodLink "BlobStore" (222 : Nat) ({ cls := "BlobStore", name := "leastFreeSlot", desc := "(I)I" } : Jvm.MethodName)) ∈ Tb := tb_t (tt_2 211 rfl) rfl
theorem u2_212 : (Jvm.Cond.privateMethod ({ cls := "BlobStore", name := "leastFreeSlot", desc := "(I)I" } : Jvm.MethodName)) ∈ tables_1 := tt_2 212 rfl
theorem t2_213 : (Jvm.Cond.instanceMethod ({ cls := "BlobStore", name := "leastFreeSlot", desc := "(I)I" } : Jvm.MethodName)) ∈ Tb := tb_t (tt_2 213 rfl) rfl
theorem t2_214 : (Jvm.Cond.code ({ cls := "BlobStore", name := "leastFreeSlot", desc := "(I)I" } : Jvm.MethodName) prog_1_method_22_code (3 : Nat) (Option.some Jvm.ClassFile.FieldType.int)) ∈ Tb := tb_t (tt_2 214 rfl) rfl
theorem t2_215 : (Jvm.Cond.classLink "BlobStore" (225 : Nat) "java/lang/IndexOutOfBoundsException") ∈ Tb := tb_t (tt_2 215 rfl) rfl
theorem t2_216 : (Jvm.Cond.instantiable "java/lang/IndexOutOfBoundsException" (6 : Nat)) ∈ Tb := tb_t (tt_2 216 rfl) rfl
theorem n2_217 : (Jvm.Cond.castable "java/lang/IndexOutOfBoundsException" "java/lang/IndexOutOfBoundsException") ∈ bNst := tn_t (tt_2 217 rfl) rfl
theorem t2_218 : (Jvm.Cond.selects "java/lang/IndexOutOfBoundsException" ({ cls := "java/lang/Throwable", name := "fillInStackTrace", desc := "(I)Ljava/lang/Throwable;" } : Jvm.MethodName) ({ cls := "java/lang/Throwable", name := "fillInStackTrace", desc := "(I)Ljava/lang/Throwable;" } : Jvm.MethodName)) ∈ Tb := tb_t (tt_2 218 rfl) rfl
theorem t2_219 : (Jvm.Cond.lays "java/lang/IndexOutOfBoundsException" "java/lang/Throwable" "cause" "Ljava/lang/Throwable;") ∈ Tb := tb_t (tt_2 219 rfl) rfl
theorem t2_220 : (Jvm.Cond.lays "java/lang/IndexOutOfBoundsException" "java/lang/Throwable" "stackTrace" "[Ljava/lang/StackTraceElement;") ∈ Tb := tb_t (tt_2 220 rfl) rfl
theorem t2_221 : (Jvm.Cond.lays "java/lang/IndexOutOfBoundsException" "java/lang/Throwable" "suppressedExceptions" "Ljava/util/List;") ∈ Tb := tb_t (tt_2 221 rfl) rfl
theorem t2_222 : (Jvm.Cond.lays "java/lang/IndexOutOfBoundsException" "java/lang/Throwable" "detailMessage" "Ljava/lang/String;") ∈ Tb := tb_t (tt_2 222 rfl) rfl
theorem t2_223 : (Jvm.Cond.lays "java/lang/IndexOutOfBoundsException" "java/lang/Throwable" "backtrace" "Ljava/lang/Object;") ∈ Tb := tb_t (tt_2 223 rfl) rfl
theorem u2_224 : (Jvm.Cond.stringRef "BlobStore" (227 : Nat) "too few free slots") ∈ tables_1 := tt_2 224 rfl
theorem t2_225 : (Jvm.Cond.methodLink "BlobStore" (229 : Nat) ({ cls := "java/lang/IndexOutOfBoundsException", name := "<init>", desc := "(Ljava/lang/String;)V" } : Jvm.MethodName)) ∈ Tb := tb_t (tt_2 225 rfl) rfl
theorem t2_226 : (Jvm.Cond.instanceMethod ({ cls := "java/lang/IndexOutOfBoundsException", name := "<init>", desc := "(Ljava/lang/String;)V" } : Jvm.MethodName)) ∈ Tb := tb_t (tt_2 226 rfl) rfl
theorem t2_227 : (Jvm.Cond.code ({ cls := "java/lang/IndexOutOfBoundsException", name := "<init>", desc := "(Ljava/lang/String;)V" } : Jvm.MethodName) prog_13_method_2_code (2 : Nat) (Option.none : Option Jvm.ClassFile.FieldType)) ∈ Tb := tb_t (tt_2 227 rfl) rfl
theorem t2_228 : (Jvm.Cond.methodLink "java/lang/IndexOutOfBoundsException" (7 : Nat) ({ cls := "java/lang/RuntimeException", name := "<init>", desc := "(Ljava/lang/String;)V" } : Jvm.MethodName)) ∈ Tb := tb_t (tt_2 228 rfl) rfl
theorem t2_229 : (Jvm.Cond.lays "java/lang/IndexOutOfBoundsException" "java/lang/Throwable" "depth" "I") ∈ Tb := tb_t (tt_2 229 rfl) rfl
theorem t2_230 : (Jvm.Cond.superclass "java/lang/IndexOutOfBoundsException" "java/lang/RuntimeException") ∈ Tb := tb_t (tt_2 230 rfl) rfl
theorem n2_231 : (Jvm.Cond.methodLinkNest "BlobStore" (230 : Nat) ({ cls := "BlobStore$Row", name := "add", desc := "(I)V" } : Jvm.MethodName) "BlobStore") ∈ bNst := tn_t (tt_2 231 rfl) rfl
theorem u2_232 : (Jvm.Cond.privateMethod ({ cls := "BlobStore$Row", name := "add", desc := "(I)V" } : Jvm.MethodName)) ∈ tables_1 := tt_2 232 rfl
theorem t2_233 : (Jvm.Cond.instanceMethod ({ cls := "BlobStore$Row", name := "add", desc := "(I)V" } : Jvm.MethodName)) ∈ Tb := tb_t (tt_2 233 rfl) rfl
theorem t2_234 : (Jvm.Cond.code ({ cls := "BlobStore$Row", name := "add", desc := "(I)V" } : Jvm.MethodName) prog_4_method_2_code (2 : Nat) (Option.none : Option Jvm.ClassFile.FieldType)) ∈ Tb := tb_t (tt_2 234 rfl) rfl
theorem t2_235 : (Jvm.Cond.methodLink "BlobStore" (107 : Nat) ({ cls := "BlobStore", name := "writeChunks", desc := "(I)I" } : Jvm.MethodName)) ∈ Tb := tb_t (tt_2 235 rfl) rfl
theorem u2_236 : (Jvm.Cond.privateMethod ({ cls := "BlobStore", name := "writeChunks", desc := "(I)I" } : Jvm.MethodName)) ∈ tables_1 := tt_2 236 rfl
theorem t2_237 : (Jvm.Cond.instanceMethod ({ cls := "BlobStore", name := "writeChunks", desc := "(I)I" } : Jvm.MethodName)) ∈ Tb := tb_t (tt_2 237 rfl) rfl
theorem t2_238 : (Jvm.Cond.code ({ cls := "BlobStore", name := "writeChunks", desc := "(I)I" } : Jvm.MethodName) prog_1_method_26_code (5 : Nat) (Option.some Jvm.ClassFile.FieldType.int)) ∈ Tb := tb_t (tt_2 238 rfl) rfl
theorem n2_239 : (Jvm.Cond.methodLinkNest "BlobStore" (233 : Nat) ({ cls := "BlobStore$Chunk", name := "copyFrom", desc := "(LBlobStore$Chunk;)V" } : Jvm.MethodName) "BlobStore") ∈ bNst := tn_t (tt_2 239 rfl) rfl
theorem u3_0 : (Jvm.Cond.privateMethod ({ cls := "BlobStore$Chunk", name := "copyFrom", desc := "(LBlobStore$Chunk;)V" } : Jvm.MethodName)) ∈ tables_1 := tt_3 0 rfl
theorem t3_1 : (Jvm.Cond.instanceMethod ({ cls := "BlobStore$Chunk", name := "copyFrom", desc := "(LBlobStore$Chunk;)V" } : Jvm.MethodName)) ∈ Tb := tb_t (tt_3 1 rfl) rfl
theorem t3_2 : (Jvm.Cond.code ({ cls := "BlobStore$Chunk", name := "copyFrom", desc := "(LBlobStore$Chunk;)V" } : Jvm.MethodName) prog_2_method_5_code (2 : Nat) (Option.none : Option Jvm.ClassFile.FieldType)) ∈ Tb := tb_t (tt_3 2 rfl) rfl
theorem t3_3 : (Jvm.Cond.methodLink "BlobStore$Chunk" (31 : Nat) ({ cls := "java/lang/System", name := "arraycopy", desc := "(Ljava/lang/Object;ILjava/lang/Object;II)V" } : Jvm.MethodName)) ∈ Tb := tb_t (tt_3 3 rfl) rfl
theorem t3_4 : (Jvm.Cond.static ({ cls := "java/lang/System", name := "arraycopy", desc := "(Ljava/lang/Object;ILjava/lang/Object;II)V" } : Jvm.MethodName)) ∈ Tb := tb_t (tt_3 4 rfl) rfl
theorem t3_5 : (Jvm.Cond.native ({ cls := "java/lang/System", name := "arraycopy", desc := "(Ljava/lang/Object;ILjava/lang/Object;II)V" } : Jvm.MethodName)) ∈ Tb := tb_t (tt_3 5 rfl) rfl
theorem n3_6 : (Jvm.Cond.methodLinkNest "BlobStore" (115 : Nat) ({ cls := "BlobStore$Row", name := "copyFrom", desc := "(LBlobStore$Row;)V" } : Jvm.MethodName) "BlobStore") ∈ bNst := tn_t (tt_3 6 rfl) rfl
theorem u3_7 : (Jvm.Cond.privateMethod ({ cls := "BlobStore$Row", name := "copyFrom", desc := "(LBlobStore$Row;)V" } : Jvm.MethodName)) ∈ tables_1 := tt_3 7 rfl
theorem t3_8 : (Jvm.Cond.instanceMethod ({ cls := "BlobStore$Row", name := "copyFrom", desc := "(LBlobStore$Row;)V" } : Jvm.MethodName)) ∈ Tb := tb_t (tt_3 8 rfl) rfl
theorem t3_9 : (Jvm.Cond.code ({ cls := "BlobStore$Row", name := "copyFrom", desc := "(LBlobStore$Row;)V" } : Jvm.MethodName) prog_4_method_4_code (2 : Nat) (Option.none : Option Jvm.ClassFile.FieldType)) ∈ Tb := tb_t (tt_3 9 rfl) rfl
theorem t3_10 : (Jvm.Cond.methodLink "BlobStore$Row" (21 : Nat) ({ cls := "BlobStore$Row", name := "addAll", desc := "(LBlobStore$Row;)V" } : Jvm.MethodName)) ∈ Tb := tb_t (tt_3 10 rfl) rfl
theorem u3_11 : (Jvm.Cond.privateMethod ({ cls := "BlobStore$Row", name := "addAll", desc := "(LBlobStore$Row;)V" } : Jvm.MethodName)) ∈ tables_1 := tt_3 11 rfl
theorem t3_12 : (Jvm.Cond.instanceMethod ({ cls := "BlobStore$Row", name := "addAll", desc := "(LBlobStore$Row;)V" } : Jvm.MethodName)) ∈ Tb := tb_t (tt_3 12 rfl) rfl
theorem t3_13 : (Jvm.Cond.code ({ cls := "BlobStore$Row", name := "addAll", desc := "(LBlobStore$Row;)V" } : Jvm.MethodName) prog_4_method_3_code (3 : Nat) (Option.none : Option Jvm.ClassFile.FieldType)) ∈ Tb := tb_t (tt_3 13 rfl) rfl
theorem t3_14 : (Jvm.Cond.methodLink "BlobStore$Row" (17 : Nat) ({ cls := "BlobStore$Row", name := "add", desc := "(I)V" } : Jvm.MethodName)) ∈ Tb := tb_t (tt_3 14 rfl) rfl
theorem t3_15 : (Jvm.Cond.methodLink "BlobStoreLaw" (68 : Nat) ({ cls := "BlobStoreLaw", name := "complete", desc := "(LBlobStore;I[J)I" } : Jvm.MethodName)) ∈ Tb := tb_t (tt_3 15 rfl) rfl
theorem t3_16 : (Jvm.Cond.static ({ cls := "BlobStoreLaw", name := "complete", desc := "(LBlobStore;I[J)I" } : Jvm.MethodName)) ∈ Tb := tb_t (tt_3 16 rfl) rfl
theorem t3_17 : (Jvm.Cond.codeWith ({ cls := "BlobStoreLaw", name := "complete", desc := "(LBlobStore;I[J)I" } : Jvm.MethodName) method_5_code (4 : Nat) (Option.some Jvm.ClassFile.FieldType.int) [((0 : Nat), (9 : Nat), (12 : Nat), (13 : Nat)), ((0 : Nat), (9 : Nat), (15 : Nat), (15 : Nat)), ((0 : Nat), (9 : Nat), (18 : Nat), (17 : Nat))]) ∈ Tb := tb_t (tt_3 17 rfl) rfl
theorem t3_18 : (Jvm.Cond.methodLink "BlobStoreLaw" (25 : Nat) ({ cls := "BlobStore", name := "complete", desc := "(I)I" } : Jvm.MethodName)) ∈ Tb := tb_t (tt_3 18 rfl) rfl
theorem t3_19 : (Jvm.Cond.instanceMethod ({ cls := "BlobStore", name := "complete", desc := "(I)I" } : Jvm.MethodName)) ∈ Tb := tb_t (tt_3 19 rfl) rfl
theorem t3_20 : (Jvm.Cond.selects "BlobStore" ({ cls := "BlobStore", name := "complete", desc := "(I)I" } : Jvm.MethodName) ({ cls := "BlobStore", name := "complete", desc := "(I)I" } : Jvm.MethodName)) ∈ Tb := tb_t (tt_3 20 rfl) rfl
theorem t3_21 : (Jvm.Cond.code ({ cls := "BlobStore", name := "complete", desc := "(I)I" } : Jvm.MethodName) prog_1_method_4_code (3 : Nat) (Option.some Jvm.ClassFile.FieldType.int)) ∈ Tb := tb_t (tt_3 21 rfl) rfl
theorem u3_22 : (Jvm.Cond.stringRef "BlobStore" (119 : Nat) "all versions have been given") ∈ tables_1 := tt_3 22 rfl
theorem n3_23 : (Jvm.Cond.methodLinkNest "BlobStore" (121 : Nat) ({ cls := "BlobStore$Version", name := "comeFrom", desc := "(LBlobStore$Session;)V" } : Jvm.MethodName) "BlobStore") ∈ bNst := tn_t (tt_3 23 rfl) rfl
theorem u3_24 : (Jvm.Cond.privateMethod ({ cls := "BlobStore$Version", name := "comeFrom", desc := "(LBlobStore$Session;)V" } : Jvm.MethodName)) ∈ tables_1 := tt_3 24 rfl
theorem t3_25 : (Jvm.Cond.instanceMethod ({ cls := "BlobStore$Version", name := "comeFrom", desc := "(LBlobStore$Session;)V" } : Jvm.MethodName)) ∈ Tb := tb_t (tt_3 25 rfl) rfl
theorem t3_26 : (Jvm.Cond.code ({ cls := "BlobStore$Version", name := "comeFrom", desc := "(LBlobStore$Session;)V" } : Jvm.MethodName) prog_7_method_2_code (3 : Nat) (Option.none : Option Jvm.ClassFile.FieldType)) ∈ Tb := tb_t (tt_3 26 rfl) rfl
theorem n3_27 : (Jvm.Cond.methodLinkNest "BlobStore$Version" (39 : Nat) ({ cls := "BlobStore$Row", name := "addAll", desc := "(LBlobStore$Row;)V" } : Jvm.MethodName) "BlobStore") ∈ bNst := tn_t (tt_3 27 rfl) rfl
theorem t3_28 : (Jvm.Cond.methodLink "BlobStoreLaw" (72 : Nat) ({ cls := "BlobStoreLaw", name := "abort", desc := "(LBlobStore;I)I" } : Jvm.MethodName)) ∈ Tb := tb_t (tt_3 28 rfl) rfl
theorem t3_29 : (Jvm.Cond.static ({ cls := "BlobStoreLaw", name := "abort", desc := "(LBlobStore;I)I" } : Jvm.MethodName)) ∈ Tb := tb_t (tt_3 29 rfl) rfl
theorem t3_30 : (Jvm.Cond.codeWith ({ cls := "BlobStoreLaw", name := "abort", desc := "(LBlobStore;I)I" } : Jvm.MethodName) method_6_code (3 : Nat) (Option.some Jvm.ClassFile.FieldType.int) [((0 : Nat), (5 : Nat), (8 : Nat), (13 : Nat)), ((0 : Nat), (5 : Nat), (11 : Nat), (15 : Nat)), ((0 : Nat), (5 : Nat), (14 : Nat), (17 : Nat))]) ∈ Tb := tb_t (tt_3 30 rfl) rfl
theorem t3_31 : (Jvm.Cond.methodLink "BlobStoreLaw" (29 : Nat) ({ cls := "BlobStore", name := "abort", desc := "(I)V" } : Jvm.MethodName)) ∈ Tb := tb_t (tt_3 31 rfl) rfl
theorem t3_32 : (Jvm.Cond.instanceMethod ({ cls := "BlobStore", name := "abort", desc := "(I)V" } : Jvm.MethodName)) ∈ Tb := tb_t (tt_3 32 rfl) rfl
theorem t3_33 : (Jvm.Cond.selects "BlobStore" ({ cls := "BlobStore", name := "abort", desc := "(I)V" } : Jvm.MethodName) ({ cls := "BlobStore", name := "abort", desc := "(I)V" } : Jvm.MethodName)) ∈ Tb := tb_t (tt_3 33 rfl) rfl
theorem t3_34 : (Jvm.Cond.code ({ cls := "BlobStore", name := "abort", desc := "(I)V" } : Jvm.MethodName) prog_1_method_5_code (3 : Nat) (Option.none : Option Jvm.ClassFile.FieldType)) ∈ Tb := tb_t (tt_3 34 rfl) rfl
theorem t3_35 : (Jvm.Cond.methodLink "BlobStoreLaw" (76 : Nat) ({ cls := "BlobStoreLaw", name := "delete", desc := "(LBlobStore;I[J)I" } : Jvm.MethodName)) ∈ Tb := tb_t (tt_3 35 rfl) rfl
theorem t3_36 : (Jvm.Cond.static ({ cls := "BlobStoreLaw", name := "delete", desc := "(LBlobStore;I[J)I" } : Jvm.MethodName)) ∈ Tb := tb_t (tt_3 36 rfl) rfl
theorem t3_37 : (Jvm.Cond.codeWith ({ cls := "BlobStoreLaw", name := "delete", desc := "(LBlobStore;I[J)I" } : Jvm.MethodName) method_7_code (4 : Nat) (Option.some Jvm.ClassFile.FieldType.int) [((0 : Nat), (16 : Nat), (19 : Nat), (13 : Nat)), ((0 : Nat), (16 : Nat), (22 : Nat), (17 : Nat))]) ∈ Tb := tb_t (tt_3 37 rfl) rfl
theorem t3_38 : (Jvm.Cond.methodLink "BlobStoreLaw" (33 : Nat) ({ cls := "BlobStore", name := "delete", desc := "(I)Z" } : Jvm.MethodName)) ∈ Tb := tb_t (tt_3 38 rfl) rfl
theorem t3_39 : (Jvm.Cond.instanceMethod ({ cls := "BlobStore", name := "delete", desc := "(I)Z" } : Jvm.MethodName)) ∈ Tb := tb_t (tt_3 39 rfl) rfl
theorem t3_40 : (Jvm.Cond.selects "BlobStore" ({ cls := "BlobStore", name := "delete", desc := "(I)Z" } : Jvm.MethodName) ({ cls := "BlobStore", name := "delete", desc := "(I)Z" } : Jvm.MethodName)) ∈ Tb := tb_t (tt_3 40 rfl) rfl
theorem t3_41 : (Jvm.Cond.code ({ cls := "BlobStore", name := "delete", desc := "(I)Z" } : Jvm.MethodName) prog_1_method_6_code (3 : Nat) (Option.some Jvm.ClassFile.FieldType.boolean)) ∈ Tb := tb_t (tt_3 41 rfl) rfl
theorem t3_42 : (Jvm.Cond.methodLink "BlobStoreLaw" (79 : Nat) ({ cls := "BlobStoreLaw", name := "collect", desc := "(LBlobStore;[J)I" } : Jvm.MethodName)) ∈ Tb := tb_t (tt_3 42 rfl) rfl
theorem t3_43 : (Jvm.Cond.static ({ cls := "BlobStoreLaw", name := "collect", desc := "(LBlobStore;[J)I" } : Jvm.MethodName)) ∈ Tb := tb_t (tt_3 43 rfl) rfl
theorem t3_44 : (Jvm.Cond.codeWith ({ cls := "BlobStoreLaw", name := "collect", desc := "(LBlobStore;[J)I" } : Jvm.MethodName) method_8_code (3 : Nat) (Option.some Jvm.ClassFile.FieldType.int) [((0 : Nat), (8 : Nat), (11 : Nat), (13 : Nat)), ((0 : Nat), (8 : Nat), (14 : Nat), (17 : Nat))]) ∈ Tb := tb_t (tt_3 44 rfl) rfl
theorem t3_45 : (Jvm.Cond.methodLink "BlobStoreLaw" (37 : Nat) ({ cls := "BlobStore", name := "collect", desc := "()I" } : Jvm.MethodName)) ∈ Tb := tb_t (tt_3 45 rfl) rfl
theorem t3_46 : (Jvm.Cond.instanceMethod ({ cls := "BlobStore", name := "collect", desc := "()I" } : Jvm.MethodName)) ∈ Tb := tb_t (tt_3 46 rfl) rfl
theorem t3_47 : (Jvm.Cond.selects "BlobStore" ({ cls := "BlobStore", name := "collect", desc := "()I" } : Jvm.MethodName) ({ cls := "BlobStore", name := "collect", desc := "()I" } : Jvm.MethodName)) ∈ Tb := tb_t (tt_3 47 rfl) rfl
theorem t3_48 : (Jvm.Cond.code ({ cls := "BlobStore", name := "collect", desc := "()I" } : Jvm.MethodName) prog_1_method_7_code (3 : Nat) (Option.some Jvm.ClassFile.FieldType.int)) ∈ Tb := tb_t (tt_3 48 rfl) rfl
theorem n3_49 : (Jvm.Cond.methodLinkNest "BlobStore" (143 : Nat) ({ cls := "BlobStore$Chunk", name := "free", desc := "()V" } : Jvm.MethodName) "BlobStore") ∈ bNst := tn_t (tt_3 49 rfl) rfl
theorem u3_50 : (Jvm.Cond.privateMethod ({ cls := "BlobStore$Chunk", name := "free", desc := "()V" } : Jvm.MethodName)) ∈ tables_1 := tt_3 50 rfl
theorem t3_51 : (Jvm.Cond.instanceMethod ({ cls := "BlobStore$Chunk", name := "free", desc := "()V" } : Jvm.MethodName)) ∈ Tb := tb_t (tt_3 51 rfl) rfl
theorem t3_52 : (Jvm.Cond.code ({ cls := "BlobStore$Chunk", name := "free", desc := "()V" } : Jvm.MethodName) prog_2_method_3_code (1 : Nat) (Option.none : Option Jvm.ClassFile.FieldType)) ∈ Tb := tb_t (tt_3 52 rfl) rfl
theorem t3_53 : (Jvm.Cond.methodLink "BlobStoreLaw" (83 : Nat) ({ cls := "BlobStoreLaw", name := "cutAfter", desc := "(LBlobStore;I)I" } : Jvm.MethodName)) ∈ Tb := tb_t (tt_3 53 rfl) rfl
theorem t3_54 : (Jvm.Cond.static ({ cls := "BlobStoreLaw", name := "cutAfter", desc := "(LBlobStore;I)I" } : Jvm.MethodName)) ∈ Tb := tb_t (tt_3 54 rfl) rfl
theorem t3_55 : (Jvm.Cond.codeWith ({ cls := "BlobStoreLaw", name := "cutAfter", desc := "(LBlobStore;I)I" } : Jvm.MethodName) method_9_code (3 : Nat) (Option.some Jvm.ClassFile.FieldType.int) [((0 : Nat), (5 : Nat), (8 : Nat), (15 : Nat))]) ∈ Tb := tb_t (tt_3 55 rfl) rfl
theorem t3_56 : (Jvm.Cond.methodLink "BlobStoreLaw" (41 : Nat) ({ cls := "BlobStore", name := "cutAfter", desc := "(I)V" } : Jvm.MethodName)) ∈ Tb := tb_t (tt_3 56 rfl) rfl
theorem t3_57 : (Jvm.Cond.instanceMethod ({ cls := "BlobStore", name := "cutAfter", desc := "(I)V" } : Jvm.MethodName)) ∈ Tb := tb_t (tt_3 57 rfl) rfl
theorem t3_58 : (Jvm.Cond.selects "BlobStore" ({ cls := "BlobStore", name := "cutAfter", desc := "(I)V" } : Jvm.MethodName) ({ cls := "BlobStore", name := "cutAfter", desc := "(I)V" } : Jvm.MethodName)) ∈ Tb := tb_t (tt_3 58 rfl) rfl
theorem t3_59 : (Jvm.Cond.code ({ cls := "BlobStore", name := "cutAfter", desc := "(I)V" } : Jvm.MethodName) prog_1_method_8_code (2 : Nat) (Option.none : Option Jvm.ClassFile.FieldType)) ∈ Tb := tb_t (tt_3 59 rfl) rfl
theorem u3_60 : (Jvm.Cond.stringRef "BlobStore" (146 : Nat) "no such count of writes") ∈ tables_1 := tt_3 60 rfl
theorem n3_61 : (Jvm.Cond.methodLinkNest "BlobStore" (148 : Nat) ({ cls := "BlobStore$Power", name := "tellCut", desc := "(I)V" } : Jvm.MethodName) "BlobStore") ∈ bNst := tn_t (tt_3 61 rfl) rfl
theorem u3_62 : (Jvm.Cond.privateMethod ({ cls := "BlobStore$Power", name := "tellCut", desc := "(I)V" } : Jvm.MethodName)) ∈ tables_1 := tt_3 62 rfl
theorem t3_63 : (Jvm.Cond.instanceMethod ({ cls := "BlobStore$Power", name := "tellCut", desc := "(I)V" } : Jvm.MethodName)) ∈ Tb := tb_t (tt_3 63 rfl) rfl
theorem t3_64 : (Jvm.Cond.code ({ cls := "BlobStore$Power", name := "tellCut", desc := "(I)V" } : Jvm.MethodName) prog_3_method_4_code (2 : Nat) (Option.none : Option Jvm.ClassFile.FieldType)) ∈ Tb := tb_t (tt_3 64 rfl) rfl
theorem t3_65 : (Jvm.Cond.methodLink "BlobStoreLaw" (103 : Nat) ({ cls := "BlobStoreLaw", name := "address", desc := "(LBlobStore;II[J)I" } : Jvm.MethodName)) ∈ Tb := tb_t (tt_3 65 rfl) rfl
theorem t3_66 : (Jvm.Cond.static ({ cls := "BlobStoreLaw", name := "address", desc := "(LBlobStore;II[J)I" } : Jvm.MethodName)) ∈ Tb := tb_t (tt_3 66 rfl) rfl
theorem t3_67 : (Jvm.Cond.codeWith ({ cls := "BlobStoreLaw", name := "address", desc := "(LBlobStore;II[J)I" } : Jvm.MethodName) method_10_code (5 : Nat) (Option.some Jvm.ClassFile.FieldType.int) [((0 : Nat), (10 : Nat), (13 : Nat), (47 : Nat))]) ∈ Tb := tb_t (tt_3 67 rfl) rfl
theorem t3_68 : (Jvm.Cond.classLink "BlobStoreLaw" (47 : Nat) "java/util/NoSuchElementException") ∈ Tb := tb_t (tt_3 68 rfl) rfl
theorem t3_69 : (Jvm.Cond.methodLink "BlobStoreLaw" (44 : Nat) ({ cls := "BlobStore", name := "address", desc := "(II)I" } : Jvm.MethodName)) ∈ Tb := tb_t (tt_3 69 rfl) rfl
theorem t3_70 : (Jvm.Cond.instanceMethod ({ cls := "BlobStore", name := "address", desc := "(II)I" } : Jvm.MethodName)) ∈ Tb := tb_t (tt_3 70 rfl) rfl
theorem t3_71 : (Jvm.Cond.selects "BlobStore" ({ cls := "BlobStore", name := "address", desc := "(II)I" } : Jvm.MethodName) ({ cls := "BlobStore", name := "address", desc := "(II)I" } : Jvm.MethodName)) ∈ Tb := tb_t (tt_3 71 rfl) rfl
theorem t3_72 : (Jvm.Cond.code ({ cls := "BlobStore", name := "address", desc := "(II)I" } : Jvm.MethodName) prog_1_method_13_code (3 : Nat) (Option.some Jvm.ClassFile.FieldType.int)) ∈ Tb := tb_t (tt_3 72 rfl) rfl
theorem t3_73 : (Jvm.Cond.classLink "BlobStore" (176 : Nat) "java/util/NoSuchElementException") ∈ Tb := tb_t (tt_3 73 rfl) rfl
theorem t3_74 : (Jvm.Cond.instantiable "java/util/NoSuchElementException" (6 : Nat)) ∈ Tb := tb_t (tt_3 74 rfl) rfl
theorem n3_75 : (Jvm.Cond.castable "java/util/NoSuchElementException" "java/util/NoSuchElementException") ∈ bNst := tn_t (tt_3 75 rfl) rfl
theorem t3_76 : (Jvm.Cond.selects "java/util/NoSuchElementException" ({ cls := "java/lang/Throwable", name := "fillInStackTrace", desc := "(I)Ljava/lang/Throwable;" } : Jvm.MethodName) ({ cls := "java/lang/Throwable", name := "fillInStackTrace", desc := "(I)Ljava/lang/Throwable;" } : Jvm.MethodName)) ∈ Tb := tb_t (tt_3 76 rfl) rfl
theorem t3_77 : (Jvm.Cond.lays "java/util/NoSuchElementException" "java/lang/Throwable" "cause" "Ljava/lang/Throwable;") ∈ Tb := tb_t (tt_3 77 rfl) rfl
theorem t3_78 : (Jvm.Cond.lays "java/util/NoSuchElementException" "java/lang/Throwable" "stackTrace" "[Ljava/lang/StackTraceElement;") ∈ Tb := tb_t (tt_3 78 rfl) rfl
theorem t3_79 : (Jvm.Cond.lays "java/util/NoSuchElementException" "java/lang/Throwable" "suppressedExceptions" "Ljava/util/List;") ∈ Tb := tb_t (tt_3 79 rfl) rfl
theorem t3_80 : (Jvm.Cond.lays "java/util/NoSuchElementException" "java/lang/Throwable" "detailMessage" "Ljava/lang/String;") ∈ Tb := tb_t (tt_3 80 rfl) rfl
theorem t3_81 : (Jvm.Cond.lays "java/util/NoSuchElementException" "java/lang/Throwable" "backtrace" "Ljava/lang/Object;") ∈ Tb := tb_t (tt_3 81 rfl) rfl
theorem u3_82 : (Jvm.Cond.stringRef "BlobStore" (178 : Nat) "no such chunk or word") ∈ tables_1 := tt_3 82 rfl
theorem t3_83 : (Jvm.Cond.methodLink "BlobStore" (180 : Nat) ({ cls := "java/util/NoSuchElementException", name := "<init>", desc := "(Ljava/lang/String;)V" } : Jvm.MethodName)) ∈ Tb := tb_t (tt_3 83 rfl) rfl
theorem t3_84 : (Jvm.Cond.instanceMethod ({ cls := "java/util/NoSuchElementException", name := "<init>", desc := "(Ljava/lang/String;)V" } : Jvm.MethodName)) ∈ Tb := tb_t (tt_3 84 rfl) rfl
theorem t3_85 : (Jvm.Cond.code ({ cls := "java/util/NoSuchElementException", name := "<init>", desc := "(Ljava/lang/String;)V" } : Jvm.MethodName) prog_21_method_4_code (2 : Nat) (Option.none : Option Jvm.ClassFile.FieldType)) ∈ Tb := tb_t (tt_3 85 rfl) rfl
theorem t3_86 : (Jvm.Cond.methodLink "java/util/NoSuchElementException" (13 : Nat) ({ cls := "java/lang/RuntimeException", name := "<init>", desc := "(Ljava/lang/String;)V" } : Jvm.MethodName)) ∈ Tb := tb_t (tt_3 86 rfl) rfl
theorem t3_87 : (Jvm.Cond.lays "java/util/NoSuchElementException" "java/lang/Throwable" "depth" "I") ∈ Tb := tb_t (tt_3 87 rfl) rfl
theorem t3_88 : (Jvm.Cond.superclass "java/util/NoSuchElementException" "java/lang/RuntimeException") ∈ Tb := tb_t (tt_3 88 rfl) rfl
theorem t3_89 : (Jvm.Cond.classLink "BlobStoreLaw" (50 : Nat) "BlobStoreModel") ∈ Tb := tb_t (tt_3 89 rfl) rfl
theorem t3_90 : (Jvm.Cond.instantiable "BlobStoreModel" (22 : Nat)) ∈ Tb := tb_t (tt_3 90 rfl) rfl
theorem t3_91 : (Jvm.Cond.methodLink "BlobStoreLaw" (52 : Nat) ({ cls := "BlobStoreModel", name := "<init>", desc := "()V" } : Jvm.MethodName)) ∈ Tb := tb_t (tt_3 91 rfl) rfl
theorem t3_92 : (Jvm.Cond.instanceMethod ({ cls := "BlobStoreModel", name := "<init>", desc := "()V" } : Jvm.MethodName)) ∈ Tb := tb_t (tt_3 92 rfl) rfl
theorem t3_93 : (Jvm.Cond.code ({ cls := "BlobStoreModel", name := "<init>", desc := "()V" } : Jvm.MethodName) prog_9_method_1_code (3 : Nat) (Option.none : Option Jvm.ClassFile.FieldType)) ∈ Tb := tb_t (tt_3 93 rfl) rfl
theorem t3_94 : (Jvm.Cond.methodLink "BlobStoreModel" (1 : Nat) ({ cls := "java/lang/Object", name := "<init>", desc := "()V" } : Jvm.MethodName)) ∈ Tb := tb_t (tt_3 94 rfl) rfl
theorem t3_95 : (Jvm.Cond.methodLink "BlobStoreModel" (67 : Nat) ({ cls := "BlobStoreModel", name := "isPrime", desc := "(I)Z" } : Jvm.MethodName)) ∈ Tb := tb_t (tt_3 95 rfl) rfl
theorem t3_96 : (Jvm.Cond.static ({ cls := "BlobStoreModel", name := "isPrime", desc := "(I)Z" } : Jvm.MethodName)) ∈ Tb := tb_t (tt_3 96 rfl) rfl
theorem t3_97 : (Jvm.Cond.code ({ cls := "BlobStoreModel", name := "isPrime", desc := "(I)Z" } : Jvm.MethodName) prog_9_method_5_code (2 : Nat) (Option.some Jvm.ClassFile.FieldType.boolean)) ∈ Tb := tb_t (tt_3 97 rfl) rfl
theorem t3_98 : (Jvm.Cond.methodLink "BlobStoreModel" (71 : Nat) ({ cls := "BlobStoreModel", name := "root", desc := "(II)I" } : Jvm.MethodName)) ∈ Tb := tb_t (tt_3 98 rfl) rfl
theorem u3_99 : (Jvm.Cond.privateMethod ({ cls := "BlobStoreModel", name := "root", desc := "(II)I" } : Jvm.MethodName)) ∈ tables_1 := tt_3 99 rfl
theorem t3_100 : (Jvm.Cond.instanceMethod ({ cls := "BlobStoreModel", name := "root", desc := "(II)I" } : Jvm.MethodName)) ∈ Tb := tb_t (tt_3 100 rfl) rfl
theorem t3_101 : (Jvm.Cond.code ({ cls := "BlobStoreModel", name := "root", desc := "(II)I" } : Jvm.MethodName) prog_9_method_6_code (6 : Nat) (Option.some Jvm.ClassFile.FieldType.int)) ∈ Tb := tb_t (tt_3 101 rfl) rfl
theorem t3_102 : (Jvm.Cond.methodLink "BlobStoreModel" (78 : Nat) ({ cls := "BlobStoreModel", name := "isAbove", desc := "(JII)Z" } : Jvm.MethodName)) ∈ Tb := tb_t (tt_3 102 rfl) rfl
theorem u3_103 : (Jvm.Cond.privateMethod ({ cls := "BlobStoreModel", name := "isAbove", desc := "(JII)Z" } : Jvm.MethodName)) ∈ tables_1 := tt_3 103 rfl
theorem t3_104 : (Jvm.Cond.instanceMethod ({ cls := "BlobStoreModel", name := "isAbove", desc := "(JII)Z" } : Jvm.MethodName)) ∈ Tb := tb_t (tt_3 104 rfl) rfl
theorem t3_105 : (Jvm.Cond.code ({ cls := "BlobStoreModel", name := "isAbove", desc := "(JII)Z" } : Jvm.MethodName) prog_9_method_7_code (15 : Nat) (Option.some Jvm.ClassFile.FieldType.boolean)) ∈ Tb := tb_t (tt_3 105 rfl) rfl
theorem t3_106 : (Jvm.Cond.constantLong "BlobStoreModel" (82 : Nat) (1048575 : Int64)) ∈ Tb := tb_t (tt_3 106 rfl) rfl
theorem t3_107 : (Jvm.Cond.fieldLink "BlobStoreModel" (75 : Nat) "BlobStoreModel" "thrown" "I") ∈ Tb := tb_t (tt_3 107 rfl) rfl
theorem t3_108 : (Jvm.Cond.fieldLink "BlobStoreModel" (7 : Nat) "BlobStoreModel" "sizes" "[I") ∈ Tb := tb_t (tt_3 108 rfl) rfl
theorem t3_109 : (Jvm.Cond.fieldLink "BlobStoreModel" (13 : Nat) "BlobStoreModel" "bytes" "[I") ∈ Tb := tb_t (tt_3 109 rfl) rfl
theorem t3_110 : (Jvm.Cond.fieldLink "BlobStoreModel" (16 : Nat) "BlobStoreModel" "open" "[Z") ∈ Tb := tb_t (tt_3 110 rfl) rfl
theorem t3_111 : (Jvm.Cond.fieldLink "BlobStoreModel" (20 : Nat) "BlobStoreModel" "sessionBucket" "[I") ∈ Tb := tb_t (tt_3 111 rfl) rfl
theorem t3_112 : (Jvm.Cond.fieldLink "BlobStoreModel" (23 : Nat) "BlobStoreModel" "sessionKey" "[I") ∈ Tb := tb_t (tt_3 112 rfl) rfl
theorem t3_113 : (Jvm.Cond.fieldLink "BlobStoreModel" (26 : Nat) "BlobStoreModel" "partSize" "[I") ∈ Tb := tb_t (tt_3 113 rfl) rfl
theorem t3_114 : (Jvm.Cond.fieldLink "BlobStoreModel" (29 : Nat) "BlobStoreModel" "partSlots" "[I") ∈ Tb := tb_t (tt_3 114 rfl) rfl
theorem t3_115 : (Jvm.Cond.fieldLink "BlobStoreModel" (135 : Nat) "BlobStoreModel" "versions" "I") ∈ Tb := tb_t (tt_3 115 rfl) rfl
theorem t3_116 : (Jvm.Cond.fieldLink "BlobStoreModel" (32 : Nat) "BlobStoreModel" "lives" "[Z") ∈ Tb := tb_t (tt_3 116 rfl) rfl
theorem t3_117 : (Jvm.Cond.fieldLink "BlobStoreModel" (35 : Nat) "BlobStoreModel" "versionBucket" "[I") ∈ Tb := tb_t (tt_3 117 rfl) rfl
theorem t3_118 : (Jvm.Cond.fieldLink "BlobStoreModel" (38 : Nat) "BlobStoreModel" "versionKey" "[I") ∈ Tb := tb_t (tt_3 118 rfl) rfl
theorem t3_119 : (Jvm.Cond.fieldLink "BlobStoreModel" (41 : Nat) "BlobStoreModel" "versionSize" "[I") ∈ Tb := tb_t (tt_3 119 rfl) rfl
theorem t3_120 : (Jvm.Cond.fieldLink "BlobStoreModel" (44 : Nat) "BlobStoreModel" "versionSlots" "[I") ∈ Tb := tb_t (tt_3 120 rfl) rfl
theorem t3_121 : (Jvm.Cond.fieldLink "BlobStoreModel" (91 : Nat) "BlobStoreModel" "writes" "I") ∈ Tb := tb_t (tt_3 121 rfl) rfl
theorem t3_122 : (Jvm.Cond.fieldLink "BlobStoreModel" (47 : Nat) "BlobStoreModel" "cut" "I") ∈ Tb := tb_t (tt_3 122 rfl) rfl
theorem t3_123 : (Jvm.Cond.fieldLink "BlobStoreModel" (87 : Nat) "BlobStoreModel" "down" "Z") ∈ Tb := tb_t (tt_3 123 rfl) rfl
theorem t3_124 : (Jvm.Cond.fieldLink "BlobStoreModel" (51 : Nat) "BlobStoreModel" "constants" "[I") ∈ Tb := tb_t (tt_3 124 rfl) rfl
theorem t3_125 : (Jvm.Cond.fieldLink "BlobStoreModel" (54 : Nat) "BlobStoreModel" "schedule" "[I") ∈ Tb := tb_t (tt_3 125 rfl) rfl
theorem t3_126 : (Jvm.Cond.fieldLink "BlobStoreModel" (57 : Nat) "BlobStoreModel" "hash" "[I") ∈ Tb := tb_t (tt_3 126 rfl) rfl
theorem t3_127 : (Jvm.Cond.fieldLink "BlobStoreModel" (60 : Nat) "BlobStoreModel" "row" "[I") ∈ Tb := tb_t (tt_3 127 rfl) rfl
theorem t3_128 : (Jvm.Cond.fieldLink "BlobStoreModel" (63 : Nat) "BlobStoreModel" "limbs" "[J") ∈ Tb := tb_t (tt_3 128 rfl) rfl
theorem t3_129 : (Jvm.Cond.lays "BlobStoreModel" "BlobStoreModel" "thrown" "I") ∈ Tb := tb_t (tt_3 129 rfl) rfl
theorem u3_130 : (Jvm.Cond.soleField "BlobStoreModel" "thrown") ∈ tables_1 := tt_3 130 rfl
theorem t3_131 : (Jvm.Cond.laysFinal "BlobStoreModel" "BlobStoreModel" "sizes" "[I") ∈ Tb := tb_t (tt_3 131 rfl) rfl
theorem u3_132 : (Jvm.Cond.soleField "BlobStoreModel" "sizes") ∈ tables_1 := tt_3 132 rfl
theorem t3_133 : (Jvm.Cond.laysFinal "BlobStoreModel" "BlobStoreModel" "bytes" "[I") ∈ Tb := tb_t (tt_3 133 rfl) rfl
theorem u3_134 : (Jvm.Cond.soleField "BlobStoreModel" "bytes") ∈ tables_1 := tt_3 134 rfl
theorem t3_135 : (Jvm.Cond.laysFinal "BlobStoreModel" "BlobStoreModel" "open" "[Z") ∈ Tb := tb_t (tt_3 135 rfl) rfl
theorem u3_136 : (Jvm.Cond.soleField "BlobStoreModel" "open") ∈ tables_1 := tt_3 136 rfl
theorem t3_137 : (Jvm.Cond.laysFinal "BlobStoreModel" "BlobStoreModel" "sessionBucket" "[I") ∈ Tb := tb_t (tt_3 137 rfl) rfl
theorem u3_138 : (Jvm.Cond.soleField "BlobStoreModel" "sessionBucket") ∈ tables_1 := tt_3 138 rfl
theorem t3_139 : (Jvm.Cond.laysFinal "BlobStoreModel" "BlobStoreModel" "sessionKey" "[I") ∈ Tb := tb_t (tt_3 139 rfl) rfl
theorem u3_140 : (Jvm.Cond.soleField "BlobStoreModel" "sessionKey") ∈ tables_1 := tt_3 140 rfl
theorem t3_141 : (Jvm.Cond.laysFinal "BlobStoreModel" "BlobStoreModel" "partSize" "[I") ∈ Tb := tb_t (tt_3 141 rfl) rfl
theorem u3_142 : (Jvm.Cond.soleField "BlobStoreModel" "partSize") ∈ tables_1 := tt_3 142 rfl
theorem t3_143 : (Jvm.Cond.laysFinal "BlobStoreModel" "BlobStoreModel" "partSlots" "[I") ∈ Tb := tb_t (tt_3 143 rfl) rfl
theorem u3_144 : (Jvm.Cond.soleField "BlobStoreModel" "partSlots") ∈ tables_1 := tt_3 144 rfl
theorem t3_145 : (Jvm.Cond.lays "BlobStoreModel" "BlobStoreModel" "versions" "I") ∈ Tb := tb_t (tt_3 145 rfl) rfl
theorem u3_146 : (Jvm.Cond.soleField "BlobStoreModel" "versions") ∈ tables_1 := tt_3 146 rfl
theorem t3_147 : (Jvm.Cond.laysFinal "BlobStoreModel" "BlobStoreModel" "lives" "[Z") ∈ Tb := tb_t (tt_3 147 rfl) rfl
theorem u3_148 : (Jvm.Cond.soleField "BlobStoreModel" "lives") ∈ tables_1 := tt_3 148 rfl
theorem t3_149 : (Jvm.Cond.laysFinal "BlobStoreModel" "BlobStoreModel" "versionBucket" "[I") ∈ Tb := tb_t (tt_3 149 rfl) rfl
theorem u3_150 : (Jvm.Cond.soleField "BlobStoreModel" "versionBucket") ∈ tables_1 := tt_3 150 rfl
theorem t3_151 : (Jvm.Cond.laysFinal "BlobStoreModel" "BlobStoreModel" "versionKey" "[I") ∈ Tb := tb_t (tt_3 151 rfl) rfl
theorem u3_152 : (Jvm.Cond.soleField "BlobStoreModel" "versionKey") ∈ tables_1 := tt_3 152 rfl
theorem t3_153 : (Jvm.Cond.laysFinal "BlobStoreModel" "BlobStoreModel" "versionSize" "[I") ∈ Tb := tb_t (tt_3 153 rfl) rfl
theorem u3_154 : (Jvm.Cond.soleField "BlobStoreModel" "versionSize") ∈ tables_1 := tt_3 154 rfl
theorem t3_155 : (Jvm.Cond.laysFinal "BlobStoreModel" "BlobStoreModel" "versionSlots" "[I") ∈ Tb := tb_t (tt_3 155 rfl) rfl
theorem u3_156 : (Jvm.Cond.soleField "BlobStoreModel" "versionSlots") ∈ tables_1 := tt_3 156 rfl
theorem t3_157 : (Jvm.Cond.lays "BlobStoreModel" "BlobStoreModel" "writes" "I") ∈ Tb := tb_t (tt_3 157 rfl) rfl
theorem u3_158 : (Jvm.Cond.soleField "BlobStoreModel" "writes") ∈ tables_1 := tt_3 158 rfl
theorem t3_159 : (Jvm.Cond.lays "BlobStoreModel" "BlobStoreModel" "cut" "I") ∈ Tb := tb_t (tt_3 159 rfl) rfl
theorem u3_160 : (Jvm.Cond.soleField "BlobStoreModel" "cut") ∈ tables_1 := tt_3 160 rfl
theorem t3_161 : (Jvm.Cond.lays "BlobStoreModel" "BlobStoreModel" "down" "Z") ∈ Tb := tb_t (tt_3 161 rfl) rfl
theorem u3_162 : (Jvm.Cond.soleField "BlobStoreModel" "down") ∈ tables_1 := tt_3 162 rfl
theorem t3_163 : (Jvm.Cond.laysFinal "BlobStoreModel" "BlobStoreModel" "constants" "[I") ∈ Tb := tb_t (tt_3 163 rfl) rfl
theorem u3_164 : (Jvm.Cond.soleField "BlobStoreModel" "constants") ∈ tables_1 := tt_3 164 rfl
theorem t3_165 : (Jvm.Cond.laysFinal "BlobStoreModel" "BlobStoreModel" "schedule" "[I") ∈ Tb := tb_t (tt_3 165 rfl) rfl
theorem u3_166 : (Jvm.Cond.soleField "BlobStoreModel" "schedule") ∈ tables_1 := tt_3 166 rfl
theorem t3_167 : (Jvm.Cond.laysFinal "BlobStoreModel" "BlobStoreModel" "hash" "[I") ∈ Tb := tb_t (tt_3 167 rfl) rfl
theorem u3_168 : (Jvm.Cond.soleField "BlobStoreModel" "hash") ∈ tables_1 := tt_3 168 rfl
theorem t3_169 : (Jvm.Cond.laysFinal "BlobStoreModel" "BlobStoreModel" "row" "[I") ∈ Tb := tb_t (tt_3 169 rfl) rfl
theorem u3_170 : (Jvm.Cond.soleField "BlobStoreModel" "row") ∈ tables_1 := tt_3 170 rfl
theorem t3_171 : (Jvm.Cond.laysFinal "BlobStoreModel" "BlobStoreModel" "limbs" "[J") ∈ Tb := tb_t (tt_3 171 rfl) rfl
theorem u3_172 : (Jvm.Cond.soleField "BlobStoreModel" "limbs") ∈ tables_1 := tt_3 172 rfl
theorem t3_173 : (Jvm.Cond.superclass "BlobStoreModel" "java/lang/Object") ∈ Tb := tb_t (tt_3 173 rfl) rfl
theorem t3_174 : (Jvm.Cond.arrayClass Jvm.ClassFile.FieldType.boolean) ∈ Tb := tb_t (tt_3 174 rfl) rfl
theorem t3_175 : (Jvm.Cond.arrayClass Jvm.ClassFile.FieldType.long) ∈ Tb := tb_t (tt_3 175 rfl) rfl
theorem t3_176 : (Jvm.Cond.methodLink "BlobStoreLaw" (59 : Nat) ({ cls := "BlobStoreModel", name := "thrown", desc := "()I" } : Jvm.MethodName)) ∈ Tb := tb_t (tt_3 176 rfl) rfl
theorem t3_177 : (Jvm.Cond.instanceMethod ({ cls := "BlobStoreModel", name := "thrown", desc := "()I" } : Jvm.MethodName)) ∈ Tb := tb_t (tt_3 177 rfl) rfl
theorem t3_178 : (Jvm.Cond.selects "BlobStoreModel" ({ cls := "BlobStoreModel", name := "thrown", desc := "()I" } : Jvm.MethodName) ({ cls := "BlobStoreModel", name := "thrown", desc := "()I" } : Jvm.MethodName)) ∈ Tb := tb_t (tt_3 178 rfl) rfl
theorem t3_179 : (Jvm.Cond.code ({ cls := "BlobStoreModel", name := "thrown", desc := "()I" } : Jvm.MethodName) prog_9_method_2_code (1 : Nat) (Option.some Jvm.ClassFile.FieldType.int)) ∈ Tb := tb_t (tt_3 179 rfl) rfl
theorem t3_180 : (Jvm.Cond.methodLink "BlobStoreLaw" (58 : Nat) ({ cls := "BlobStoreModel", name := "begin", desc := "(II)I" } : Jvm.MethodName)) ∈ Tb := tb_t (tt_3 180 rfl) rfl
theorem t3_181 : (Jvm.Cond.instanceMethod ({ cls := "BlobStoreModel", name := "begin", desc := "(II)I" } : Jvm.MethodName)) ∈ Tb := tb_t (tt_3 181 rfl) rfl
theorem t3_182 : (Jvm.Cond.selects "BlobStoreModel" ({ cls := "BlobStoreModel", name := "begin", desc := "(II)I" } : Jvm.MethodName) ({ cls := "BlobStoreModel", name := "begin", desc := "(II)I" } : Jvm.MethodName)) ∈ Tb := tb_t (tt_3 182 rfl) rfl
theorem t3_183 : (Jvm.Cond.code ({ cls := "BlobStoreModel", name := "begin", desc := "(II)I" } : Jvm.MethodName) prog_9_method_20_code (5 : Nat) (Option.some Jvm.ClassFile.FieldType.int)) ∈ Tb := tb_t (tt_3 183 rfl) rfl
theorem t3_184 : (Jvm.Cond.methodLink "BlobStoreModel" (109 : Nat) ({ cls := "BlobStoreModel", name := "in", desc := "(III)Z" } : Jvm.MethodName)) ∈ Tb := tb_t (tt_3 184 rfl) rfl
theorem t3_185 : (Jvm.Cond.static ({ cls := "BlobStoreModel", name := "in", desc := "(III)Z" } : Jvm.MethodName)) ∈ Tb := tb_t (tt_3 185 rfl) rfl
theorem t3_186 : (Jvm.Cond.code ({ cls := "BlobStoreModel", name := "in", desc := "(III)Z" } : Jvm.MethodName) prog_9_method_4_code (3 : Nat) (Option.some Jvm.ClassFile.FieldType.boolean)) ∈ Tb := tb_t (tt_3 186 rfl) rfl
theorem t3_187 : (Jvm.Cond.methodLink "BlobStoreModel" (112 : Nat) ({ cls := "BlobStoreModel", name := "says", desc := "(I)Z" } : Jvm.MethodName)) ∈ Tb := tb_t (tt_3 187 rfl) rfl
theorem u3_188 : (Jvm.Cond.privateMethod ({ cls := "BlobStoreModel", name := "says", desc := "(I)Z" } : Jvm.MethodName)) ∈ tables_1 := tt_3 188 rfl
theorem t3_189 : (Jvm.Cond.instanceMethod ({ cls := "BlobStoreModel", name := "says", desc := "(I)Z" } : Jvm.MethodName)) ∈ Tb := tb_t (tt_3 189 rfl) rfl
theorem t3_190 : (Jvm.Cond.code ({ cls := "BlobStoreModel", name := "says", desc := "(I)Z" } : Jvm.MethodName) prog_9_method_3_code (2 : Nat) (Option.some Jvm.ClassFile.FieldType.boolean)) ∈ Tb := tb_t (tt_3 190 rfl) rfl
theorem t3_191 : (Jvm.Cond.methodLink "BlobStoreModel" (115 : Nat) ({ cls := "BlobStoreModel", name := "writes", desc := "(I)Z" } : Jvm.MethodName)) ∈ Tb := tb_t (tt_3 191 rfl) rfl
theorem u3_192 : (Jvm.Cond.privateMethod ({ cls := "BlobStoreModel", name := "writes", desc := "(I)Z" } : Jvm.MethodName)) ∈ tables_1 := tt_3 192 rfl
theorem t3_193 : (Jvm.Cond.instanceMethod ({ cls := "BlobStoreModel", name := "writes", desc := "(I)Z" } : Jvm.MethodName)) ∈ Tb := tb_t (tt_3 193 rfl) rfl
theorem t3_194 : (Jvm.Cond.code ({ cls := "BlobStoreModel", name := "writes", desc := "(I)Z" } : Jvm.MethodName) prog_9_method_10_code (2 : Nat) (Option.some Jvm.ClassFile.FieldType.boolean)) ∈ Tb := tb_t (tt_3 194 rfl) rfl
theorem t3_195 : (Jvm.Cond.methodLink "BlobStoreLaw" (67 : Nat) ({ cls := "BlobStoreModel", name := "part", desc := "(IIIJJJ)I" } : Jvm.MethodName)) ∈ Tb := tb_t (tt_3 195 rfl) rfl
theorem t3_196 : (Jvm.Cond.instanceMethod ({ cls := "BlobStoreModel", name := "part", desc := "(IIIJJJ)I" } : Jvm.MethodName)) ∈ Tb := tb_t (tt_3 196 rfl) rfl
theorem t3_197 : (Jvm.Cond.selects "BlobStoreModel" ({ cls := "BlobStoreModel", name := "part", desc := "(IIIJJJ)I" } : Jvm.MethodName) ({ cls := "BlobStoreModel", name := "part", desc := "(IIIJJJ)I" } : Jvm.MethodName)) ∈ Tb := tb_t (tt_3 197 rfl) rfl
theorem t3_198 : (Jvm.Cond.code ({ cls := "BlobStoreModel", name := "part", desc := "(IIIJJJ)I" } : Jvm.MethodName) prog_9_method_21_code (15 : Nat) (Option.some Jvm.ClassFile.FieldType.int)) ∈ Tb := tb_t (tt_3 198 rfl) rfl
theorem t3_199 : (Jvm.Cond.methodLink "BlobStoreModel" (117 : Nat) ({ cls := "BlobStoreModel", name := "isOpen", desc := "(I)Z" } : Jvm.MethodName)) ∈ Tb := tb_t (tt_3 199 rfl) rfl
theorem u3_200 : (Jvm.Cond.privateMethod ({ cls := "BlobStoreModel", name := "isOpen", desc := "(I)Z" } : Jvm.MethodName)) ∈ tables_1 := tt_3 200 rfl
theorem t3_201 : (Jvm.Cond.instanceMethod ({ cls := "BlobStoreModel", name := "isOpen", desc := "(I)Z" } : Jvm.MethodName)) ∈ Tb := tb_t (tt_3 201 rfl) rfl
theorem t3_202 : (Jvm.Cond.code ({ cls := "BlobStoreModel", name := "isOpen", desc := "(I)Z" } : Jvm.MethodName) prog_9_method_19_code (2 : Nat) (Option.some Jvm.ClassFile.FieldType.boolean)) ∈ Tb := tb_t (tt_3 202 rfl) rfl
theorem t3_203 : (Jvm.Cond.methodLink "BlobStoreModel" (120 : Nat) ({ cls := "BlobStoreModel", name := "lay", desc := "(JJJ)V" } : Jvm.MethodName)) ∈ Tb := tb_t (tt_3 203 rfl) rfl
theorem u3_204 : (Jvm.Cond.privateMethod ({ cls := "BlobStoreModel", name := "lay", desc := "(JJJ)V" } : Jvm.MethodName)) ∈ tables_1 := tt_3 204 rfl
theorem t3_205 : (Jvm.Cond.instanceMethod ({ cls := "BlobStoreModel", name := "lay", desc := "(JJJ)V" } : Jvm.MethodName)) ∈ Tb := tb_t (tt_3 205 rfl) rfl
theorem t3_206 : (Jvm.Cond.code ({ cls := "BlobStoreModel", name := "lay", desc := "(JJJ)V" } : Jvm.MethodName) prog_9_method_18_code (8 : Nat) (Option.none : Option Jvm.ClassFile.FieldType)) ∈ Tb := tb_t (tt_3 206 rfl) rfl
theorem t3_207 : (Jvm.Cond.constantLong "BlobStoreModel" (107 : Nat) (255 : Int64)) ∈ Tb := tb_t (tt_3 207 rfl) rfl
theorem t3_208 : (Jvm.Cond.methodLink "BlobStoreModel" (124 : Nat) ({ cls := "BlobStoreModel", name := "missing", desc := "(I)I" } : Jvm.MethodName)) ∈ Tb := tb_t (tt_3 208 rfl) rfl
theorem u3_209 : (Jvm.Cond.privateMethod ({ cls := "BlobStoreModel", name := "missing", desc := "(I)I" } : Jvm.MethodName)) ∈ tables_1 := tt_3 209 rfl
theorem t3_210 : (Jvm.Cond.instanceMethod ({ cls := "BlobStoreModel", name := "missing", desc := "(I)I" } : Jvm.MethodName)) ∈ Tb := tb_t (tt_3 210 rfl) rfl
theorem t3_211 : (Jvm.Cond.code ({ cls := "BlobStoreModel", name := "missing", desc := "(I)I" } : Jvm.MethodName) prog_9_method_15_code (7 : Nat) (Option.some Jvm.ClassFile.FieldType.int)) ∈ Tb := tb_t (tt_3 211 rfl) rfl
theorem t3_212 : (Jvm.Cond.methodLink "BlobStoreModel" (98 : Nat) ({ cls := "BlobStoreModel", name := "chunkSize", desc := "(II)I" } : Jvm.MethodName)) ∈ Tb := tb_t (tt_3 212 rfl) rfl
theorem t3_213 : (Jvm.Cond.static ({ cls := "BlobStoreModel", name := "chunkSize", desc := "(II)I" } : Jvm.MethodName)) ∈ Tb := tb_t (tt_3 213 rfl) rfl
theorem t3_214 : (Jvm.Cond.code ({ cls := "BlobStoreModel", name := "chunkSize", desc := "(II)I" } : Jvm.MethodName) prog_9_method_13_code (2 : Nat) (Option.some Jvm.ClassFile.FieldType.int)) ∈ Tb := tb_t (tt_3 214 rfl) rfl
theorem t3_215 : (Jvm.Cond.methodLink "BlobStoreModel" (101 : Nat) ({ cls := "BlobStoreModel", name := "find", desc := "(II)I" } : Jvm.MethodName)) ∈ Tb := tb_t (tt_3 215 rfl) rfl
theorem u3_216 : (Jvm.Cond.privateMethod ({ cls := "BlobStoreModel", name := "find", desc := "(II)I" } : Jvm.MethodName)) ∈ tables_1 := tt_3 216 rfl
theorem t3_217 : (Jvm.Cond.instanceMethod ({ cls := "BlobStoreModel", name := "find", desc := "(II)I" } : Jvm.MethodName)) ∈ Tb := tb_t (tt_3 217 rfl) rfl
theorem t3_218 : (Jvm.Cond.code ({ cls := "BlobStoreModel", name := "find", desc := "(II)I" } : Jvm.MethodName) prog_9_method_12_code (4 : Nat) (Option.some Jvm.ClassFile.FieldType.int)) ∈ Tb := tb_t (tt_3 218 rfl) rfl
theorem t3_219 : (Jvm.Cond.methodLink "BlobStoreModel" (94 : Nat) ({ cls := "BlobStoreModel", name := "isThere", desc := "(III)Z" } : Jvm.MethodName)) ∈ Tb := tb_t (tt_3 219 rfl) rfl
theorem u3_220 : (Jvm.Cond.privateMethod ({ cls := "BlobStoreModel", name := "isThere", desc := "(III)Z" } : Jvm.MethodName)) ∈ tables_1 := tt_3 220 rfl
theorem t3_221 : (Jvm.Cond.instanceMethod ({ cls := "BlobStoreModel", name := "isThere", desc := "(III)Z" } : Jvm.MethodName)) ∈ Tb := tb_t (tt_3 221 rfl) rfl
theorem t3_222 : (Jvm.Cond.code ({ cls := "BlobStoreModel", name := "isThere", desc := "(III)Z" } : Jvm.MethodName) prog_9_method_11_code (5 : Nat) (Option.some Jvm.ClassFile.FieldType.boolean)) ∈ Tb := tb_t (tt_3 222 rfl) rfl
theorem t3_223 : (Jvm.Cond.methodLink "BlobStoreModel" (104 : Nat) ({ cls := "BlobStoreModel", name := "isAlike", desc := "(III)Z" } : Jvm.MethodName)) ∈ Tb := tb_t (tt_3 223 rfl) rfl
theorem u3_224 : (Jvm.Cond.privateMethod ({ cls := "BlobStoreModel", name := "isAlike", desc := "(III)Z" } : Jvm.MethodName)) ∈ tables_1 := tt_3 224 rfl
theorem t3_225 : (Jvm.Cond.instanceMethod ({ cls := "BlobStoreModel", name := "isAlike", desc := "(III)Z" } : Jvm.MethodName)) ∈ Tb := tb_t (tt_3 225 rfl) rfl
theorem t3_226 : (Jvm.Cond.code ({ cls := "BlobStoreModel", name := "isAlike", desc := "(III)Z" } : Jvm.MethodName) prog_9_method_14_code (5 : Nat) (Option.some Jvm.ClassFile.FieldType.boolean)) ∈ Tb := tb_t (tt_3 226 rfl) rfl
theorem t3_227 : (Jvm.Cond.methodLink "BlobStoreModel" (128 : Nat) ({ cls := "BlobStoreModel", name := "freeSlots", desc := "()I" } : Jvm.MethodName)) ∈ Tb := tb_t (tt_3 227 rfl) rfl
theorem u3_228 : (Jvm.Cond.privateMethod ({ cls := "BlobStoreModel", name := "freeSlots", desc := "()I" } : Jvm.MethodName)) ∈ tables_1 := tt_3 228 rfl
theorem t3_229 : (Jvm.Cond.instanceMethod ({ cls := "BlobStoreModel", name := "freeSlots", desc := "()I" } : Jvm.MethodName)) ∈ Tb := tb_t (tt_3 229 rfl) rfl
theorem t3_230 : (Jvm.Cond.code ({ cls := "BlobStoreModel", name := "freeSlots", desc := "()I" } : Jvm.MethodName) prog_9_method_16_code (3 : Nat) (Option.some Jvm.ClassFile.FieldType.int)) ∈ Tb := tb_t (tt_3 230 rfl) rfl
theorem t3_231 : (Jvm.Cond.methodLink "BlobStoreModel" (132 : Nat) ({ cls := "BlobStoreModel", name := "firstFree", desc := "()I" } : Jvm.MethodName)) ∈ Tb := tb_t (tt_3 231 rfl) rfl
theorem u3_232 : (Jvm.Cond.privateMethod ({ cls := "BlobStoreModel", name := "firstFree", desc := "()I" } : Jvm.MethodName)) ∈ tables_1 := tt_3 232 rfl
theorem t3_233 : (Jvm.Cond.instanceMethod ({ cls := "BlobStoreModel", name := "firstFree", desc := "()I" } : Jvm.MethodName)) ∈ Tb := tb_t (tt_3 233 rfl) rfl
theorem t3_234 : (Jvm.Cond.code ({ cls := "BlobStoreModel", name := "firstFree", desc := "()I" } : Jvm.MethodName) prog_9_method_17_code (2 : Nat) (Option.some Jvm.ClassFile.FieldType.int)) ∈ Tb := tb_t (tt_3 234 rfl) rfl
theorem t3_235 : (Jvm.Cond.methodLink "BlobStoreLaw" (71 : Nat) ({ cls := "BlobStoreModel", name := "complete", desc := "(I)I" } : Jvm.MethodName)) ∈ Tb := tb_t (tt_3 235 rfl) rfl
theorem t3_236 : (Jvm.Cond.instanceMethod ({ cls := "BlobStoreModel", name := "complete", desc := "(I)I" } : Jvm.MethodName)) ∈ Tb := tb_t (tt_3 236 rfl) rfl
theorem t3_237 : (Jvm.Cond.selects "BlobStoreModel" ({ cls := "BlobStoreModel", name := "complete", desc := "(I)I" } : Jvm.MethodName) ({ cls := "BlobStoreModel", name := "complete", desc := "(I)I" } : Jvm.MethodName)) ∈ Tb := tb_t (tt_3 237 rfl) rfl
theorem t3_238 : (Jvm.Cond.code ({ cls := "BlobStoreModel", name := "complete", desc := "(I)I" } : Jvm.MethodName) prog_9_method_22_code (5 : Nat) (Option.some Jvm.ClassFile.FieldType.int)) ∈ Tb := tb_t (tt_3 238 rfl) rfl
theorem t3_239 : (Jvm.Cond.methodLink "BlobStoreLaw" (75 : Nat) ({ cls := "BlobStoreModel", name := "abort", desc := "(I)V" } : Jvm.MethodName)) ∈ Tb := tb_t (tt_3 239 rfl) rfl
theorem t4_0 : (Jvm.Cond.instanceMethod ({ cls := "BlobStoreModel", name := "abort", desc := "(I)V" } : Jvm.MethodName)) ∈ Tb := tb_t (tt_4 0 rfl) rfl
theorem t4_1 : (Jvm.Cond.selects "BlobStoreModel" ({ cls := "BlobStoreModel", name := "abort", desc := "(I)V" } : Jvm.MethodName) ({ cls := "BlobStoreModel", name := "abort", desc := "(I)V" } : Jvm.MethodName)) ∈ Tb := tb_t (tt_4 1 rfl) rfl
theorem t4_2 : (Jvm.Cond.code ({ cls := "BlobStoreModel", name := "abort", desc := "(I)V" } : Jvm.MethodName) prog_9_method_23_code (2 : Nat) (Option.none : Option Jvm.ClassFile.FieldType)) ∈ Tb := tb_t (tt_4 2 rfl) rfl
theorem t4_3 : (Jvm.Cond.methodLink "BlobStoreLaw" (78 : Nat) ({ cls := "BlobStoreModel", name := "delete", desc := "(I)Z" } : Jvm.MethodName)) ∈ Tb := tb_t (tt_4 3 rfl) rfl
theorem t4_4 : (Jvm.Cond.instanceMethod ({ cls := "BlobStoreModel", name := "delete", desc := "(I)Z" } : Jvm.MethodName)) ∈ Tb := tb_t (tt_4 4 rfl) rfl
theorem t4_5 : (Jvm.Cond.selects "BlobStoreModel" ({ cls := "BlobStoreModel", name := "delete", desc := "(I)Z" } : Jvm.MethodName) ({ cls := "BlobStoreModel", name := "delete", desc := "(I)Z" } : Jvm.MethodName)) ∈ Tb := tb_t (tt_4 5 rfl) rfl
theorem t4_6 : (Jvm.Cond.code ({ cls := "BlobStoreModel", name := "delete", desc := "(I)Z" } : Jvm.MethodName) prog_9_method_25_code (2 : Nat) (Option.some Jvm.ClassFile.FieldType.boolean)) ∈ Tb := tb_t (tt_4 6 rfl) rfl
theorem t4_7 : (Jvm.Cond.methodLink "BlobStoreModel" (138 : Nat) ({ cls := "BlobStoreModel", name := "isLiving", desc := "(I)Z" } : Jvm.MethodName)) ∈ Tb := tb_t (tt_4 7 rfl) rfl
theorem u4_8 : (Jvm.Cond.privateMethod ({ cls := "BlobStoreModel", name := "isLiving", desc := "(I)Z" } : Jvm.MethodName)) ∈ tables_1 := tt_4 8 rfl
theorem t4_9 : (Jvm.Cond.instanceMethod ({ cls := "BlobStoreModel", name := "isLiving", desc := "(I)Z" } : Jvm.MethodName)) ∈ Tb := tb_t (tt_4 9 rfl) rfl
theorem t4_10 : (Jvm.Cond.code ({ cls := "BlobStoreModel", name := "isLiving", desc := "(I)Z" } : Jvm.MethodName) prog_9_method_24_code (2 : Nat) (Option.some Jvm.ClassFile.FieldType.boolean)) ∈ Tb := tb_t (tt_4 10 rfl) rfl
theorem t4_11 : (Jvm.Cond.methodLink "BlobStoreLaw" (82 : Nat) ({ cls := "BlobStoreModel", name := "collect", desc := "()I" } : Jvm.MethodName)) ∈ Tb := tb_t (tt_4 11 rfl) rfl
theorem t4_12 : (Jvm.Cond.instanceMethod ({ cls := "BlobStoreModel", name := "collect", desc := "()I" } : Jvm.MethodName)) ∈ Tb := tb_t (tt_4 12 rfl) rfl
theorem t4_13 : (Jvm.Cond.selects "BlobStoreModel" ({ cls := "BlobStoreModel", name := "collect", desc := "()I" } : Jvm.MethodName) ({ cls := "BlobStoreModel", name := "collect", desc := "()I" } : Jvm.MethodName)) ∈ Tb := tb_t (tt_4 13 rfl) rfl
theorem t4_14 : (Jvm.Cond.code ({ cls := "BlobStoreModel", name := "collect", desc := "()I" } : Jvm.MethodName) prog_9_method_28_code (3 : Nat) (Option.some Jvm.ClassFile.FieldType.int)) ∈ Tb := tb_t (tt_4 14 rfl) rfl
theorem t4_15 : (Jvm.Cond.methodLink "BlobStoreModel" (144 : Nat) ({ cls := "BlobStoreModel", name := "need", desc := "(I)I" } : Jvm.MethodName)) ∈ Tb := tb_t (tt_4 15 rfl) rfl
theorem u4_16 : (Jvm.Cond.privateMethod ({ cls := "BlobStoreModel", name := "need", desc := "(I)I" } : Jvm.MethodName)) ∈ tables_1 := tt_4 16 rfl
theorem t4_17 : (Jvm.Cond.instanceMethod ({ cls := "BlobStoreModel", name := "need", desc := "(I)I" } : Jvm.MethodName)) ∈ Tb := tb_t (tt_4 17 rfl) rfl
theorem t4_18 : (Jvm.Cond.code ({ cls := "BlobStoreModel", name := "need", desc := "(I)I" } : Jvm.MethodName) prog_9_method_27_code (5 : Nat) (Option.some Jvm.ClassFile.FieldType.int)) ∈ Tb := tb_t (tt_4 18 rfl) rfl
theorem t4_19 : (Jvm.Cond.methodLink "BlobStoreModel" (141 : Nat) ({ cls := "BlobStoreModel", name := "slotAt", desc := "(II)I" } : Jvm.MethodName)) ∈ Tb := tb_t (tt_4 19 rfl) rfl
theorem u4_20 : (Jvm.Cond.privateMethod ({ cls := "BlobStoreModel", name := "slotAt", desc := "(II)I" } : Jvm.MethodName)) ∈ tables_1 := tt_4 20 rfl
theorem t4_21 : (Jvm.Cond.instanceMethod ({ cls := "BlobStoreModel", name := "slotAt", desc := "(II)I" } : Jvm.MethodName)) ∈ Tb := tb_t (tt_4 21 rfl) rfl
theorem t4_22 : (Jvm.Cond.code ({ cls := "BlobStoreModel", name := "slotAt", desc := "(II)I" } : Jvm.MethodName) prog_9_method_26_code (3 : Nat) (Option.some Jvm.ClassFile.FieldType.int)) ∈ Tb := tb_t (tt_4 22 rfl) rfl
theorem t4_23 : (Jvm.Cond.methodLink "BlobStoreLaw" (85 : Nat) ({ cls := "BlobStoreModel", name := "cutAfter", desc := "(I)V" } : Jvm.MethodName)) ∈ Tb := tb_t (tt_4 23 rfl) rfl
theorem t4_24 : (Jvm.Cond.instanceMethod ({ cls := "BlobStoreModel", name := "cutAfter", desc := "(I)V" } : Jvm.MethodName)) ∈ Tb := tb_t (tt_4 24 rfl) rfl
theorem t4_25 : (Jvm.Cond.selects "BlobStoreModel" ({ cls := "BlobStoreModel", name := "cutAfter", desc := "(I)V" } : Jvm.MethodName) ({ cls := "BlobStoreModel", name := "cutAfter", desc := "(I)V" } : Jvm.MethodName)) ∈ Tb := tb_t (tt_4 25 rfl) rfl
theorem t4_26 : (Jvm.Cond.code ({ cls := "BlobStoreModel", name := "cutAfter", desc := "(I)V" } : Jvm.MethodName) prog_9_method_29_code (2 : Nat) (Option.none : Option Jvm.ClassFile.FieldType)) ∈ Tb := tb_t (tt_4 26 rfl) rfl
theorem t4_27 : (Jvm.Cond.methodLink "BlobStoreLaw" (90 : Nat) ({ cls := "BlobStoreModel", name := "recover", desc := "()Z" } : Jvm.MethodName)) ∈ Tb := tb_t (tt_4 27 rfl) rfl
theorem t4_28 : (Jvm.Cond.instanceMethod ({ cls := "BlobStoreModel", name := "recover", desc := "()Z" } : Jvm.MethodName)) ∈ Tb := tb_t (tt_4 28 rfl) rfl
theorem t4_29 : (Jvm.Cond.selects "BlobStoreModel" ({ cls := "BlobStoreModel", name := "recover", desc := "()Z" } : Jvm.MethodName) ({ cls := "BlobStoreModel", name := "recover", desc := "()Z" } : Jvm.MethodName)) ∈ Tb := tb_t (tt_4 29 rfl) rfl
theorem t4_30 : (Jvm.Cond.code ({ cls := "BlobStoreModel", name := "recover", desc := "()Z" } : Jvm.MethodName) prog_9_method_30_code (2 : Nat) (Option.some Jvm.ClassFile.FieldType.boolean)) ∈ Tb := tb_t (tt_4 30 rfl) rfl
theorem t4_31 : (Jvm.Cond.methodLink "BlobStoreLaw" (94 : Nat) ({ cls := "BlobStoreModel", name := "latest", desc := "(II)I" } : Jvm.MethodName)) ∈ Tb := tb_t (tt_4 31 rfl) rfl
theorem t4_32 : (Jvm.Cond.instanceMethod ({ cls := "BlobStoreModel", name := "latest", desc := "(II)I" } : Jvm.MethodName)) ∈ Tb := tb_t (tt_4 32 rfl) rfl
theorem t4_33 : (Jvm.Cond.selects "BlobStoreModel" ({ cls := "BlobStoreModel", name := "latest", desc := "(II)I" } : Jvm.MethodName) ({ cls := "BlobStoreModel", name := "latest", desc := "(II)I" } : Jvm.MethodName)) ∈ Tb := tb_t (tt_4 33 rfl) rfl
theorem t4_34 : (Jvm.Cond.code ({ cls := "BlobStoreModel", name := "latest", desc := "(II)I" } : Jvm.MethodName) prog_9_method_31_code (4 : Nat) (Option.some Jvm.ClassFile.FieldType.int)) ∈ Tb := tb_t (tt_4 34 rfl) rfl
theorem t4_35 : (Jvm.Cond.methodLink "BlobStoreLaw" (98 : Nat) ({ cls := "BlobStoreModel", name := "size", desc := "(I)I" } : Jvm.MethodName)) ∈ Tb := tb_t (tt_4 35 rfl) rfl
theorem t4_36 : (Jvm.Cond.instanceMethod ({ cls := "BlobStoreModel", name := "size", desc := "(I)I" } : Jvm.MethodName)) ∈ Tb := tb_t (tt_4 36 rfl) rfl
theorem t4_37 : (Jvm.Cond.selects "BlobStoreModel" ({ cls := "BlobStoreModel", name := "size", desc := "(I)I" } : Jvm.MethodName) ({ cls := "BlobStoreModel", name := "size", desc := "(I)I" } : Jvm.MethodName)) ∈ Tb := tb_t (tt_4 37 rfl) rfl
theorem t4_38 : (Jvm.Cond.code ({ cls := "BlobStoreModel", name := "size", desc := "(I)I" } : Jvm.MethodName) prog_9_method_32_code (4 : Nat) (Option.some Jvm.ClassFile.FieldType.int)) ∈ Tb := tb_t (tt_4 38 rfl) rfl
theorem t4_39 : (Jvm.Cond.methodLink "BlobStoreLaw" (102 : Nat) ({ cls := "BlobStoreModel", name := "byteAt", desc := "(II)I" } : Jvm.MethodName)) ∈ Tb := tb_t (tt_4 39 rfl) rfl
theorem t4_40 : (Jvm.Cond.instanceMethod ({ cls := "BlobStoreModel", name := "byteAt", desc := "(II)I" } : Jvm.MethodName)) ∈ Tb := tb_t (tt_4 40 rfl) rfl
theorem t4_41 : (Jvm.Cond.selects "BlobStoreModel" ({ cls := "BlobStoreModel", name := "byteAt", desc := "(II)I" } : Jvm.MethodName) ({ cls := "BlobStoreModel", name := "byteAt", desc := "(II)I" } : Jvm.MethodName)) ∈ Tb := tb_t (tt_4 41 rfl) rfl
theorem t4_42 : (Jvm.Cond.code ({ cls := "BlobStoreModel", name := "byteAt", desc := "(II)I" } : Jvm.MethodName) prog_9_method_33_code (6 : Nat) (Option.some Jvm.ClassFile.FieldType.int)) ∈ Tb := tb_t (tt_4 42 rfl) rfl
theorem t4_43 : (Jvm.Cond.methodLink "BlobStoreLaw" (105 : Nat) ({ cls := "BlobStoreModel", name := "address", desc := "(II)I" } : Jvm.MethodName)) ∈ Tb := tb_t (tt_4 43 rfl) rfl
theorem t4_44 : (Jvm.Cond.instanceMethod ({ cls := "BlobStoreModel", name := "address", desc := "(II)I" } : Jvm.MethodName)) ∈ Tb := tb_t (tt_4 44 rfl) rfl
theorem t4_45 : (Jvm.Cond.selects "BlobStoreModel" ({ cls := "BlobStoreModel", name := "address", desc := "(II)I" } : Jvm.MethodName) ({ cls := "BlobStoreModel", name := "address", desc := "(II)I" } : Jvm.MethodName)) ∈ Tb := tb_t (tt_4 45 rfl) rfl
theorem t4_46 : (Jvm.Cond.code ({ cls := "BlobStoreModel", name := "address", desc := "(II)I" } : Jvm.MethodName) prog_9_method_35_code (3 : Nat) (Option.some Jvm.ClassFile.FieldType.int)) ∈ Tb := tb_t (tt_4 46 rfl) rfl
theorem t4_47 : (Jvm.Cond.methodLink "BlobStoreModel" (147 : Nat) ({ cls := "BlobStoreModel", name := "hasChunk", desc := "(I)Z" } : Jvm.MethodName)) ∈ Tb := tb_t (tt_4 47 rfl) rfl
theorem u4_48 : (Jvm.Cond.privateMethod ({ cls := "BlobStoreModel", name := "hasChunk", desc := "(I)Z" } : Jvm.MethodName)) ∈ tables_1 := tt_4 48 rfl
theorem t4_49 : (Jvm.Cond.instanceMethod ({ cls := "BlobStoreModel", name := "hasChunk", desc := "(I)Z" } : Jvm.MethodName)) ∈ Tb := tb_t (tt_4 49 rfl) rfl
theorem t4_50 : (Jvm.Cond.code ({ cls := "BlobStoreModel", name := "hasChunk", desc := "(I)Z" } : Jvm.MethodName) prog_9_method_34_code (2 : Nat) (Option.some Jvm.ClassFile.FieldType.boolean)) ∈ Tb := tb_t (tt_4 50 rfl) rfl
theorem t4_51 : (Jvm.Cond.methodLink "BlobStoreModel" (150 : Nat) ({ cls := "BlobStoreModel", name := "addressOf", desc := "(I)V" } : Jvm.MethodName)) ∈ Tb := tb_t (tt_4 51 rfl) rfl
theorem u4_52 : (Jvm.Cond.privateMethod ({ cls := "BlobStoreModel", name := "addressOf", desc := "(I)V" } : Jvm.MethodName)) ∈ tables_1 := tt_4 52 rfl
theorem t4_53 : (Jvm.Cond.instanceMethod ({ cls := "BlobStoreModel", name := "addressOf", desc := "(I)V" } : Jvm.MethodName)) ∈ Tb := tb_t (tt_4 53 rfl) rfl
theorem t4_54 : (Jvm.Cond.code ({ cls := "BlobStoreModel", name := "addressOf", desc := "(I)V" } : Jvm.MethodName) prog_9_method_9_code (9 : Nat) (Option.none : Option Jvm.ClassFile.FieldType)) ∈ Tb := tb_t (tt_4 54 rfl) rfl
theorem t4_55 : (Jvm.Cond.methodLink "BlobStoreModel" (84 : Nat) ({ cls := "BlobStoreModel", name := "turn", desc := "(II)I" } : Jvm.MethodName)) ∈ Tb := tb_t (tt_4 55 rfl) rfl
theorem t4_56 : (Jvm.Cond.static ({ cls := "BlobStoreModel", name := "turn", desc := "(II)I" } : Jvm.MethodName)) ∈ Tb := tb_t (tt_4 56 rfl) rfl
theorem t4_57 : (Jvm.Cond.code ({ cls := "BlobStoreModel", name := "turn", desc := "(II)I" } : Jvm.MethodName) prog_9_method_8_code (2 : Nat) (Option.some Jvm.ClassFile.FieldType.int)) ∈ Tb := tb_t (tt_4 57 rfl) rfl
theorem t4_58 : (Jvm.Cond.methodLink "BlobStoreLaw" (109 : Nat) ({ cls := "BlobStoreModel", name := "needed", desc := "(I)I" } : Jvm.MethodName)) ∈ Tb := tb_t (tt_4 58 rfl) rfl
theorem t4_59 : (Jvm.Cond.instanceMethod ({ cls := "BlobStoreModel", name := "needed", desc := "(I)I" } : Jvm.MethodName)) ∈ Tb := tb_t (tt_4 59 rfl) rfl
theorem t4_60 : (Jvm.Cond.selects "BlobStoreModel" ({ cls := "BlobStoreModel", name := "needed", desc := "(I)I" } : Jvm.MethodName) ({ cls := "BlobStoreModel", name := "needed", desc := "(I)I" } : Jvm.MethodName)) ∈ Tb := tb_t (tt_4 60 rfl) rfl
theorem t4_61 : (Jvm.Cond.code ({ cls := "BlobStoreModel", name := "needed", desc := "(I)I" } : Jvm.MethodName) prog_9_method_36_code (2 : Nat) (Option.some Jvm.ClassFile.FieldType.int)) ∈ Tb := tb_t (tt_4 61 rfl) rfl
theorem t4_62 : (Jvm.Cond.methodLink "BlobStoreLaw" (114 : Nat) ({ cls := "BlobStoreModel", name := "slotOf", desc := "(IJ)I" } : Jvm.MethodName)) ∈ Tb := tb_t (tt_4 62 rfl) rfl
theorem t4_63 : (Jvm.Cond.instanceMethod ({ cls := "BlobStoreModel", name := "slotOf", desc := "(IJ)I" } : Jvm.MethodName)) ∈ Tb := tb_t (tt_4 63 rfl) rfl
theorem t4_64 : (Jvm.Cond.selects "BlobStoreModel" ({ cls := "BlobStoreModel", name := "slotOf", desc := "(IJ)I" } : Jvm.MethodName) ({ cls := "BlobStoreModel", name := "slotOf", desc := "(IJ)I" } : Jvm.MethodName)) ∈ Tb := tb_t (tt_4 64 rfl) rfl
theorem t4_65 : (Jvm.Cond.code ({ cls := "BlobStoreModel", name := "slotOf", desc := "(IJ)I" } : Jvm.MethodName) prog_9_method_37_code (4 : Nat) (Option.some Jvm.ClassFile.FieldType.int)) ∈ Tb := tb_t (tt_4 65 rfl) rfl
theorem t4_66 : (Jvm.Cond.methodLink "BlobStoreLaw" (118 : Nat) ({ cls := "BlobStoreModel", name := "state", desc := "(I)I" } : Jvm.MethodName)) ∈ Tb := tb_t (tt_4 66 rfl) rfl
theorem t4_67 : (Jvm.Cond.instanceMethod ({ cls := "BlobStoreModel", name := "state", desc := "(I)I" } : Jvm.MethodName)) ∈ Tb := tb_t (tt_4 67 rfl) rfl
theorem t4_68 : (Jvm.Cond.selects "BlobStoreModel" ({ cls := "BlobStoreModel", name := "state", desc := "(I)I" } : Jvm.MethodName) ({ cls := "BlobStoreModel", name := "state", desc := "(I)I" } : Jvm.MethodName)) ∈ Tb := tb_t (tt_4 68 rfl) rfl
theorem t4_69 : (Jvm.Cond.code ({ cls := "BlobStoreModel", name := "state", desc := "(I)I" } : Jvm.MethodName) prog_9_method_38_code (4 : Nat) (Option.some Jvm.ClassFile.FieldType.int)) ∈ Tb := tb_t (tt_4 69 rfl) rfl
theorem t4_70 : (Jvm.Cond.constantLong "BlobStoreLaw" (62 : Nat) (4294967295 : Int64)) ∈ Tb := tb_t (tt_4 70 rfl) rfl
theorem u4_71 : (Jvm.Cond.sameMethod "java/lang/Throwable" "java/lang/Throwable" "fillInStackTrace" "(I)Ljava/lang/Throwable;") ∈ tables_1 := tt_4 71 rfl
theorem s_0 : Cond.selects "BlobStore$Power" ⟨"BlobStore$Power", "turnOn", "()Z"⟩ ⟨"BlobStore$Power", "turnOn", "()Z"⟩ ∈ Tb := tb_s (q := (⟨"BlobStore$Power", "turnOn", "()Z"⟩, 3)) (by decide +kernel) rfl
theorem s_1 : Cond.selects "BlobStore" ⟨"BlobStore", "livingVersion", "(I)LBlobStore$Version;"⟩ ⟨"BlobStore", "livingVersion", "(I)LBlobStore$Version;"⟩ ∈ Tb := tb_s (q := (⟨"BlobStore", "livingVersion", "(I)LBlobStore$Version;"⟩, 10)) (by decide +kernel) rfl
theorem s_2 : Cond.selects "BlobStore$Chunk" ⟨"BlobStore$Chunk", "byteOf", "(I)I"⟩ ⟨"BlobStore$Chunk", "byteOf", "(I)I"⟩ ∈ Tb := tb_s (q := (⟨"BlobStore$Chunk", "byteOf", "(I)I"⟩, 3)) (by decide +kernel) rfl
theorem s_3 : Cond.selects "BlobStore" ⟨"BlobStore", "hasChunk", "(I)Z"⟩ ⟨"BlobStore", "hasChunk", "(I)Z"⟩ ∈ Tb := tb_s (q := (⟨"BlobStore", "hasChunk", "(I)Z"⟩, 10)) (by decide +kernel) rfl
theorem s_4 : Cond.selects "BlobStore$Chunk" ⟨"BlobStore$Chunk", "isFree", "()Z"⟩ ⟨"BlobStore$Chunk", "isFree", "()Z"⟩ ∈ Tb := tb_s (q := (⟨"BlobStore$Chunk", "isFree", "()Z"⟩, 3)) (by decide +kernel) rfl
theorem s_5 : Cond.selects "BlobStore" ⟨"BlobStore", "countNeeds", "()V"⟩ ⟨"BlobStore", "countNeeds", "()V"⟩ ∈ Tb := tb_s (q := (⟨"BlobStore", "countNeeds", "()V"⟩, 10)) (by decide +kernel) rfl
theorem s_6 : Cond.selects "BlobStore$Session" ⟨"BlobStore$Session", "countInto", "([I)V"⟩ ⟨"BlobStore$Session", "countInto", "([I)V"⟩ ∈ Tb := tb_s (q := (⟨"BlobStore$Session", "countInto", "([I)V"⟩, 4)) (by decide +kernel) rfl
theorem s_7 : Cond.selects "BlobStore$Row" ⟨"BlobStore$Row", "countInto", "([I)V"⟩ ⟨"BlobStore$Row", "countInto", "([I)V"⟩ ∈ Tb := tb_s (q := (⟨"BlobStore$Row", "countInto", "([I)V"⟩, 2)) (by decide +kernel) rfl
theorem s_8 : Cond.selects "BlobStore$Chunk" ⟨"BlobStore$Chunk", "fill", "(IJLBlobStore$Sha256;)V"⟩ ⟨"BlobStore$Chunk", "fill", "(IJLBlobStore$Sha256;)V"⟩ ∈ Tb := tb_s (q := (⟨"BlobStore$Chunk", "fill", "(IJLBlobStore$Sha256;)V"⟩, 3)) (by decide +kernel) rfl
theorem s_9 : Cond.selects "BlobStore$Sha256" ⟨"BlobStore$Sha256", "digest", "(IJ[I)V"⟩ ⟨"BlobStore$Sha256", "digest", "(IJ[I)V"⟩ ∈ Tb := tb_s (q := (⟨"BlobStore$Sha256", "digest", "(IJ[I)V"⟩, 1)) (by decide +kernel) rfl
theorem s_10 : Cond.selects "BlobStore$Sha256" ⟨"BlobStore$Sha256", "padBlock", "(IJ)V"⟩ ⟨"BlobStore$Sha256", "padBlock", "(IJ)V"⟩ ∈ Tb := tb_s (q := (⟨"BlobStore$Sha256", "padBlock", "(IJ)V"⟩, 1)) (by decide +kernel) rfl
theorem s_11 : Cond.selects "BlobStore$Sha256" ⟨"BlobStore$Sha256", "expandBlock", "()V"⟩ ⟨"BlobStore$Sha256", "expandBlock", "()V"⟩ ∈ Tb := tb_s (q := (⟨"BlobStore$Sha256", "expandBlock", "()V"⟩, 1)) (by decide +kernel) rfl
theorem s_12 : Cond.selects "BlobStore$Sha256" ⟨"BlobStore$Sha256", "mixBlock", "([I)V"⟩ ⟨"BlobStore$Sha256", "mixBlock", "([I)V"⟩ ∈ Tb := tb_s (q := (⟨"BlobStore$Sha256", "mixBlock", "([I)V"⟩, 1)) (by decide +kernel) rfl
theorem s_13 : Cond.selects "BlobStore" ⟨"BlobStore", "slotWith", "(LBlobStore$Chunk;)I"⟩ ⟨"BlobStore", "slotWith", "(LBlobStore$Chunk;)I"⟩ ∈ Tb := tb_s (q := (⟨"BlobStore", "slotWith", "(LBlobStore$Chunk;)I"⟩, 10)) (by decide +kernel) rfl
theorem s_14 : Cond.selects "BlobStore$Chunk" ⟨"BlobStore$Chunk", "isLike", "(LBlobStore$Chunk;)Z"⟩ ⟨"BlobStore$Chunk", "isLike", "(LBlobStore$Chunk;)Z"⟩ ∈ Tb := tb_s (q := (⟨"BlobStore$Chunk", "isLike", "(LBlobStore$Chunk;)Z"⟩, 3)) (by decide +kernel) rfl
theorem s_15 : Cond.selects "BlobStore" ⟨"BlobStore", "countChunks", "()I"⟩ ⟨"BlobStore", "countChunks", "()I"⟩ ∈ Tb := tb_s (q := (⟨"BlobStore", "countChunks", "()I"⟩, 10)) (by decide +kernel) rfl
theorem s_16 : Cond.selects "BlobStore" ⟨"BlobStore", "countOpenSessions", "()I"⟩ ⟨"BlobStore", "countOpenSessions", "()I"⟩ ∈ Tb := tb_s (q := (⟨"BlobStore", "countOpenSessions", "()I"⟩, 10)) (by decide +kernel) rfl
theorem s_17 : Cond.selects "BlobStore" ⟨"BlobStore", "countLivingVersions", "()I"⟩ ⟨"BlobStore", "countLivingVersions", "()I"⟩ ∈ Tb := tb_s (q := (⟨"BlobStore", "countLivingVersions", "()I"⟩, 10)) (by decide +kernel) rfl
theorem s_18 : Cond.selects "BlobStore$Power" ⟨"BlobStore$Power", "requireOn", "()V"⟩ ⟨"BlobStore$Power", "requireOn", "()V"⟩ ∈ Tb := tb_s (q := (⟨"BlobStore$Power", "requireOn", "()V"⟩, 3)) (by decide +kernel) rfl
theorem s_19 : Cond.selects "java/lang/Throwable" ⟨"java/lang/Throwable", "fillInStackTrace", "(I)Ljava/lang/Throwable;"⟩ ⟨"java/lang/Throwable", "fillInStackTrace", "(I)Ljava/lang/Throwable;"⟩ ∈ Tb := tb_s (q := (⟨"java/lang/Throwable", "fillInStackTrace", "(I)Ljava/lang/Throwable;"⟩, 6)) (by decide +kernel) rfl
theorem s_20 : Cond.selects "BlobStore" ⟨"BlobStore", "leastClosedSession", "()I"⟩ ⟨"BlobStore", "leastClosedSession", "()I"⟩ ∈ Tb := tb_s (q := (⟨"BlobStore", "leastClosedSession", "()I"⟩, 10)) (by decide +kernel) rfl
theorem s_21 : Cond.selects "BlobStore$Power" ⟨"BlobStore$Power", "spendWrite", "()V"⟩ ⟨"BlobStore$Power", "spendWrite", "()V"⟩ ∈ Tb := tb_s (q := (⟨"BlobStore$Power", "spendWrite", "()V"⟩, 3)) (by decide +kernel) rfl
theorem s_22 : Cond.selects "BlobStore$Session" ⟨"BlobStore$Session", "start", "(II)V"⟩ ⟨"BlobStore$Session", "start", "(II)V"⟩ ∈ Tb := tb_s (q := (⟨"BlobStore$Session", "start", "(II)V"⟩, 4)) (by decide +kernel) rfl
theorem s_23 : Cond.selects "BlobStore" ⟨"BlobStore", "openSession", "(I)LBlobStore$Session;"⟩ ⟨"BlobStore", "openSession", "(I)LBlobStore$Session;"⟩ ∈ Tb := tb_s (q := (⟨"BlobStore", "openSession", "(I)LBlobStore$Session;"⟩, 10)) (by decide +kernel) rfl
theorem s_24 : Cond.selects "BlobStore" ⟨"BlobStore", "cutIntoChunks", "(IJJJ)I"⟩ ⟨"BlobStore", "cutIntoChunks", "(IJJJ)I"⟩ ∈ Tb := tb_s (q := (⟨"BlobStore", "cutIntoChunks", "(IJJJ)I"⟩, 10)) (by decide +kernel) rfl
theorem s_25 : Cond.selects "BlobStore" ⟨"BlobStore", "planSlots", "(I)V"⟩ ⟨"BlobStore", "planSlots", "(I)V"⟩ ∈ Tb := tb_s (q := (⟨"BlobStore", "planSlots", "(I)V"⟩, 10)) (by decide +kernel) rfl
theorem s_26 : Cond.selects "BlobStore" ⟨"BlobStore", "plannedSlot", "(I)I"⟩ ⟨"BlobStore", "plannedSlot", "(I)I"⟩ ∈ Tb := tb_s (q := (⟨"BlobStore", "plannedSlot", "(I)I"⟩, 10)) (by decide +kernel) rfl
theorem s_27 : Cond.selects "BlobStore" ⟨"BlobStore", "leastFreeSlot", "(I)I"⟩ ⟨"BlobStore", "leastFreeSlot", "(I)I"⟩ ∈ Tb := tb_s (q := (⟨"BlobStore", "leastFreeSlot", "(I)I"⟩, 10)) (by decide +kernel) rfl
theorem s_28 : Cond.selects "BlobStore$Row" ⟨"BlobStore$Row", "add", "(I)V"⟩ ⟨"BlobStore$Row", "add", "(I)V"⟩ ∈ Tb := tb_s (q := (⟨"BlobStore$Row", "add", "(I)V"⟩, 2)) (by decide +kernel) rfl
theorem s_29 : Cond.selects "BlobStore" ⟨"BlobStore", "writeChunks", "(I)I"⟩ ⟨"BlobStore", "writeChunks", "(I)I"⟩ ∈ Tb := tb_s (q := (⟨"BlobStore", "writeChunks", "(I)I"⟩, 10)) (by decide +kernel) rfl
theorem s_30 : Cond.selects "BlobStore$Chunk" ⟨"BlobStore$Chunk", "copyFrom", "(LBlobStore$Chunk;)V"⟩ ⟨"BlobStore$Chunk", "copyFrom", "(LBlobStore$Chunk;)V"⟩ ∈ Tb := tb_s (q := (⟨"BlobStore$Chunk", "copyFrom", "(LBlobStore$Chunk;)V"⟩, 3)) (by decide +kernel) rfl
theorem s_31 : Cond.selects "BlobStore$Row" ⟨"BlobStore$Row", "copyFrom", "(LBlobStore$Row;)V"⟩ ⟨"BlobStore$Row", "copyFrom", "(LBlobStore$Row;)V"⟩ ∈ Tb := tb_s (q := (⟨"BlobStore$Row", "copyFrom", "(LBlobStore$Row;)V"⟩, 2)) (by decide +kernel) rfl
theorem s_32 : Cond.selects "BlobStore$Row" ⟨"BlobStore$Row", "addAll", "(LBlobStore$Row;)V"⟩ ⟨"BlobStore$Row", "addAll", "(LBlobStore$Row;)V"⟩ ∈ Tb := tb_s (q := (⟨"BlobStore$Row", "addAll", "(LBlobStore$Row;)V"⟩, 2)) (by decide +kernel) rfl
theorem s_33 : Cond.selects "BlobStore$Version" ⟨"BlobStore$Version", "comeFrom", "(LBlobStore$Session;)V"⟩ ⟨"BlobStore$Version", "comeFrom", "(LBlobStore$Session;)V"⟩ ∈ Tb := tb_s (q := (⟨"BlobStore$Version", "comeFrom", "(LBlobStore$Session;)V"⟩, 4)) (by decide +kernel) rfl
theorem s_34 : Cond.selects "BlobStore$Chunk" ⟨"BlobStore$Chunk", "free", "()V"⟩ ⟨"BlobStore$Chunk", "free", "()V"⟩ ∈ Tb := tb_s (q := (⟨"BlobStore$Chunk", "free", "()V"⟩, 3)) (by decide +kernel) rfl
theorem s_35 : Cond.selects "BlobStore$Power" ⟨"BlobStore$Power", "tellCut", "(I)V"⟩ ⟨"BlobStore$Power", "tellCut", "(I)V"⟩ ∈ Tb := tb_s (q := (⟨"BlobStore$Power", "tellCut", "(I)V"⟩, 3)) (by decide +kernel) rfl
theorem s_36 : Cond.selects "BlobStoreModel" ⟨"BlobStoreModel", "root", "(II)I"⟩ ⟨"BlobStoreModel", "root", "(II)I"⟩ ∈ Tb := tb_s (q := (⟨"BlobStoreModel", "root", "(II)I"⟩, 22)) (by decide +kernel) rfl
theorem s_37 : Cond.selects "BlobStoreModel" ⟨"BlobStoreModel", "isAbove", "(JII)Z"⟩ ⟨"BlobStoreModel", "isAbove", "(JII)Z"⟩ ∈ Tb := tb_s (q := (⟨"BlobStoreModel", "isAbove", "(JII)Z"⟩, 22)) (by decide +kernel) rfl
theorem s_38 : Cond.selects "BlobStoreModel" ⟨"BlobStoreModel", "says", "(I)Z"⟩ ⟨"BlobStoreModel", "says", "(I)Z"⟩ ∈ Tb := tb_s (q := (⟨"BlobStoreModel", "says", "(I)Z"⟩, 22)) (by decide +kernel) rfl
theorem s_39 : Cond.selects "BlobStoreModel" ⟨"BlobStoreModel", "writes", "(I)Z"⟩ ⟨"BlobStoreModel", "writes", "(I)Z"⟩ ∈ Tb := tb_s (q := (⟨"BlobStoreModel", "writes", "(I)Z"⟩, 22)) (by decide +kernel) rfl
theorem s_40 : Cond.selects "BlobStoreModel" ⟨"BlobStoreModel", "isOpen", "(I)Z"⟩ ⟨"BlobStoreModel", "isOpen", "(I)Z"⟩ ∈ Tb := tb_s (q := (⟨"BlobStoreModel", "isOpen", "(I)Z"⟩, 22)) (by decide +kernel) rfl
theorem s_41 : Cond.selects "BlobStoreModel" ⟨"BlobStoreModel", "lay", "(JJJ)V"⟩ ⟨"BlobStoreModel", "lay", "(JJJ)V"⟩ ∈ Tb := tb_s (q := (⟨"BlobStoreModel", "lay", "(JJJ)V"⟩, 22)) (by decide +kernel) rfl
theorem s_42 : Cond.selects "BlobStoreModel" ⟨"BlobStoreModel", "missing", "(I)I"⟩ ⟨"BlobStoreModel", "missing", "(I)I"⟩ ∈ Tb := tb_s (q := (⟨"BlobStoreModel", "missing", "(I)I"⟩, 22)) (by decide +kernel) rfl
theorem s_43 : Cond.selects "BlobStoreModel" ⟨"BlobStoreModel", "find", "(II)I"⟩ ⟨"BlobStoreModel", "find", "(II)I"⟩ ∈ Tb := tb_s (q := (⟨"BlobStoreModel", "find", "(II)I"⟩, 22)) (by decide +kernel) rfl
theorem s_44 : Cond.selects "BlobStoreModel" ⟨"BlobStoreModel", "isThere", "(III)Z"⟩ ⟨"BlobStoreModel", "isThere", "(III)Z"⟩ ∈ Tb := tb_s (q := (⟨"BlobStoreModel", "isThere", "(III)Z"⟩, 22)) (by decide +kernel) rfl
theorem s_45 : Cond.selects "BlobStoreModel" ⟨"BlobStoreModel", "isAlike", "(III)Z"⟩ ⟨"BlobStoreModel", "isAlike", "(III)Z"⟩ ∈ Tb := tb_s (q := (⟨"BlobStoreModel", "isAlike", "(III)Z"⟩, 22)) (by decide +kernel) rfl
theorem s_46 : Cond.selects "BlobStoreModel" ⟨"BlobStoreModel", "freeSlots", "()I"⟩ ⟨"BlobStoreModel", "freeSlots", "()I"⟩ ∈ Tb := tb_s (q := (⟨"BlobStoreModel", "freeSlots", "()I"⟩, 22)) (by decide +kernel) rfl
theorem s_47 : Cond.selects "BlobStoreModel" ⟨"BlobStoreModel", "firstFree", "()I"⟩ ⟨"BlobStoreModel", "firstFree", "()I"⟩ ∈ Tb := tb_s (q := (⟨"BlobStoreModel", "firstFree", "()I"⟩, 22)) (by decide +kernel) rfl
theorem s_48 : Cond.selects "BlobStoreModel" ⟨"BlobStoreModel", "isLiving", "(I)Z"⟩ ⟨"BlobStoreModel", "isLiving", "(I)Z"⟩ ∈ Tb := tb_s (q := (⟨"BlobStoreModel", "isLiving", "(I)Z"⟩, 22)) (by decide +kernel) rfl
theorem s_49 : Cond.selects "BlobStoreModel" ⟨"BlobStoreModel", "need", "(I)I"⟩ ⟨"BlobStoreModel", "need", "(I)I"⟩ ∈ Tb := tb_s (q := (⟨"BlobStoreModel", "need", "(I)I"⟩, 22)) (by decide +kernel) rfl
theorem s_50 : Cond.selects "BlobStoreModel" ⟨"BlobStoreModel", "slotAt", "(II)I"⟩ ⟨"BlobStoreModel", "slotAt", "(II)I"⟩ ∈ Tb := tb_s (q := (⟨"BlobStoreModel", "slotAt", "(II)I"⟩, 22)) (by decide +kernel) rfl
theorem s_51 : Cond.selects "BlobStoreModel" ⟨"BlobStoreModel", "hasChunk", "(I)Z"⟩ ⟨"BlobStoreModel", "hasChunk", "(I)Z"⟩ ∈ Tb := tb_s (q := (⟨"BlobStoreModel", "hasChunk", "(I)Z"⟩, 22)) (by decide +kernel) rfl
theorem s_52 : Cond.selects "BlobStoreModel" ⟨"BlobStoreModel", "addressOf", "(I)V"⟩ ⟨"BlobStoreModel", "addressOf", "(I)V"⟩ ∈ Tb := tb_s (q := (⟨"BlobStoreModel", "addressOf", "(I)V"⟩, 22)) (by decide +kernel) rfl
end
section
abbrev R_K : String := "BlobStore$Chunk"
def F_K : u_T := fun k => match k with
  | 0 => ("BlobStore$Chunk", "length", "I", false)
  | 1 => ("BlobStore$Chunk", "bytes", "J", false)
  | _ => ("BlobStore$Chunk", "address", "[I", true)
def T_K : Nat → FieldType := fun k => match k with
  | 0 => .int
  | 1 => .long
  | _ => .array .int
abbrev R_P : String := "BlobStore$Power"
def F_P : u_T := fun k => match k with
  | 0 => ("BlobStore$Power", "writes", "I", false)
  | 1 => ("BlobStore$Power", "writesToCut", "I", false)
  | _ => ("BlobStore$Power", "gone", "Z", false)
def T_P : Nat → FieldType := fun k => match k with
  | 0 => .int
  | 1 => .int
  | _ => .boolean
abbrev R_R : String := "BlobStore$Row"
def F_R : u_T := fun k => match k with
  | 0 => ("BlobStore$Row", "slots", "[I", true)
  | _ => ("BlobStore$Row", "length", "I", false)
def T_R : Nat → FieldType := fun k => match k with
  | 0 => .array .int
  | _ => .int
abbrev R_S : String := "BlobStore$Session"
def F_S : u_T := fun k => match k with
  | 0 => ("BlobStore$Session", "open", "Z", false)
  | 1 => ("BlobStore$Session", "bucket", "I", false)
  | 2 => ("BlobStore$Session", "key", "I", false)
  | _ => ("BlobStore$Session", "parts", "[LBlobStore$Row;", true)
def T_S : Nat → FieldType := fun k => match k with
  | 0 => .boolean
  | 1 => .int
  | 2 => .int
  | _ => .array (.object "BlobStore$Row")
abbrev R_H : String := "BlobStore$Sha256"
def F_H : u_T := fun k => match k with
  | _ => ("BlobStore$Sha256", "schedule", "[I", true)
def T_H : Nat → FieldType := fun k => match k with
  | _ => .array .int
abbrev R_V : String := "BlobStore$Version"
def F_V : u_T := fun k => match k with
  | 0 => ("BlobStore$Version", "lives", "Z", false)
  | 1 => ("BlobStore$Version", "bucket", "I", false)
  | 2 => ("BlobStore$Version", "key", "I", false)
  | _ => ("BlobStore$Version", "row", "LBlobStore$Row;", true)
def T_V : Nat → FieldType := fun k => match k with
  | 0 => .boolean
  | 1 => .int
  | 2 => .int
  | _ => .object "BlobStore$Row"
abbrev R_B : String := "BlobStore"
def F_B : u_T := fun k => match k with
  | 0 => ("BlobStore", "power", "LBlobStore$Power;", true)
  | 1 => ("BlobStore", "sha256", "LBlobStore$Sha256;", true)
  | 2 => ("BlobStore", "slots", "[LBlobStore$Chunk;", true)
  | 3 => ("BlobStore", "sessions", "[LBlobStore$Session;", true)
  | 4 => ("BlobStore", "versions", "[LBlobStore$Version;", true)
  | 5 => ("BlobStore", "versionsEver", "I", false)
  | 6 => ("BlobStore", "incoming", "[LBlobStore$Chunk;", true)
  | 7 => ("BlobStore", "incomingSlots", "LBlobStore$Row;", true)
  | 8 => ("BlobStore", "wanted", "LBlobStore$Chunk;", true)
  | _ => ("BlobStore", "needs", "[I", true)
def T_B : Nat → FieldType := fun k => match k with
  | 0 => .object "BlobStore$Power"
  | 1 => .object "BlobStore$Sha256"
  | 2 => .array (.object "BlobStore$Chunk")
  | 3 => .array (.object "BlobStore$Session")
  | 4 => .array (.object "BlobStore$Version")
  | 5 => .int
  | 6 => .array (.object "BlobStore$Chunk")
  | 7 => .object "BlobStore$Row"
  | 8 => .object "BlobStore$Chunk"
  | _ => .array .int
abbrev R_M : String := "BlobStoreModel"
def F_M : u_T := fun k => match k with
  | 0 => ("BlobStoreModel", "thrown", "I", false)
  | 1 => ("BlobStoreModel", "sizes", "[I", true)
  | 2 => ("BlobStoreModel", "bytes", "[I", true)
  | 3 => ("BlobStoreModel", "open", "[Z", true)
  | 4 => ("BlobStoreModel", "sessionBucket", "[I", true)
  | 5 => ("BlobStoreModel", "sessionKey", "[I", true)
  | 6 => ("BlobStoreModel", "partSize", "[I", true)
  | 7 => ("BlobStoreModel", "partSlots", "[I", true)
  | 8 => ("BlobStoreModel", "versions", "I", false)
  | 9 => ("BlobStoreModel", "lives", "[Z", true)
  | 10 => ("BlobStoreModel", "versionBucket", "[I", true)
  | 11 => ("BlobStoreModel", "versionKey", "[I", true)
  | 12 => ("BlobStoreModel", "versionSize", "[I", true)
  | 13 => ("BlobStoreModel", "versionSlots", "[I", true)
  | 14 => ("BlobStoreModel", "writes", "I", false)
  | 15 => ("BlobStoreModel", "cut", "I", false)
  | 16 => ("BlobStoreModel", "down", "Z", false)
  | 17 => ("BlobStoreModel", "constants", "[I", true)
  | 18 => ("BlobStoreModel", "schedule", "[I", true)
  | 19 => ("BlobStoreModel", "hash", "[I", true)
  | 20 => ("BlobStoreModel", "row", "[I", true)
  | _ => ("BlobStoreModel", "limbs", "[J", true)
def T_M : Nat → FieldType := fun k => match k with
  | 0 => .int
  | 1 => .array .int
  | 2 => .array .int
  | 3 => .array .boolean
  | 4 => .array .int
  | 5 => .array .int
  | 6 => .array .int
  | 7 => .array .int
  | 8 => .int
  | 9 => .array .boolean
  | 10 => .array .int
  | 11 => .array .int
  | 12 => .array .int
  | 13 => .array .int
  | 14 => .int
  | 15 => .int
  | 16 => .boolean
  | 17 => .array .int
  | 18 => .array .int
  | 19 => .array .int
  | 20 => .array .int
  | _ => .array .long
abbrev bCl : List vw_C := [(R_K, F_K, 3), (R_P, F_P, 3), (R_R, F_R, 2), (R_S, F_S, 4), (R_H, F_H, 1), (R_V, F_V, 4), (R_B, F_B, 10), (R_M, F_M, 22)]
/-- a kind of object of the worlds: its number, its fields' words, their types, their names apart -/
def bCls (ci : Nat) (Cn : String) (T' : u_T) (N' : Nat) (ty : Nat → FieldType) : Prop := bCl[ci]? = some (Cn, T', N') ∧ (∀ w ∈ u_ws Cn T' N', w ∈ Tb) ∧ (∀ k, k < N' → parseFieldDescriptor (T' k).2.2.1 = some (ty k)) ∧ (∀ a, a < N' → ∀ b, b < N' → a ≠ b → (T' a).2.1 ≠ (T' b).2.1)
theorem k_K : bCls 0 R_K F_K 3 T_K := by
  refine ⟨rfl, fun w hw => ?_, by decide +kernel, by decide +kernel⟩
  obtain ⟨k, hk, rfl⟩ := List.mem_map.mp hw
  have hk := List.mem_range.mp hk
  rcases (show k = 0 ∨ k = 1 ∨ k = 2 by omega) with rfl | rfl | rfl
  · exact t1_89
  · exact t1_91
  · exact t1_93
theorem k_P : bCls 1 R_P F_P 3 T_P := by
  refine ⟨rfl, fun w hw => ?_, by decide +kernel, by decide +kernel⟩
  obtain ⟨k, hk, rfl⟩ := List.mem_map.mp hw
  have hk := List.mem_range.mp hk
  rcases (show k = 0 ∨ k = 1 ∨ k = 2 by omega) with rfl | rfl | rfl
  · exact t1_39
  · exact t1_41
  · exact t1_43
theorem k_R : bCls 2 R_R F_R 2 T_R := by
  refine ⟨rfl, fun w hw => ?_, by decide +kernel, by decide +kernel⟩
  obtain ⟨k, hk, rfl⟩ := List.mem_map.mp hw
  have hk := List.mem_range.mp hk
  rcases (show k = 0 ∨ k = 1 by omega) with rfl | rfl
  · exact t1_74
  · exact t1_76
theorem k_S : bCls 3 R_S F_S 4 T_S := by
  refine ⟨rfl, fun w hw => ?_, by decide +kernel, by decide +kernel⟩
  obtain ⟨k, hk, rfl⟩ := List.mem_map.mp hw
  have hk := List.mem_range.mp hk
  rcases (show k = 0 ∨ k = 1 ∨ k = 2 ∨ k = 3 by omega) with rfl | rfl | rfl | rfl
  · exact t1_113
  · exact t1_115
  · exact t1_117
  · exact t1_119
theorem k_H : bCls 4 R_H F_H 1 T_H := by
  refine ⟨rfl, fun w hw => ?_, by decide +kernel, by decide +kernel⟩
  obtain ⟨k, hk, rfl⟩ := List.mem_map.mp hw
  have hk := List.mem_range.mp hk
  obtain rfl : k = 0 := by omega
  · exact t1_53
theorem k_V : bCls 5 R_V F_V 4 T_V := by
  refine ⟨rfl, fun w hw => ?_, by decide +kernel, by decide +kernel⟩
  obtain ⟨k, hk, rfl⟩ := List.mem_map.mp hw
  have hk := List.mem_range.mp hk
  rcases (show k = 0 ∨ k = 1 ∨ k = 2 ∨ k = 3 by omega) with rfl | rfl | rfl | rfl
  · exact t1_137
  · exact t1_139
  · exact t1_141
  · exact t1_143
theorem k_B : bCls 6 R_B F_B 10 T_B := by
  refine ⟨rfl, fun w hw => ?_, by decide +kernel, by decide +kernel⟩
  obtain ⟨k, hk, rfl⟩ := List.mem_map.mp hw
  have hk := List.mem_range.mp hk
  rcases (show k = 0 ∨ k = 1 ∨ k = 2 ∨ k = 3 ∨ k = 4 ∨ k = 5 ∨ k = 6 ∨ k = 7 ∨ k = 8 ∨ k = 9 by omega) with rfl | rfl | rfl | rfl | rfl | rfl | rfl | rfl | rfl | rfl
  · exact t1_156
  · exact t1_158
  · exact t1_160
  · exact t1_162
  · exact t1_164
  · exact t1_166
  · exact t1_168
  · exact t1_170
  · exact t1_172
  · exact t1_174
theorem k_M : bCls 7 R_M F_M 22 T_M := by
  refine ⟨rfl, fun w hw => ?_, by decide +kernel, by decide +kernel⟩
  obtain ⟨k, hk, rfl⟩ := List.mem_map.mp hw
  have hk := List.mem_range.mp hk
  rcases (show k = 0 ∨ k = 1 ∨ k = 2 ∨ k = 3 ∨ k = 4 ∨ k = 5 ∨ k = 6 ∨ k = 7 ∨ k = 8 ∨ k = 9 ∨ k = 10 ∨ k = 11 ∨ k = 12 ∨ k = 13 ∨ k = 14 ∨ k = 15 ∨ k = 16 ∨ k = 17 ∨ k = 18 ∨ k = 19 ∨ k = 20 ∨ k = 21 by omega) with rfl | rfl | rfl | rfl | rfl | rfl | rfl | rfl | rfl | rfl | rfl | rfl | rfl | rfl | rfl | rfl | rfl | rfl | rfl | rfl | rfl | rfl
  · exact t3_129
  · exact t3_131
  · exact t3_133
  · exact t3_135
  · exact t3_137
  · exact t3_139
  · exact t3_141
  · exact t3_143
  · exact t3_145
  · exact t3_147
  · exact t3_149
  · exact t3_151
  · exact t3_153
  · exact t3_155
  · exact t3_157
  · exact t3_159
  · exact t3_161
  · exact t3_163
  · exact t3_165
  · exact t3_167
  · exact t3_169
  · exact t3_171
end
section
/-! worlds by keys: cell number k of the world lies at ad k and holds w k -/
def bw (ad : Nat → Nat) (w : Nat → va_E) (N : Nat) : va_W := (List.range N).map (fun k => (ad k, w k))
theorem bw_at {ad : Nat → Nat} {w : Nat → va_E} {N k : Nat} (h : k < N) : (bw ad w N)[k]? = some (ad k, w k) := by
  simp [bw, h]
theorem bw_set {ad : Nat → Nat} {w : Nat → va_E} {N k : Nat} {e : va_E} (h : k < N) : (bw ad w N).set k (ad k, e) = bw ad (va_up w k e) N := by
  apply List.ext_getElem?
  intro j
  rw [List.getElem?_set]
  by_cases hj : k = j
  · subst hj
    simp [bw, h, va_up]
  · by_cases hN : j < N
    · simp [bw, hj, hN, va_up, Ne.symm hj]
    · simp [bw, hj, hN]
theorem bw_push {ad : Nat → Nat} {w : Nat → va_E} {N q : Nat} {e : va_E} : bw ad w N ++ [(q, e)] = bw (va_up ad N q) (va_up w N e) (N + 1) := by
  have h : bw (va_up ad N q) (va_up w N e) N = bw ad w N := by
    apply List.map_congr_left
    intro k hk
    have h2 : k ≠ N := Nat.ne_of_lt (List.mem_range.mp hk)
    rw [va_up_ne _ _ h2, va_up_ne _ _ h2]
  rw [← h]
  simp [bw, List.range_succ, va_up]
theorem bw_len {ad : Nat → Nat} {w : Nat → va_E} {N : Nat} : (bw ad w N).length = N := by simp [bw]
theorem bw_lt {ad : Nat → Nat} {w : Nat → va_E} {N k : Nat} {q : Nat × va_E} (h : (bw ad w N)[k]? = some q) : k < N ∧ q = (ad k, w k) := by
  have h1 : k < (bw ad w N).length := (List.getElem?_eq_some_iff.mp h).1
  rw [bw_len] at h1
  rw [bw_at h1] at h
  exact ⟨h1, (Option.some.inj h).symm⟩
theorem bw_ne {A : Nat → Prop} {ad : Nat → Nat} {w : Nat → va_E} {N i j : Nat} (hD : va_D A (bw ad w N)) (hi : i < N) (hj : j < N) (h : i ≠ j) : ad i ≠ ad j :=
  fun q => h (hD.1 i j _ _ (bw_at hi) (bw_at hj) q)
/-! locals: what is known of them, by a function -/
def bH (ls : Array Slot) (nL : Nat) (lo : Nat → Option Value) : Prop := ls.size = nL ∧ lv_wf ls ∧ ∀ i v, lo i = some v → ls[i]? = some (.val v)
def bO : List (Nat × Value) → Nat → Option Value
  | [], _ => none
  | q :: r, i => bif Nat.beq q.1 i then some q.2 else bO r i
def bcut (o : Option Value) : Option Value := match o with
  | some (.int x) => some (.int x)
  | some (.ref x) => some (.ref x)
  | some .null => some .null
  | _ => none
def bU (lo : Nat → Option Value) (i : Nat) (v : Value) : Nat → Option Value := fun j => bif Nat.beq j i then some v else bif Nat.beq (j + 1) i then bcut (lo j) else lo j
def bS (lo : Nat → Option Value) (i : Nat) (v : Value) : Nat → Option Value := fun j => bif Nat.beq j i then some v else bif Nat.beq j (i + 1) then none else bif Nat.beq (j + 1) i then bcut (lo j) else lo j
def bAll : List (Nat × Value) → (Nat → Option Value) → Prop
  | [], _ => True
  | q :: r, lo => lo q.1 = some q.2 ∧ bAll r lo
theorem bO_sub {lo : Nat → Option Value} : ∀ (l : List (Nat × Value)), bAll l lo → ∀ i v, bO l i = some v → lo i = some v
  | [], _, i, v, h => by cases h
  | q :: r, hA, i, v, h => by
    unfold bO at h
    by_cases hq : Nat.beq q.1 i = true
    · rw [hq] at h
      have h1 : q.1 = i := Nat.eq_of_beq_eq_true hq
      have h2 : q.2 = v := Option.some.inj h
      rw [← h1, ← h2]
      exact hA.1
    · rw [Bool.not_eq_true] at hq
      rw [hq] at h
      exact bO_sub r hA.2 i v h
theorem bcut_cat {o : Option Value} {v : Value} (h : bcut o = some v) : o = some v ∧ v.category = 1 := by
  unfold bcut at h
  split at h
  · cases h; exact ⟨rfl, rfl⟩
  · cases h; exact ⟨rfl, rfl⟩
  · cases h; exact ⟨rfl, rfl⟩
  · cases h
/-- all that stands in the locals, as a list -/
def bL (ls : Array Slot) (nL : Nat) : List (Nat × Value) := (List.range nL).filterMap (fun (i : Nat) => match (ls[i]? : Option Slot) with
  | some (Slot.val v) => some (i, v)
  | _ => none)
theorem bL_mem {ls : Array Slot} {nL i : Nat} {v : Value} : (i, v) ∈ bL ls nL ↔ i < nL ∧ ls[i]? = some (.val v) := by
  unfold bL
  rw [List.mem_filterMap]
  constructor
  · rintro ⟨j, hj, h⟩
    have hj' := List.mem_range.mp hj
    revert h
    split
    · rename_i x hx
      intro h
      have h1 := Option.some.inj h
      cases h1
      exact ⟨hj', hx⟩
    · intro h; cases h
  · rintro ⟨h1, h2⟩
    exact ⟨i, List.mem_range.mpr h1, by rw [h2]⟩
theorem bH.lt {ls : Array Slot} {nL : Nat} {lo : Nat → Option Value} (h : bH ls nL lo) {i : Nat} {v : Value} (hl : lo i = some v) : i < nL := by
  have h1 := (Array.getElem?_eq_some_iff.mp (h.2.2 i v hl)).1
  rw [h.1] at h1
  exact h1
theorem bH.all {ls : Array Slot} {nL : Nat} {lo : Nat → Option Value} (h : bH ls nL lo) : lv_has ls nL (bL ls nL) := ⟨h.1, h.2.1, fun q hq => (bL_mem (v := q.2).mp hq).2⟩
theorem bH.find {ls : Array Slot} {nL : Nat} {lo : Nat → Option Value} (h : bH ls nL lo) {i : Nat} {v : Value} (hl : lo i = some v) : ∃ k : Nat, (bL ls nL)[k]? = some (i, v) := by
  have h1 : (i, v) ∈ bL ls nL := bL_mem.mpr ⟨h.lt hl, h.2.2 i v hl⟩
  obtain ⟨k, hk, e⟩ := List.mem_iff_getElem.mp h1
  exact ⟨k, by rw [List.getElem?_eq_getElem hk, e]⟩
theorem bH.st1 {ls ls' : Array Slot} {nL i : Nat} {x : Value} {lo : Nat → Option Value} (h : bH ls nL lo) (h' : lv_has ls' nL ((i, x) :: (bL ls nL).filter (fun q => !(q.1 == i) && !(q.1 + 1 == i && q.2.category == 2)))) (hc : x.category = 1) : bH ls' nL (bU lo i x) := by
  refine ⟨h'.1, h'.2.1, fun j v hj => ?_⟩
  unfold bU at hj
  by_cases h1 : Nat.beq j i = true
  · rw [h1] at hj
    have e1 : j = i := Nat.eq_of_beq_eq_true h1
    have e2 : x = v := Option.some.inj hj
    subst e1; subst e2
    exact h'.2.2 _ List.mem_cons_self
  · rw [Bool.not_eq_true] at h1
    rw [h1] at hj
    have n1 : j ≠ i := Nat.ne_of_beq_eq_false h1
    have key : ∀ z, lo j = some z → (j + 1 = i → z.category = 1) → ls'[j]? = some (.val z) := by
      intro z hz hz2
      refine h'.2.2 (j, z) (List.mem_cons_of_mem _ (List.mem_filter.mpr ⟨bL_mem.mpr ⟨h.lt hz, h.2.2 j z hz⟩, ?_⟩))
      by_cases n2 : j + 1 = i
      · simp [n1, n2, hz2 n2]
      · simp [n1, n2]
    by_cases h2 : Nat.beq (j + 1) i = true
    · rw [h2] at hj
      obtain ⟨q1, q2⟩ := bcut_cat hj
      exact key v q1 (fun _ => q2)
    · rw [Bool.not_eq_true] at h2
      rw [h2] at hj
      exact key v hj (fun q => absurd q (Nat.ne_of_beq_eq_false h2))
theorem bH.st2 {ls ls' : Array Slot} {nL i : Nat} {x : Value} {lo : Nat → Option Value} (h : bH ls nL lo) (h' : lv_has ls' nL ((i, x) :: (bL ls nL).filter (fun q => !(q.1 == i) && (!(q.1 == i + 1) && !(q.1 + 1 == i && q.2.category == 2))))) (hc : x.category = 2) : bH ls' nL (bS lo i x) := by
  refine ⟨h'.1, h'.2.1, fun j v hj => ?_⟩
  unfold bS at hj
  by_cases h1 : Nat.beq j i = true
  · rw [h1] at hj
    have e1 : j = i := Nat.eq_of_beq_eq_true h1
    have e2 : x = v := Option.some.inj hj
    subst e1; subst e2
    exact h'.2.2 _ List.mem_cons_self
  · rw [Bool.not_eq_true] at h1
    rw [h1] at hj
    have n1 : j ≠ i := Nat.ne_of_beq_eq_false h1
    by_cases h3 : Nat.beq j (i + 1) = true
    · rw [h3] at hj; cases hj
    · rw [Bool.not_eq_true] at h3
      rw [h3] at hj
      have n3 : j ≠ i + 1 := Nat.ne_of_beq_eq_false h3
      have key : ∀ z, lo j = some z → (j + 1 = i → z.category = 1) → ls'[j]? = some (.val z) := by
        intro z hz hz2
        refine h'.2.2 (j, z) (List.mem_cons_of_mem _ (List.mem_filter.mpr ⟨bL_mem.mpr ⟨h.lt hz, h.2.2 j z hz⟩, ?_⟩))
        by_cases n2 : j + 1 = i
        · simp [n1, n2, n3, hz2 n2]
        · simp [n1, n2, n3]
      by_cases h2 : Nat.beq (j + 1) i = true
      · rw [h2] at hj
        obtain ⟨q1, q2⟩ := bcut_cat hj
        exact key v q1 (fun _ => q2)
      · rw [Bool.not_eq_true] at h2
        rw [h2] at hj
        exact key v hj (fun q => absurd q (Nat.ne_of_beq_eq_false h2))
theorem bH.entry (vs : List Value) {n : Nat} (h : (lg_sl vs).length ≤ n) : bH ((lg_sl vs ++ List.replicate (n - (lg_sl vs).length) Slot.unset).toArray) n (bO (lv_args 0 vs)) := by
  have h1 := lv_entry vs h
  refine ⟨h1.1, h1.2.1, fun i v hi => ?_⟩
  have h2 : ∀ (l : List (Nat × Value)), bO l i = some v → (i, v) ∈ l := by
    intro l
    induction l with
    | nil => intro q; cases q
    | cons q r ih =>
      intro hq
      unfold bO at hq
      by_cases hb : Nat.beq q.1 i = true
      · rw [hb] at hq
        have e1 : q.1 = i := Nat.eq_of_beq_eq_true hb
        have e2 : q.2 = v := Option.some.inj hq
        rw [← e1, ← e2]
        exact List.mem_cons_self
      · rw [Bool.not_eq_true] at hb
        rw [hb] at hq
        exact List.mem_cons_of_mem _ (ih hq)
  exact h1.2.2 (i, v) (h2 _ hi)
/-! contracts: the end may be a return or a throw -/
def bFE (first t : State) (L : List Loc) (k n : Nat) : Prop := first.WarmedH t.vm ∧ first.sameButNew ({ t with vm := first.vm } : State) L k n
def bMet (l : Launch) (y : MethodName) (ws : List Cond) (rm : Room) (Pc : Array Value → State → Prop) (Qc : Array Value → State → Outcome → State → Prop) (mc ms : Nat) (free : Addr → Prop) : Prop :=
  MetFree l y (headSpec ws rm) Pc (fun _ _ _ _ _ => True) (fun a st o t => Qc a st o t ∧ ∃ L, bFE st t L mc ms ∧ ∀ q ∈ L, free q.base)
def bMQ (below : List Frame) (Qc : Array Value → State → Outcome → State → Prop) (a : Array Value) (s : State) (mc ms : Nat) (free : Addr → Prop) : State → Prop := fun t =>
  ∃ o, t.status = .running ∧ Ended t below o ∧ Qc a s o t ∧ ∃ L, bFE s t L mc ms ∧ ∀ q ∈ L, free q.base
theorem bMQ.of {below : List Frame} {Qc : Array Value → State → Outcome → State → Prop} {a : Array Value} {s : State} {mc ms : Nat} {free : Addr → Prop} {t : State} (h : MQ below Qc a s mc ms free t) : bMQ below Qc a s mc ms free t := by
  obtain ⟨o, h1, h2, h3, L, ⟨-, h4, h5⟩, h6⟩ := h
  exact ⟨o, h1, h2, h3, L, ⟨h4, h5⟩, h6⟩
section bC1
variable {p : Program} {l : Launch} {e : Env} {R : Room} {s : State} {m : MethodId} {args : Array Value} {below : List Frame} {meth : Method} {c : Code} {H : Heap} {locs : List Loc} {cells slots : Nat}
theorem bWmono {Q Q' : State → Prop} {g : JFrame} (h : ∀ t, Q t → Q' t) (k : W p l e R s m args below meth c H locs cells slots Q g) : W p l e R s m args below meth c H locs cells slots Q' g := by
  intro T hT X
  obtain ⟨t, a, b⟩ := k T hT X
  exact ⟨t, a, h t b⟩
theorem bMet.ofW {y : MethodName} {ws : List Cond} {rm : Room} {Pc : Array Value → State → Prop} {Qc : Array Value → State → Outcome → State → Prop} {mc ms : Nat} {free : Addr → Prop} {cc : ByteArray} {maxL : Nat} {ret : Option FieldType}
    (hy : plainName y.cls = true) (hw : Cond.code y cc maxL ret ∈ ws)
    (body : ∀ p e s m args below meth c s₁, BodyLoose p l y (headSpec ws rm) cc maxL ret e s m args below meth c s₁ → c.maxLocals = maxL → c.exceptionTable.toList = tableOf [] → Pc args s →
      W p l e (headSpec ws rm).room s m args below meth c s.heap [] 0 0 (bMQ below Qc args s mc ms free) (entryFrame m args maxL)) : bMet l y ws rm Pc Qc mc ms free := by
  refine MetFree.of_bodyS (code := cc) (maxLocals := maxL) (ret := ret) hy ?_ ?_
  · intro args s m h hn
    obtain ⟨meth, c, h1, h2, h3, h4, h5, h6, -, -⟩ := Cond.code_spec hn (atoms_spec (ws := ws) h _ hw)
    exact ⟨meth, c, h1, h2, h3, h4, h5, h6⟩
  · intro p e s m args below meth c s₁ B hml hP _
    have hh0 : s₁.heap = s.heap := by rw [B.state]; rfl
    have he := B.noHandlers (atoms_spec (ws := ws) B.pre _ hw)
    have he2 : c.exceptionTable.toList = tableOf [] := by
      have h0 : c.exceptionTable.size = 0 := by simpa [Array.isEmpty] using he
      exact List.eq_nil_of_length_eq_zero (by simpa using h0)
    obtain ⟨t, a1, o, b1, b2, b3⟩ := body p e s m args below meth c s₁ B hml he2 hP s₁ hh0 (Stand.of_body B)
    exact ⟨t, o, a1, b1, b2, ⟨b3.1, b3.2⟩⟩
theorem bMet.ofWH {y : MethodName} {ws : List Cond} {rm : Room} {Pc : Array Value → State → Prop} {Qc : Array Value → State → Outcome → State → Prop} {mc ms : Nat} {free : Addr → Prop} {cc : ByteArray} {maxL : Nat} {ret : Option FieldType} {hh : List (Nat × Nat × Nat × Nat)}
    (hy : plainName y.cls = true) (hw : Cond.codeWith y cc maxL ret hh ∈ ws)
    (body : ∀ p e s m args below meth c s₁, BodyLoose p l y (headSpec ws rm) cc maxL ret e s m args below meth c s₁ → c.maxLocals = maxL → c.exceptionTable.toList = tableOf hh → Pc args s →
      W p l e (headSpec ws rm).room s m args below meth c s.heap [] 0 0 (bMQ below Qc args s mc ms free) (entryFrame m args maxL)) : bMet l y ws rm Pc Qc mc ms free := by
  refine MetFree.of_bodyS (code := cc) (maxLocals := maxL) (ret := ret) hy ?_ ?_
  · intro args s m h hn
    obtain ⟨m', meth, c, hn', h1, h2, h3, h4, -, h5, h6, -⟩ := Cond.codeWith_spec (atoms_spec (ws := ws) h _ hw)
    cases hn.symm.trans hn'
    exact ⟨meth, c, h1, h2, h3, h4, h5, h6⟩
  · intro p e s m args below meth c s₁ B hml hP _
    have hh0 : s₁.heap = s.heap := by rw [B.state]; rfl
    have he2 : c.exceptionTable.toList = tableOf hh := by
      obtain ⟨m', meth', c', hn', h1, h2, -, -, ht, -, -, -⟩ := Cond.codeWith_spec (atoms_spec (ws := ws) B.pre _ hw)
      cases B.named.symm.trans hn'
      cases B.method.symm.trans h1
      cases (Stand.of_body B).code.symm.trans h2
      rw [← ht, table_eq]
    obtain ⟨t, a1, o, b1, b2, b3⟩ := body p e s m args below meth c s₁ B hml he2 hP s₁ hh0 (Stand.of_body B)
    exact ⟨t, o, a1, b1, b2, ⟨b3.1, b3.2⟩⟩
/-- a call by contract, from the point where the invoke has found its method -/
theorem bCore {T : State} (X : Stand p l e R s m args below meth c T locs cells slots) {y : MethodName} {ws : List Cond} {rm : Room} {Pc : Array Value → State → Prop} {Qc : Array Value → State → Outcome → State → Prop} {mc ms : Nat} {free : Addr → Prop}
    (hM : bMet l y ws rm Pc Qc mc ms free) {g : JFrame} (hg : g.method = m) (hsize : g.locals.size = c.maxLocals) {ig : Instr} {len : Nat} (hdg : decode c.code g.pc = .ok (ig, len)) (hW : 2 * g.monitorRoom + (g.stack.map fun v => v.category).sum ≤ 8)
    {mk : MethodId} {methY : Method} {cY : Code} {kY : Class} {maxL : Nat} (hn : T.methodNamed? y = some mk) (hmY : T.vm.method? mk = some methY) (hcY : methY.code = some cY) (hlY : cY.maxLocals = maxL) (hkY : T.vm.classes[mk.cls]? = some kY) (hiY : kY.init = .initialized)
    (hfr : rm.frames + 1 ≤ R.frames) (hlo : 8 + (maxL + 11) + rm.locals ≤ R.locals) (hce : cells + rm.cells ≤ R.cells) (hsl : slots + rm.slots ≤ R.slots) {a : Array Value} (hpre : (allAtoms ws).before a T = true) (hP : Pc a (T.calling g mk a)) :
    ∃ (o : Outcome) (t T' : State) (L : List Loc), Stand p l e R s m args below meth c T' (locs ++ L) (cells + mc) (slots + ms) ∧ (∀ q ∈ L, free q.base) ∧ T'.heap = t.heap ∧ T'.vm = t.vm ∧ Qc a (T.calling g mk a) o t ∧
      (∀ v, o = .returned v → Steps p.tables e below (doInvoke e (T.setTop g) [] mk a).1 (T'.setTop { g with pc := g.pc + len, stack := v.toList ++ g.stack })) ∧
      (∀ x, o = .threw x → Steps p.tables e below (doInvoke e (T.setTop g) [] mk a).1 ((T'.setTop g).pushFrame (.throwing x))) := by
  have h : At T g.method c below := by rw [hg]; exact X.here
  have happ : (headSpec ws rm).appliesLoose y e.platform (T.calling g mk a) = true :=
    Spec.appliesLoose_calling (g := g) h hdg hn hkY hiY (X.room_calling (g := g) (R' := rm) hsize hmY hcY hfr (by rw [hlY]; omega) hce hsl) hpre
  obtain ⟨mid, hmid⟩ := h.above
  have hfr2 : (T.setTop g).frames = (.java g :: mid) ++ below := by rw [State.frames_setTop' g h.top, hmid]; rfl
  obtain ⟨o, s₂, hsteps, -, hend, hq, L, hFE, hL⟩ := Steps.callFree hM p X.admits X.cas X.clock (acts := []) hfr2 happ hP trivial
  rw [State.frames_setTop' g h.top, X.tail] at hend
  cases o with
  | returned v =>
    obtain ⟨T', X', hW', hB, ht⟩ := X.outOf hg hdg hend hFE.1 hFE.2
    refine ⟨.returned v, s₂, T', L, X', hL, by rw [ht]; rfl, by rw [ht]; rfl, hq, fun v' hv => ?_, fun x hx => by cases hx⟩
    cases hv
    rw [← ht]
    exact hsteps
  | threw x =>
    obtain ⟨T', X', hW', hB, ht⟩ := X.outOfThrown hg hend hFE.1 hFE.2
    refine ⟨.threw x, s₂, T', L, X', hL, by rw [ht, Stand.throwing_heap], by rw [ht, Stand.throwing_vm], hq, fun v' hv => (by cases hv), fun x' hx => ?_⟩
    cases hx
    rw [← ht]
    exact hsteps
end bC1
end
section
section bC2
variable {p : Program} {l : Launch} {e : Env} {R : Room} {s : State} {m : MethodId} {args : Array Value} {below : List Frame} {meth : Method} {c : Code} {locs : List Loc} {cells slots : Nat}
/-- the walk goes on as if it had begun here -/
theorem bRebase {T : State} (X : Stand p l e R s m args below meth c T locs cells slots) {R' : Room} (hf : R'.frames ≤ R.frames) (hl : R'.locals ≤ R.locals) (hc : cells + R'.cells ≤ R.cells) (hs : slots + R'.slots ≤ R.slots) :
    Stand p l e R' (T.setFrames (.invoking m args :: below)) m args below meth c T [] 0 0 := by
  obtain ⟨g₀, hfr⟩ := X.frames_eq
  have hcur : T.cur < T.threads.size := State.cur_lt_of_frames hfr
  have hF : (T.setFrames (.invoking m args :: below)).frames = .invoking m args :: below := State.frames_setFrames _ hcur
  have hroom : (T.setFrames (.invoking m args :: below)).hasRoom e.platform R' = true := by
    obtain ⟨r1, r2, r3, r4⟩ := State.hasRoom_stack X.room
    have r5 := State.hasRoom_real X.room
    have h := X.room
    simp only [State.hasRoom, Bool.and_eq_true, decide_eq_true_eq] at h
    rw [State.localsInUse_invoking X.frames X.method X.code] at r3 r4 r5
    rw [X.frames, List.length_cons] at r1 r2
    have hU : (T.setFrames (.invoking m args :: below)).localsInUse = _ := State.localsInUse_invoking hF (meth := meth) (c := c) X.method' X.code
    have h1 := X.heapSize
    have h2 := X.used
    simp only [State.hasRoom, Bool.and_eq_true, decide_eq_true_eq, hF, hU, List.length_cons, State.stackLimits_setFrames, State.stackBytes_setFrames, X.limits, X.bytes]
    refine ⟨⟨⟨⟨by omega, by omega, by omega, by omega, by omega, h.1.1.1.2.2.2.2.2⟩, ?_⟩, ?_⟩, X.book⟩
    · have := h.1.1.2
      show T.heap.size + R'.cells ≤ e.platform.maxCells
      omega
    · have := h.1.2
      show T.slotsUsed + R'.slots ≤ e.platform.maxSlots
      omega
  have hhears : (T.setFrames (.invoking m args :: below)).hears m below = true := by
    have h := X.hears
    have hal := X.warmed.alike
    have hm : ∀ k, (T.setFrames (.invoking m args :: below)).vm.method? k = s.vm.method? k := fun k => hal.method? k
    have hcd : ∀ k, (T.setFrames (.invoking m args :: below)).code? k = s.code? k := fun k => by rw [State.code?_eq, State.code?_eq, hm]
    cases below with
    | nil => simp only [State.hears] at h ⊢; rw [hm]; exact h
    | cons f r => cases f <;> simp only [State.hears] at h ⊢ <;> first | exact h | (rw [hm]; exact h) | (rw [hcd]; exact h)
  obtain ⟨t, ht, -⟩ := State.frames_cons hF
  have hsame : (T.setFrames (.invoking m args :: below)).sameButNew (T.setVm (T.setFrames (.invoking m args :: below)).vm) [] 0 0 := by
    have h := (State.sameButNew.refl (T.setFrames (.invoking m args :: below)) ht).setFrames T.frames (State.cur_lt_of_frames hF)
    obtain ⟨t0, ht0, -⟩ := State.frames_cons hfr
    rw [State.setFrames_setFrames, State.setFrames_self ht0] at h
    exact h
  exact ⟨X.admits, X.cas, X.clock, hF, hroom, hhears, X.method', X.code, X.here, X.tail, State.WarmedH.refl _, by rw [State.stackLimits_setFrames], by rw [State.stackBytes_setFrames], hsame⟩
/-- .. and what it ends in is an end of the walk that was -/
theorem bRebase.back {T U : State} (X : Stand p l e R s m args below meth c T locs cells slots) {F : List Frame} {k n : Nat} (hW : (T.setFrames F).WarmedH U.vm) (h : (T.setFrames F).sameButNew ({ U with vm := (T.setFrames F).vm } : State) [] k n) : bFE s U locs (cells + k) (slots + n) := by
  have hW' : T.WarmedH U.vm := hW
  have h2 : T.sameButNew ({ U with vm := T.vm } : State) [] k n := by
    obtain ⟨e2, q2, q3, q4, q5, q6⟩ := h
    refine ⟨?_, q2, q3, q4, q5, q6⟩
    rw [State.setFrames_setFrames] at e2
    exact e2
  refine ⟨State.WarmedH.trans X.warmed hW', ?_⟩
  have h3 := X.same.trans (h2.setVm s.vm)
  rw [List.append_nil] at h3
  exact h3
end bC2
end
section
def bTys (ta : Nat → ClassId) : List (ClassId × FieldType) := [(ta 0, .int), (ta 1, .long), (ta 2, .boolean), (ta 3, .object R_K), (ta 4, .object R_R), (ta 5, .object R_S), (ta 6, .object R_V)]
/-- numbers of the kinds and their slots; array kinds; static arrays: where, and what -/
abbrev bD : Type := va_G × (Nat → ClassId) × (Nat → Nat) × (Nat → Nat → Int32)
abbrev aI (dd : bD) (n : Nat) (f : Nat → Int32) : va_E := .inl (dd.2.1 0, n, .inl f)
abbrev aL (dd : bD) (n : Nat) (f : Nat → Int64) : va_E := .inl (dd.2.1 1, n, .inr (.inl f))
abbrev aZ (dd : bD) (n : Nat) (f : Nat → Int32) : va_E := .inl (dd.2.1 2, n, .inl f)
abbrev aR (dd : bD) (t n : Nat) (f : Nat → Option Nat) : va_E := .inl (dd.2.1 t, n, .inr (.inr (.inr (.inr f))))
abbrev bSta : List (String × String × Nat × Nat) := [("BlobStore$Sha256", "FIRST_HASH", 0, 8), ("BlobStore$Sha256", "ROUND_WORDS", 1, 64)]
abbrev bStr : List (String × Nat × String) := [("BlobStore", 77, "all sessions are open"), ("BlobStore", 84, "no such bucket or key"), ("BlobStore", 98, "no such part number or count of bytes"), ("BlobStore", 119, "all versions have been given"), ("BlobStore", 146, "no such count of writes"), ("BlobStore", 178, "no such chunk or word"), ("BlobStore", 207, "no such session is open"), ("BlobStore", 227, "too few free slots"), ("BlobStore$Power", 22, "the store is down"), ("BlobStore$Power", 29, "the power is gone")]
abbrev bZq : List (String × String × String) := [("java/lang/Throwable", "UNASSIGNED_STACK", "[Ljava/lang/StackTraceElement;"), ("java/lang/Throwable", "SUPPRESSED_SENTINEL", "Ljava/util/List;")]
abbrev bAov : List String := [R_K, R_R, R_S, R_V]
abbrev bNcp : List (String × String) := [("java/lang/IllegalArgumentException", "java/lang/IllegalStateException"), ("java/lang/IllegalArgumentException", "java/lang/IndexOutOfBoundsException"), ("java/lang/IllegalArgumentException", "java/lang/UnsupportedOperationException"), ("java/lang/IllegalArgumentException", "java/util/NoSuchElementException"), ("java/lang/IllegalStateException", "java/lang/IllegalArgumentException"), ("java/lang/IllegalStateException", "java/lang/IndexOutOfBoundsException"), ("java/lang/IllegalStateException", "java/lang/UnsupportedOperationException"), ("java/lang/IllegalStateException", "java/util/NoSuchElementException"), ("java/lang/IndexOutOfBoundsException", "java/lang/IllegalArgumentException"), ("java/lang/IndexOutOfBoundsException", "java/lang/IllegalStateException"), ("java/lang/IndexOutOfBoundsException", "java/lang/UnsupportedOperationException"), ("java/lang/IndexOutOfBoundsException", "java/util/NoSuchElementException"), ("java/lang/UnsupportedOperationException", "java/lang/IllegalArgumentException"), ("java/lang/UnsupportedOperationException", "java/lang/IllegalStateException"), ("java/lang/UnsupportedOperationException", "java/lang/IndexOutOfBoundsException"), ("java/lang/UnsupportedOperationException", "java/util/NoSuchElementException"), ("java/util/NoSuchElementException", "java/lang/IllegalArgumentException"), ("java/util/NoSuchElementException", "java/lang/IllegalStateException"), ("java/util/NoSuchElementException", "java/lang/IndexOutOfBoundsException"), ("java/util/NoSuchElementException", "java/lang/UnsupportedOperationException")]
/-- a static that the tables lay, and that holds a reference or null -/
def bLs (O n d : String) (A : Nat → Prop) (U : State) (H : Heap) : Prop := ∃ (c : ClassId) (k : Class) (i : Nat) (f : Field) (a : Nat) (cell : Cell) (v : RefV), U.vm.findClass O = some c ∧ U.fieldFound? O n d = some (c, k, i, f) ∧ f.isStatic = true ∧ k.statics = some a ∧ k.staticTypes[f.slot]? = some f.type ∧ H[a]? = some cell ∧ cell.vm.isStatics = true ∧ cell.cls = c ∧ f.slot < cell.slots.size ∧ cell.slots[f.slot]? = some v.v ∧ ¬ A a
theorem bLs.moved {O n d : String} {A : Nat → Prop} {u U : State} {H : Heap} (hvm : u.vm.Alike U.vm) (h : bLs O n d A u H) : bLs O n d A U H := by
  obtain ⟨c, k, i, f, a, cell, v, h0, h1, h2, h3, h4, h5⟩ := h
  obtain ⟨k', hi', he⟩ := State.fieldFound?_setVm hvm h1
  exact ⟨c, k', i, f, a, cell, v, by rw [hvm.findClass]; exact h0, hi', h2, by rw [he]; exact h3, by rw [he]; exact h4, h5⟩
theorem bLs.kept {O n d : String} {A : Nat → Prop} {U : State} {H H1 : Heap} (h : bLs O n d A U H) (hq : ∀ a : Nat, a < H.size → ¬ A a → H1[a]? = H[a]?) : bLs O n d A U H1 := by
  obtain ⟨c, k, i, f, a, cell, v, h0, h1, h2, h3, h4, h5, h6, h7, h8, h9, h10⟩ := h
  exact ⟨c, k, i, f, a, cell, v, h0, h1, h2, h3, h4, by rw [hq a (Array.getElem?_eq_some_iff.mp h5).1 h10]; exact h5, h6, h7, h8, h9, h10⟩
theorem bLs.narrow {O n d : String} {A B : Nat → Prop} {U : State} {H : Heap} (h : bLs O n d A U H) (hAB : ∀ q, B q → A q) : bLs O n d B U H := by
  obtain ⟨c, k, i, f, a, cell, v, h0, h1, h2, h3, h4, h5, h6, h7, h8, h9, h10⟩ := h
  exact ⟨c, k, i, f, a, cell, v, h0, h1, h2, h3, h4, h5, h6, h7, h8, h9, fun z => h10 (hAB a z)⟩
theorem bLs.lays {O n d : String} {A : Nat → Prop} {U : State} {args : Array Value} (h : bLs O n d A U U.heap) : (Cond.laysStatic O n d).before args U = true := by
  obtain ⟨c, k, i, f, a, cell, v, h0, h1, h2, h3, h4, h5, h6, h7, h8, h9, h10⟩ := h
  exact Cond.laysStatic_of h0 h1 h2 h3 h5 h6 h7 h8 h4
theorem bLs.isRef {O n d : String} {A : Nat → Prop} {U : State} {args : Array Value} (h : bLs O n d A U U.heap) : (Cond.isRef (.static O n d)).before args U = true := by
  obtain ⟨c, k, i, f, a, cell, ⟨v, hv⟩, h0, h1, h2, h3, h4, h5, h6, h7, h8, h9, h10⟩ := h
  have h9' : cell.slots[f.slot]? = some v := h9
  cases v <;> simp [Value.isRef] at hv <;> simp [Cond.before, Cond.holds, Cond.value, Term.eval, State.fieldNamed?, h1, h2, h3, h5, h6, h9']
/-- what the walks rest on beside their cells, at a state and a heap -/
def bG (dd : bD) (A : Nat → Prop) (U : State) (H : Heap) : Prop :=
  va_K dd.1 bCl (bTys dd.2.1) U ∧ (∀ w ∈ bNst, va_Nw w U) ∧
  (∀ q ∈ bSta, va_Z q.1 q.2.1 "[I" (.ref (dd.2.2.1 q.2.2.1)) A U H ∧ va_T .int (dd.2.2.1 q.2.2.1) q.2.2.2 (fun j => .int (dd.2.2.2 q.2.2.1 j)) A U H) ∧
  (∀ q ∈ bStr, ∃ a, vk_R q.1 q.2.1 q.2.2 a U) ∧ (∀ q ∈ bZq, bLs q.1 q.2.1 q.2.2 A U H) ∧ (∀ q ∈ bNcp, va_Nc q.1 q.2 U) ∧ (∀ q ∈ bAov, va_AO q U)
theorem bNest_warm {w : Cond} (h : bNestOnly w = true) {s U : State} (hW : s.WarmedH U.vm) (hZ : va_Nw w s) : va_Nw w U := by
  unfold bNestOnly at h
  split at h
  · exact va_Nw.warmF hW hZ
  · exact va_Nw.warmM hW hZ
  · exact va_Nw.warmD hW hZ
  · exact va_Nw.warmC hW hZ
  · cases h
theorem bG.to {dd : bD} {A A' : Nat → Prop} {s U : State} {H0 H : Heap} (h : bG dd A s H0) (hW : s.WarmedH U.vm) (hq : ∀ a : Nat, a < H0.size → ¬ A a → H[a]? = H0[a]?) (hAB : ∀ q, A' q → A q) : bG dd A' U H := by
  obtain ⟨h1, h2, h3, h4, h5, h6, h7⟩ := h
  exact ⟨va_K.moved hW.alike h1, fun w hw => bNest_warm (bNst_only w hw) hW (h2 w hw),
    fun q hq' => ⟨(((h3 q hq').1.kept hq).moved hW.alike).narrow hAB, (((h3 q hq').2.kept hq).moved hW.alike).narrow hAB⟩,
    fun q hq' => (h4 q hq').imp (fun a ha => ha.warm hW), fun q hq' => (((h5 q hq').kept hq).moved hW.alike).narrow hAB, fun q hq' => (h6 q hq').moved hW.alike, fun q hq' => (h7 q hq').moved hW.alike⟩
theorem bNst_use {w : Cond} (h : bNestOnly w = true) {args : Array Value} {U : State} (hZ : va_Nw w U) : w.before args U = true := by
  unfold bNestOnly at h
  split at h
  · exact va_Nw.use rfl hZ
  · exact va_Nw.use rfl hZ
  · exact va_Nw.use rfl hZ
  · exact va_Nw.use rfl hZ
  · cases h
def bPre (dd : bD) (av : List Value) (ad : Nat → Nat) (w : Nat → va_E) (N sz : Nat) : Array Value → State → Prop :=
  va_Pc av (fun U => U.heap.size = sz ∧ va_P dd.1 bCl (bw ad w N) U.heap ∧ va_D (fun _ => True) (bw ad w N) ∧ bG dd (va_A (bw ad w N) sz) U U.heap)
def bQc (dd : bD) (A : Nat → Prop) (post : Option Value → (Nat → Nat) → (Nat → va_E) → Nat → Prop) (thr : String → (Nat → Nat) → (Nat → va_E) → Nat → Prop) : Array Value → State → Outcome → State → Prop := fun _ st oc t =>
  va_F A st t ∧ ∃ (ad' : Nat → Nat) (w' : Nat → va_E) (N' : Nat), va_P dd.1 bCl (bw ad' w' N') t.heap ∧ va_D A (bw ad' w' N') ∧
    ((∃ v, oc = .returned v ∧ post v ad' w' N') ∨ ∃ (x : Nat) (Cn : String) (cell : Cell), oc = .threw x ∧ t.heap[x]? = some cell ∧ cell.vm = .none ∧ t.vm.findClass Cn = some cell.cls ∧ st.heap.size ≤ x ∧ thr Cn ad' w' N')
/-- a method's contract: frames fr and words lc of the stack, mc cells of ms slots at most -/
def bK (l : Launch) (dd : bD) (y : MethodName) (fr lc mc ms : Nat) (av : List Value) (ad : Nat → Nat) (w : Nat → va_E) (N : Nat) (post : Option Value → (Nat → Nat) → (Nat → va_E) → Nat → Prop) (thr : String → (Nat → Nat) → (Nat → va_E) → Nat → Prop) : Prop :=
  ∀ sz, bMet l y Tb { frames := fr, cells := mc, slots := ms, locals := lc } (bPre dd av ad w N sz) (bQc dd (va_A (bw ad w N) sz) post thr) mc ms (va_A (bw ad w N) sz)
def bCx (p : Program) (R : Room) (s : State) (m : MethodId) (args : Array Value) (meth : Method) (c : Code) (cc : ByteArray) (own : String) (nL : Nat) (ret : Option FieldType) (hh : List (Nat × Nat × Nat × Nat)) (dd : bD) (A : Nat → Prop) : Prop :=
  p.tables.exec = Jvm.exec ∧ c.code = cc ∧ c.maxLocals = nL ∧ s.vm.findClass own = some m.cls ∧ (∀ w ∈ Tb, w.before args s = true) ∧ meth.sig.returnType = ret ∧ meth.locks = false ∧ (∀ q, s.heap.size ≤ q → A q) ∧ bG dd A s s.heap ∧ c.exceptionTable.toList = tableOf hh
def bV (p : Program) (l : Launch) (e : Env) (R : Room) (s : State) (m : MethodId) (args : Array Value) (below : List Frame) (meth : Method) (c : Code) (dd : bD) (A : Nat → Prop) (nL mc ms : Nat) (post : Option Value → (Nat → Nat) → (Nat → va_E) → Nat → Prop) (thr : String → (Nat → Nat) → (Nat → va_E) → Nat → Prop)
    (pc : Nat) (lo : Nat → Option Value) (st : List Value) (ad : Nat → Nat) (w : Nat → va_E) (N cells slots : Nat) : Prop :=
  ∀ (H : Heap) (locs : List Loc) (ls : Array Slot), bH ls nL lo → va_P dd.1 bCl (bw ad w N) H → va_D A (bw ad w N) → va_S A s.heap H locs →
    W p l e R s m args below meth c H locs cells slots (bMQ below (bQc dd A post thr) args s mc ms A) (F0 m pc ls st)
/-- the exception at x, of the class called Cn, is on its way out of the instruction at pc -/
def bT (p : Program) (l : Launch) (e : Env) (R : Room) (s : State) (m : MethodId) (args : Array Value) (below : List Frame) (meth : Method) (c : Code) (dd : bD) (A : Nat → Prop) (nL mc ms : Nat) (post : Option Value → (Nat → Nat) → (Nat → va_E) → Nat → Prop) (thr : String → (Nat → Nat) → (Nat → va_E) → Nat → Prop)
    (pc : Nat) (lo : Nat → Option Value) (st : List Value) (x : Nat) (Cn : String) (ad : Nat → Nat) (w : Nat → va_E) (N cells slots : Nat) : Prop :=
  ∀ (H : Heap) (locs : List Loc) (ls : Array Slot) (cell : Cell), bH ls nL lo → va_P dd.1 bCl (bw ad w N) H → va_D A (bw ad w N) → va_S A s.heap H locs → H[x]? = some cell → cell.vm = .none → s.vm.findClass Cn = some cell.cls → s.heap.size ≤ x →
    ∀ T : State, T.heap = H → Stand p l e R s m args below meth c T locs cells slots → ∃ t, Steps p.tables e below ((T.setTop (F0 m pc ls st)).pushFrame (.throwing x)) t ∧ bMQ below (bQc dd A post thr) args s mc ms A t
/-- a call site: the invoke has found its method -/
def bSite (p : Program) (l : Launch) (e : Env) (R : Room) (s : State) (m : MethodId) (args : Array Value) (below : List Frame) (meth : Method) (c : Code) (H : Heap) (locs : List Loc) (cells slots : Nat) (g : JFrame) (rest : List Value) (y : MethodName) (a : Array Value) : Prop :=
  ∀ T : State, T.heap = H → Stand p l e R s m args below meth c T locs cells slots → ∃ (mk : MethodId) (vm₁ : Vm), Stand p l e R s m args below meth c (T.setVm vm₁) locs cells slots ∧ s.methodNamed? y = some mk ∧
    ∀ target, (∀ acts, Steps p.tables e below (doInvoke e ((T.setVm vm₁).setTop { g with stack := rest }) acts mk a).1 target) → Steps p.tables e below (T.setTop g) target
def bIs (y : MethodName) (maxL : Nat) : Prop := (∃ (cc : ByteArray) (ret : Option FieldType), Cond.code y cc maxL ret ∈ Tb) ∨ ∃ (cc : ByteArray) (ret : Option FieldType) (hh : List (Nat × Nat × Nat × Nat)), Cond.codeWith y cc maxL ret hh ∈ Tb
theorem bIs.spec {y : MethodName} {maxL : Nat} (h : bIs y maxL) {args : Array Value} {s : State} (hts : ∀ w ∈ Tb, w.before args s = true) : ∃ (mk : MethodId) (meth : Method) (c : Code), s.methodNamed? y = some mk ∧ s.vm.method? mk = some meth ∧ meth.code = some c ∧ c.maxLocals = maxL ∧ parseMethodDescriptor y.desc = some meth.sig := by
  rcases h with ⟨cc, ret, h⟩ | ⟨cc, ret, hh, h⟩
  · obtain ⟨mk, hn⟩ := Cond.code_named (hts _ h)
    obtain ⟨meth, c, h1, h2, -, h4, -, -, -, h5⟩ := Cond.code_spec hn (hts _ h)
    exact ⟨mk, meth, c, hn, h1, h2, h4, h5⟩
  · obtain ⟨mk, meth, c, hn, h1, h2, -, h4, -, -, -, h5⟩ := Cond.codeWith_spec (hts _ h)
    exact ⟨mk, meth, c, hn, h1, h2, h4, h5⟩
theorem bGood.at {w : Cond} (h : bGood w = true) {args a' : Array Value} {s U : State} (hW : s.WarmedH U.vm) (hw : w.before args s = true) : w.before a' U = true := by
  unfold bGood at h
  rw [Bool.or_eq_true] at h
  rcases h with h | h
  · exact word_at hW (Or.inl h) hw
  · refine word_at hW (Or.inr ?_) hw
    split at h
    · exact ⟨_, rfl⟩
    · cases h
end
section
section bR1
variable {p : Program} {l : Launch} {e : Env} {R : Room} {s : State} {m : MethodId} {args : Array Value} {below : List Frame} {meth : Method} {c : Code} {dd : bD} {A : Nat → Prop} {nL mc ms : Nat} {post : Option Value → (Nat → Nat) → (Nat → va_E) → Nat → Prop} {thr : String → (Nat → Nat) → (Nat → va_E) → Nat → Prop} {pc : Nat} {lo : Nat → Option Value} {rest : List Value} {ad : Nat → Nat} {w : Nat → va_E} {N cells slots : Nat} {cc : ByteArray} {own : String} {ret : Option FieldType} {hh : List (Nat × Nat × Nat × Nat)}
theorem bv_iconst {n : Int} {v : Int32} (pc' : Nat) (hpc : pc + 1 = pc') (C : bCx p R s m args meth c cc own nL ret hh dd A) (hdg : decode cc pc = .ok (.iconst n, 1)) (hv : Int32.ofInt n = v)
    (k : bV p l e R s m args below meth c dd A nL mc ms post thr pc' lo (.int v :: rest) ad w N cells slots) : bV p l e R s m args below meth c dd A nL mc ms post thr pc lo (rest) ad w N cells slots := by
  subst hpc
  exact fun H locs ls hL hP hD hS => lv_iconst C.1 C.2.1 hdg hv (k H locs ls hL hP hD hS)
theorem bv_bipush {n : Int} {v : Int32} (pc' : Nat) (hpc : pc + 2 = pc') (C : bCx p R s m args meth c cc own nL ret hh dd A) (hdg : decode cc pc = .ok (.bipush n, 2)) (hv : (Int8.ofInt n).toInt32 = v)
    (k : bV p l e R s m args below meth c dd A nL mc ms post thr pc' lo (.int v :: rest) ad w N cells slots) : bV p l e R s m args below meth c dd A nL mc ms post thr pc lo (rest) ad w N cells slots := by
  subst hpc
  exact fun H locs ls hL hP hD hS => lv_bipush C.1 C.2.1 hdg hv (k H locs ls hL hP hD hS)
theorem bv_sipush {n : Int} {v : Int32} (pc' : Nat) (hpc : pc + 3 = pc') (C : bCx p R s m args meth c cc own nL ret hh dd A) (hdg : decode cc pc = .ok (.sipush n, 3)) (hv : (Int16.ofInt n).toInt32 = v)
    (k : bV p l e R s m args below meth c dd A nL mc ms post thr pc' lo (.int v :: rest) ad w N cells slots) : bV p l e R s m args below meth c dd A nL mc ms post thr pc lo (rest) ad w N cells slots := by
  subst hpc
  exact fun H locs ls hL hP hD hS => lv_sipush C.1 C.2.1 hdg hv (k H locs ls hL hP hD hS)
theorem bv_lconst {n : Fin 2} {v : Int64} (pc' : Nat) (hpc : pc + 1 = pc') (C : bCx p R s m args meth c cc own nL ret hh dd A) (hdg : decode cc pc = .ok (.lconst n, 1)) (hv : Int64.ofNat (n : Nat) = v)
    (k : bV p l e R s m args below meth c dd A nL mc ms post thr pc' lo (.long v :: rest) ad w N cells slots) : bV p l e R s m args below meth c dd A nL mc ms post thr pc lo (rest) ad w N cells slots := by
  subst hpc
  exact fun H locs ls hL hP hD hS => lv_lconst C.1 C.2.1 hdg hv (k H locs ls hL hP hD hS)
theorem bv_iload_n {k : Fin 4} {x : Int32} (pc' : Nat) (hpc : pc + 1 = pc') (C : bCx p R s m args meth c cc own nL ret hh dd A) (hdg : decode cc pc = .ok (.iload_n k, 1)) (hl : lo k = some (.int x))
    (k : bV p l e R s m args below meth c dd A nL mc ms post thr pc' lo (.int x :: rest) ad w N cells slots) : bV p l e R s m args below meth c dd A nL mc ms post thr pc lo (rest) ad w N cells slots := by
  subst hpc
  exact fun H locs ls hL hP hD hS => lv_iload_n C.1 C.2.1 hdg rfl (hL.2.2 _ _ hl) (k H locs ls hL hP hD hS)
theorem bv_iload {i : Nat} {x : Int32} (pc' : Nat) (hpc : pc + 2 = pc') (C : bCx p R s m args meth c cc own nL ret hh dd A) (hdg : decode cc pc = .ok (.iload i, 2)) (hl : lo i = some (.int x))
    (k : bV p l e R s m args below meth c dd A nL mc ms post thr pc' lo (.int x :: rest) ad w N cells slots) : bV p l e R s m args below meth c dd A nL mc ms post thr pc lo (rest) ad w N cells slots := by
  subst hpc
  exact fun H locs ls hL hP hD hS => lv_iload C.1 C.2.1 hdg (hL.2.2 _ _ hl) (k H locs ls hL hP hD hS)
theorem bv_lload_n {k : Fin 4} {x : Int64} (pc' : Nat) (hpc : pc + 1 = pc') (C : bCx p R s m args meth c cc own nL ret hh dd A) (hdg : decode cc pc = .ok (.lload_n k, 1)) (hl : lo k = some (.long x))
    (k : bV p l e R s m args below meth c dd A nL mc ms post thr pc' lo (.long x :: rest) ad w N cells slots) : bV p l e R s m args below meth c dd A nL mc ms post thr pc lo (rest) ad w N cells slots := by
  subst hpc
  exact fun H locs ls hL hP hD hS => lv_lload_n C.1 C.2.1 hdg rfl (hL.2.2 _ _ hl) (k H locs ls hL hP hD hS)
theorem bv_lload {i : Nat} {x : Int64} (pc' : Nat) (hpc : pc + 2 = pc') (C : bCx p R s m args meth c cc own nL ret hh dd A) (hdg : decode cc pc = .ok (.lload i, 2)) (hl : lo i = some (.long x))
    (k : bV p l e R s m args below meth c dd A nL mc ms post thr pc' lo (.long x :: rest) ad w N cells slots) : bV p l e R s m args below meth c dd A nL mc ms post thr pc lo (rest) ad w N cells slots := by
  subst hpc
  exact fun H locs ls hL hP hD hS => lv_lload C.1 C.2.1 hdg (hL.2.2 _ _ hl) (k H locs ls hL hP hD hS)
theorem bv_aload_n {k : Fin 4} {x : Nat} (pc' : Nat) (hpc : pc + 1 = pc') (C : bCx p R s m args meth c cc own nL ret hh dd A) (hdg : decode cc pc = .ok (.aload_n k, 1)) (hl : lo k = some (.ref x))
    (k : bV p l e R s m args below meth c dd A nL mc ms post thr pc' lo (.ref x :: rest) ad w N cells slots) : bV p l e R s m args below meth c dd A nL mc ms post thr pc lo (rest) ad w N cells slots := by
  subst hpc
  exact fun H locs ls hL hP hD hS => lv_aload_n C.1 C.2.1 hdg rfl (hL.2.2 _ _ hl) (k H locs ls hL hP hD hS)
theorem bv_aload {i : Nat} {x : Nat} (pc' : Nat) (hpc : pc + 2 = pc') (C : bCx p R s m args meth c cc own nL ret hh dd A) (hdg : decode cc pc = .ok (.aload i, 2)) (hl : lo i = some (.ref x))
    (k : bV p l e R s m args below meth c dd A nL mc ms post thr pc' lo (.ref x :: rest) ad w N cells slots) : bV p l e R s m args below meth c dd A nL mc ms post thr pc lo (rest) ad w N cells slots := by
  subst hpc
  exact fun H locs ls hL hP hD hS => lv_aload C.1 C.2.1 hdg (hL.2.2 _ _ hl) (k H locs ls hL hP hD hS)
theorem bv_aload_nN {k : Fin 4} (pc' : Nat) (hpc : pc + 1 = pc') (C : bCx p R s m args meth c cc own nL ret hh dd A) (hdg : decode cc pc = .ok (.aload_n k, 1)) (hl : lo k = some .null)
    (k : bV p l e R s m args below meth c dd A nL mc ms post thr pc' lo (.null :: rest) ad w N cells slots) : bV p l e R s m args below meth c dd A nL mc ms post thr pc lo (rest) ad w N cells slots := by
  subst hpc
  exact fun H locs ls hL hP hD hS => lv_aload_nN C.1 C.2.1 hdg rfl (hL.2.2 _ _ hl) (k H locs ls hL hP hD hS)
theorem bv_aloadN {i : Nat} (pc' : Nat) (hpc : pc + 2 = pc') (C : bCx p R s m args meth c cc own nL ret hh dd A) (hdg : decode cc pc = .ok (.aload i, 2)) (hl : lo i = some .null)
    (k : bV p l e R s m args below meth c dd A nL mc ms post thr pc' lo (.null :: rest) ad w N cells slots) : bV p l e R s m args below meth c dd A nL mc ms post thr pc lo (rest) ad w N cells slots := by
  subst hpc
  exact fun H locs ls hL hP hD hS => lv_aloadN C.1 C.2.1 hdg (hL.2.2 _ _ hl) (k H locs ls hL hP hD hS)
theorem bv_null  (pc' : Nat) (hpc : pc + 1 = pc') (C : bCx p R s m args meth c cc own nL ret hh dd A) (hdg : decode cc pc = .ok (.aconst_null, 1))
    (k : bV p l e R s m args below meth c dd A nL mc ms post thr pc' lo (.null :: rest) ad w N cells slots) : bV p l e R s m args below meth c dd A nL mc ms post thr pc lo (rest) ad w N cells slots := by
  subst hpc
  exact fun H locs ls hL hP hD hS => lv_null C.1 C.2.1 hdg (k H locs ls hL hP hD hS)
theorem bv_iadd {x y : Int32} (pc' : Nat) (hpc : pc + 1 = pc') (C : bCx p R s m args meth c cc own nL ret hh dd A) (hdg : decode cc pc = .ok (.iadd, 1))
    (k : bV p l e R s m args below meth c dd A nL mc ms post thr pc' lo (.int (x + y) :: rest) ad w N cells slots) : bV p l e R s m args below meth c dd A nL mc ms post thr pc lo (.int y :: .int x :: rest) ad w N cells slots := by
  subst hpc
  exact fun H locs ls hL hP hD hS => lv_iadd C.1 C.2.1 hdg (k H locs ls hL hP hD hS)
theorem bv_isub {x y : Int32} (pc' : Nat) (hpc : pc + 1 = pc') (C : bCx p R s m args meth c cc own nL ret hh dd A) (hdg : decode cc pc = .ok (.isub, 1))
    (k : bV p l e R s m args below meth c dd A nL mc ms post thr pc' lo (.int (x - y) :: rest) ad w N cells slots) : bV p l e R s m args below meth c dd A nL mc ms post thr pc lo (.int y :: .int x :: rest) ad w N cells slots := by
  subst hpc
  exact fun H locs ls hL hP hD hS => lv_isub C.1 C.2.1 hdg (k H locs ls hL hP hD hS)
theorem bv_imul {x y : Int32} (pc' : Nat) (hpc : pc + 1 = pc') (C : bCx p R s m args meth c cc own nL ret hh dd A) (hdg : decode cc pc = .ok (.imul, 1))
    (k : bV p l e R s m args below meth c dd A nL mc ms post thr pc' lo (.int (x * y) :: rest) ad w N cells slots) : bV p l e R s m args below meth c dd A nL mc ms post thr pc lo (.int y :: .int x :: rest) ad w N cells slots := by
  subst hpc
  exact fun H locs ls hL hP hD hS => lv_imul C.1 C.2.1 hdg (k H locs ls hL hP hD hS)
theorem bv_iand {x y : Int32} (pc' : Nat) (hpc : pc + 1 = pc') (C : bCx p R s m args meth c cc own nL ret hh dd A) (hdg : decode cc pc = .ok (.iand, 1))
    (k : bV p l e R s m args below meth c dd A nL mc ms post thr pc' lo (.int (x &&& y) :: rest) ad w N cells slots) : bV p l e R s m args below meth c dd A nL mc ms post thr pc lo (.int y :: .int x :: rest) ad w N cells slots := by
  subst hpc
  exact fun H locs ls hL hP hD hS => lv_iand C.1 C.2.1 hdg (k H locs ls hL hP hD hS)
theorem bv_ior {x y : Int32} (pc' : Nat) (hpc : pc + 1 = pc') (C : bCx p R s m args meth c cc own nL ret hh dd A) (hdg : decode cc pc = .ok (.ior, 1))
    (k : bV p l e R s m args below meth c dd A nL mc ms post thr pc' lo (.int (x ||| y) :: rest) ad w N cells slots) : bV p l e R s m args below meth c dd A nL mc ms post thr pc lo (.int y :: .int x :: rest) ad w N cells slots := by
  subst hpc
  exact fun H locs ls hL hP hD hS => lv_ior C.1 C.2.1 hdg (k H locs ls hL hP hD hS)
theorem bv_ixor {x y : Int32} (pc' : Nat) (hpc : pc + 1 = pc') (C : bCx p R s m args meth c cc own nL ret hh dd A) (hdg : decode cc pc = .ok (.ixor, 1))
    (k : bV p l e R s m args below meth c dd A nL mc ms post thr pc' lo (.int (x ^^^ y) :: rest) ad w N cells slots) : bV p l e R s m args below meth c dd A nL mc ms post thr pc lo (.int y :: .int x :: rest) ad w N cells slots := by
  subst hpc
  exact fun H locs ls hL hP hD hS => lv_ixor C.1 C.2.1 hdg (k H locs ls hL hP hD hS)
theorem bv_ishl {x y : Int32} (pc' : Nat) (hpc : pc + 1 = pc') (C : bCx p R s m args meth c cc own nL ret hh dd A) (hdg : decode cc pc = .ok (.ishl, 1))
    (k : bV p l e R s m args below meth c dd A nL mc ms post thr pc' lo (.int (x <<< (y &&& 31)) :: rest) ad w N cells slots) : bV p l e R s m args below meth c dd A nL mc ms post thr pc lo (.int y :: .int x :: rest) ad w N cells slots := by
  subst hpc
  exact fun H locs ls hL hP hD hS => lv_ishl C.1 C.2.1 hdg (k H locs ls hL hP hD hS)
theorem bv_ishr {x y : Int32} (pc' : Nat) (hpc : pc + 1 = pc') (C : bCx p R s m args meth c cc own nL ret hh dd A) (hdg : decode cc pc = .ok (.ishr, 1))
    (k : bV p l e R s m args below meth c dd A nL mc ms post thr pc' lo (.int (x >>> (y &&& 31)) :: rest) ad w N cells slots) : bV p l e R s m args below meth c dd A nL mc ms post thr pc lo (.int y :: .int x :: rest) ad w N cells slots := by
  subst hpc
  exact fun H locs ls hL hP hD hS => lv_ishr C.1 C.2.1 hdg (k H locs ls hL hP hD hS)
theorem bv_idiv {x y : Int32} (pc' : Nat) (hpc : pc + 1 = pc') (C : bCx p R s m args meth c cc own nL ret hh dd A) (hdg : decode cc pc = .ok (.idiv, 1)) (hne : ¬ y = 0)
    (k : bV p l e R s m args below meth c dd A nL mc ms post thr pc' lo (.int (x / y) :: rest) ad w N cells slots) : bV p l e R s m args below meth c dd A nL mc ms post thr pc lo (.int y :: .int x :: rest) ad w N cells slots := by
  subst hpc
  exact fun H locs ls hL hP hD hS => lv_idiv C.1 C.2.1 hdg hne (k H locs ls hL hP hD hS)
theorem bv_irem {x y : Int32} (pc' : Nat) (hpc : pc + 1 = pc') (C : bCx p R s m args meth c cc own nL ret hh dd A) (hdg : decode cc pc = .ok (.irem, 1)) (hne : ¬ y = 0)
    (k : bV p l e R s m args below meth c dd A nL mc ms post thr pc' lo (.int (x - x / y * y) :: rest) ad w N cells slots) : bV p l e R s m args below meth c dd A nL mc ms post thr pc lo (.int y :: .int x :: rest) ad w N cells slots := by
  subst hpc
  exact fun H locs ls hL hP hD hS => lv_irem C.1 C.2.1 hdg hne (k H locs ls hL hP hD hS)
theorem bv_ladd {x y : Int64} (pc' : Nat) (hpc : pc + 1 = pc') (C : bCx p R s m args meth c cc own nL ret hh dd A) (hdg : decode cc pc = .ok (.ladd, 1))
    (k : bV p l e R s m args below meth c dd A nL mc ms post thr pc' lo (.long (x + y) :: rest) ad w N cells slots) : bV p l e R s m args below meth c dd A nL mc ms post thr pc lo (.long y :: .long x :: rest) ad w N cells slots := by
  subst hpc
  exact fun H locs ls hL hP hD hS => lv_ladd C.1 C.2.1 hdg (k H locs ls hL hP hD hS)
theorem bv_lsub {x y : Int64} (pc' : Nat) (hpc : pc + 1 = pc') (C : bCx p R s m args meth c cc own nL ret hh dd A) (hdg : decode cc pc = .ok (.lsub, 1))
    (k : bV p l e R s m args below meth c dd A nL mc ms post thr pc' lo (.long (x - y) :: rest) ad w N cells slots) : bV p l e R s m args below meth c dd A nL mc ms post thr pc lo (.long y :: .long x :: rest) ad w N cells slots := by
  subst hpc
  exact fun H locs ls hL hP hD hS => lv_lsub C.1 C.2.1 hdg (k H locs ls hL hP hD hS)
theorem bv_lmul {x y : Int64} (pc' : Nat) (hpc : pc + 1 = pc') (C : bCx p R s m args meth c cc own nL ret hh dd A) (hdg : decode cc pc = .ok (.lmul, 1))
    (k : bV p l e R s m args below meth c dd A nL mc ms post thr pc' lo (.long (x * y) :: rest) ad w N cells slots) : bV p l e R s m args below meth c dd A nL mc ms post thr pc lo (.long y :: .long x :: rest) ad w N cells slots := by
  subst hpc
  exact fun H locs ls hL hP hD hS => lv_lmul C.1 C.2.1 hdg (k H locs ls hL hP hD hS)
theorem bv_land {x y : Int64} (pc' : Nat) (hpc : pc + 1 = pc') (C : bCx p R s m args meth c cc own nL ret hh dd A) (hdg : decode cc pc = .ok (.land, 1))
    (k : bV p l e R s m args below meth c dd A nL mc ms post thr pc' lo (.long (x &&& y) :: rest) ad w N cells slots) : bV p l e R s m args below meth c dd A nL mc ms post thr pc lo (.long y :: .long x :: rest) ad w N cells slots := by
  subst hpc
  exact fun H locs ls hL hP hD hS => lv_land C.1 C.2.1 hdg (k H locs ls hL hP hD hS)
theorem bv_lor {x y : Int64} (pc' : Nat) (hpc : pc + 1 = pc') (C : bCx p R s m args meth c cc own nL ret hh dd A) (hdg : decode cc pc = .ok (.lor, 1))
    (k : bV p l e R s m args below meth c dd A nL mc ms post thr pc' lo (.long (x ||| y) :: rest) ad w N cells slots) : bV p l e R s m args below meth c dd A nL mc ms post thr pc lo (.long y :: .long x :: rest) ad w N cells slots := by
  subst hpc
  exact fun H locs ls hL hP hD hS => lv_lor C.1 C.2.1 hdg (k H locs ls hL hP hD hS)
theorem bv_lxor {x y : Int64} (pc' : Nat) (hpc : pc + 1 = pc') (C : bCx p R s m args meth c cc own nL ret hh dd A) (hdg : decode cc pc = .ok (.lxor, 1))
    (k : bV p l e R s m args below meth c dd A nL mc ms post thr pc' lo (.long (x ^^^ y) :: rest) ad w N cells slots) : bV p l e R s m args below meth c dd A nL mc ms post thr pc lo (.long y :: .long x :: rest) ad w N cells slots := by
  subst hpc
  exact fun H locs ls hL hP hD hS => lv_lxor C.1 C.2.1 hdg (k H locs ls hL hP hD hS)
theorem bv_iushr {x y v : Int32} (pc' : Nat) (hpc : pc + 1 = pc') (C : bCx p R s m args meth c cc own nL ret hh dd A) (hdg : decode cc pc = .ok (.iushr, 1)) (hv : (x.toUInt32 >>> (y.toUInt32 &&& Int32.toUInt32 31)).toInt32 = v)
    (k : bV p l e R s m args below meth c dd A nL mc ms post thr pc' lo (.int v :: rest) ad w N cells slots) : bV p l e R s m args below meth c dd A nL mc ms post thr pc lo (.int y :: .int x :: rest) ad w N cells slots := by
  subst hpc
  exact fun H locs ls hL hP hD hS => lv_iushr C.1 C.2.1 hdg hv (k H locs ls hL hP hD hS)
theorem bv_lushr {x v : Int64} {y : Int32} (pc' : Nat) (hpc : pc + 1 = pc') (C : bCx p R s m args meth c cc own nL ret hh dd A) (hdg : decode cc pc = .ok (.lushr, 1)) (hv : (x.toUInt64 >>> (y.toInt64.toUInt64 &&& Int64.toUInt64 63)).toInt64 = v)
    (k : bV p l e R s m args below meth c dd A nL mc ms post thr pc' lo (.long v :: rest) ad w N cells slots) : bV p l e R s m args below meth c dd A nL mc ms post thr pc lo (.int y :: .long x :: rest) ad w N cells slots := by
  subst hpc
  exact fun H locs ls hL hP hD hS => lv_lushr C.1 C.2.1 hdg hv (k H locs ls hL hP hD hS)
theorem bv_lshl {x v : Int64} {y : Int32} (pc' : Nat) (hpc : pc + 1 = pc') (C : bCx p R s m args meth c cc own nL ret hh dd A) (hdg : decode cc pc = .ok (.lshl, 1)) (hv : x <<< (y.toInt64 &&& 63) = v)
    (k : bV p l e R s m args below meth c dd A nL mc ms post thr pc' lo (.long v :: rest) ad w N cells slots) : bV p l e R s m args below meth c dd A nL mc ms post thr pc lo (.int y :: .long x :: rest) ad w N cells slots := by
  subst hpc
  exact fun H locs ls hL hP hD hS => lv_lshl C.1 C.2.1 hdg hv (k H locs ls hL hP hD hS)
theorem bv_lshr {x v : Int64} {y : Int32} (pc' : Nat) (hpc : pc + 1 = pc') (C : bCx p R s m args meth c cc own nL ret hh dd A) (hdg : decode cc pc = .ok (.lshr, 1)) (hv : x >>> (y.toInt64 &&& 63) = v)
    (k : bV p l e R s m args below meth c dd A nL mc ms post thr pc' lo (.long v :: rest) ad w N cells slots) : bV p l e R s m args below meth c dd A nL mc ms post thr pc lo (.int y :: .long x :: rest) ad w N cells slots := by
  subst hpc
  exact fun H locs ls hL hP hD hS => lv_lshr C.1 C.2.1 hdg hv (k H locs ls hL hP hD hS)
theorem bv_i2l {x : Int32} {v : Int64} (pc' : Nat) (hpc : pc + 1 = pc') (C : bCx p R s m args meth c cc own nL ret hh dd A) (hdg : decode cc pc = .ok (.i2l, 1)) (hv : x.toInt64 = v)
    (k : bV p l e R s m args below meth c dd A nL mc ms post thr pc' lo (.long v :: rest) ad w N cells slots) : bV p l e R s m args below meth c dd A nL mc ms post thr pc lo (.int x :: rest) ad w N cells slots := by
  subst hpc
  exact fun H locs ls hL hP hD hS => lv_i2l C.1 C.2.1 hdg hv (k H locs ls hL hP hD hS)
theorem bv_l2i {x : Int64} {v : Int32} (pc' : Nat) (hpc : pc + 1 = pc') (C : bCx p R s m args meth c cc own nL ret hh dd A) (hdg : decode cc pc = .ok (.l2i, 1)) (hv : x.toInt32 = v)
    (k : bV p l e R s m args below meth c dd A nL mc ms post thr pc' lo (.int v :: rest) ad w N cells slots) : bV p l e R s m args below meth c dd A nL mc ms post thr pc lo (.long x :: rest) ad w N cells slots := by
  subst hpc
  exact fun H locs ls hL hP hD hS => lv_l2i C.1 C.2.1 hdg hv (k H locs ls hL hP hD hS)
theorem bv_i2b {x : Int32} {v : Int32} (pc' : Nat) (hpc : pc + 1 = pc') (C : bCx p R s m args meth c cc own nL ret hh dd A) (hdg : decode cc pc = .ok (.i2b, 1)) (hv : x.toInt8.toInt32 = v)
    (k : bV p l e R s m args below meth c dd A nL mc ms post thr pc' lo (.int v :: rest) ad w N cells slots) : bV p l e R s m args below meth c dd A nL mc ms post thr pc lo (.int x :: rest) ad w N cells slots := by
  subst hpc
  exact fun H locs ls hL hP hD hS => lv_i2b C.1 C.2.1 hdg hv (k H locs ls hL hP hD hS)
theorem bv_ineg {x : Int32} (pc' : Nat) (hpc : pc + 1 = pc') (C : bCx p R s m args meth c cc own nL ret hh dd A) (hdg : decode cc pc = .ok (.ineg, 1))
    (k : bV p l e R s m args below meth c dd A nL mc ms post thr pc' lo (.int (-x) :: rest) ad w N cells slots) : bV p l e R s m args below meth c dd A nL mc ms post thr pc lo (.int x :: rest) ad w N cells slots := by
  subst hpc
  exact fun H locs ls hL hP hD hS => lv_ineg C.1 C.2.1 hdg (k H locs ls hL hP hD hS)
theorem bv_lcmp {x y : Int64} (pc' : Nat) (hpc : pc + 1 = pc') (C : bCx p R s m args meth c cc own nL ret hh dd A) (hdg : decode cc pc = .ok (.lcmp, 1))
    (k : bV p l e R s m args below meth c dd A nL mc ms post thr pc' lo (.int (lg_cmp x y) :: rest) ad w N cells slots) : bV p l e R s m args below meth c dd A nL mc ms post thr pc lo (.long y :: .long x :: rest) ad w N cells slots := by
  subst hpc
  exact fun H locs ls hL hP hD hS => W.lcmp C.1 C.2.1 hdg (k H locs ls hL hP hD hS)
theorem bv_dup {va : Value} (pc' : Nat) (hpc : pc + 1 = pc') (C : bCx p R s m args meth c cc own nL ret hh dd A) (hdg : decode cc pc = .ok (.dup, 1)) (hva : va.category = 1)
    (k : bV p l e R s m args below meth c dd A nL mc ms post thr pc' lo (va :: va :: rest) ad w N cells slots) : bV p l e R s m args below meth c dd A nL mc ms post thr pc lo (va :: rest) ad w N cells slots := by
  subst hpc
  exact fun H locs ls hL hP hD hS => lv_dup C.1 C.2.1 hdg hva (k H locs ls hL hP hD hS)
theorem bv_pop {va : Value} (pc' : Nat) (hpc : pc + 1 = pc') (C : bCx p R s m args meth c cc own nL ret hh dd A) (hdg : decode cc pc = .ok (.pop, 1)) (hva : va.category = 1)
    (k : bV p l e R s m args below meth c dd A nL mc ms post thr pc' lo (rest) ad w N cells slots) : bV p l e R s m args below meth c dd A nL mc ms post thr pc lo (va :: rest) ad w N cells slots := by
  subst hpc
  exact fun H locs ls hL hP hD hS => lv_pop C.1 C.2.1 hdg hva (k H locs ls hL hP hD hS)
theorem bv_dup_x1 {va vb : Value} (pc' : Nat) (hpc : pc + 1 = pc') (C : bCx p R s m args meth c cc own nL ret hh dd A) (hdg : decode cc pc = .ok (.dup_x1, 1)) (hva : va.category = 1) (hvb : vb.category = 1)
    (k : bV p l e R s m args below meth c dd A nL mc ms post thr pc' lo (va :: vb :: va :: rest) ad w N cells slots) : bV p l e R s m args below meth c dd A nL mc ms post thr pc lo (va :: vb :: rest) ad w N cells slots := by
  subst hpc
  exact fun H locs ls hL hP hD hS => lv_dup_x1 C.1 C.2.1 hdg hva hvb (k H locs ls hL hP hD hS)
theorem bv_dup_x2 {va vb vd : Value} (pc' : Nat) (hpc : pc + 1 = pc') (C : bCx p R s m args meth c cc own nL ret hh dd A) (hdg : decode cc pc = .ok (.dup_x2, 1)) (hva : va.category = 1) (hvb : vb.category = 1) (hvd : vd.category = 1)
    (k : bV p l e R s m args below meth c dd A nL mc ms post thr pc' lo (va :: vb :: vd :: va :: rest) ad w N cells slots) : bV p l e R s m args below meth c dd A nL mc ms post thr pc lo (va :: vb :: vd :: rest) ad w N cells slots := by
  subst hpc
  exact fun H locs ls hL hP hD hS => lv_dup_x2 C.1 C.2.1 hdg hva hvb hvd (k H locs ls hL hP hD hS)
theorem bv_dup2_11 {va vb : Value} (pc' : Nat) (hpc : pc + 1 = pc') (C : bCx p R s m args meth c cc own nL ret hh dd A) (hdg : decode cc pc = .ok (.dup2, 1)) (hva : va.category = 1) (hvb : vb.category = 1)
    (k : bV p l e R s m args below meth c dd A nL mc ms post thr pc' lo (va :: vb :: va :: vb :: rest) ad w N cells slots) : bV p l e R s m args below meth c dd A nL mc ms post thr pc lo (va :: vb :: rest) ad w N cells slots := by
  subst hpc
  exact fun H locs ls hL hP hD hS => lv_dup2_11 C.1 C.2.1 hdg hva hvb (k H locs ls hL hP hD hS)
theorem bv_if_eq {x : Int32} {off : Int} (tgt pc' : Nat) (hpc : pc + 3 = pc') (C : bCx p R s m args meth c cc own nL ret hh dd A) (hdg : decode cc pc = .ok (.ifCond .eq off, 3)) (ht : (pc : Int) + off = (tgt : Int))
    (kt : x = 0 → bV p l e R s m args below meth c dd A nL mc ms post thr tgt lo rest ad w N cells slots) (kf : ¬ x = 0 → bV p l e R s m args below meth c dd A nL mc ms post thr pc' lo rest ad w N cells slots) : bV p l e R s m args below meth c dd A nL mc ms post thr pc lo (.int x :: rest) ad w N cells slots := by
  subst hpc
  exact fun H locs ls hL hP hD hS => lv_if_eq C.1 C.2.1 hdg ht (fun h => kt h H locs ls hL hP hD hS) (fun h => kf h H locs ls hL hP hD hS)
theorem bv_if_ne {x : Int32} {off : Int} (tgt pc' : Nat) (hpc : pc + 3 = pc') (C : bCx p R s m args meth c cc own nL ret hh dd A) (hdg : decode cc pc = .ok (.ifCond .ne off, 3)) (ht : (pc : Int) + off = (tgt : Int))
    (kt : ¬ x = 0 → bV p l e R s m args below meth c dd A nL mc ms post thr tgt lo rest ad w N cells slots) (kf : x = 0 → bV p l e R s m args below meth c dd A nL mc ms post thr pc' lo rest ad w N cells slots) : bV p l e R s m args below meth c dd A nL mc ms post thr pc lo (.int x :: rest) ad w N cells slots := by
  subst hpc
  exact fun H locs ls hL hP hD hS => lv_if_ne C.1 C.2.1 hdg ht (fun h => kt h H locs ls hL hP hD hS) (fun h => kf h H locs ls hL hP hD hS)
theorem bv_if_lt {x : Int32} {off : Int} (tgt pc' : Nat) (hpc : pc + 3 = pc') (C : bCx p R s m args meth c cc own nL ret hh dd A) (hdg : decode cc pc = .ok (.ifCond .lt off, 3)) (ht : (pc : Int) + off = (tgt : Int))
    (kt : x < 0 → bV p l e R s m args below meth c dd A nL mc ms post thr tgt lo rest ad w N cells slots) (kf : ¬ x < 0 → bV p l e R s m args below meth c dd A nL mc ms post thr pc' lo rest ad w N cells slots) : bV p l e R s m args below meth c dd A nL mc ms post thr pc lo (.int x :: rest) ad w N cells slots := by
  subst hpc
  exact fun H locs ls hL hP hD hS => lv_if_lt C.1 C.2.1 hdg ht (fun h => kt h H locs ls hL hP hD hS) (fun h => kf h H locs ls hL hP hD hS)
theorem bv_if_ge {x : Int32} {off : Int} (tgt pc' : Nat) (hpc : pc + 3 = pc') (C : bCx p R s m args meth c cc own nL ret hh dd A) (hdg : decode cc pc = .ok (.ifCond .ge off, 3)) (ht : (pc : Int) + off = (tgt : Int))
    (kt : 0 ≤ x → bV p l e R s m args below meth c dd A nL mc ms post thr tgt lo rest ad w N cells slots) (kf : ¬ 0 ≤ x → bV p l e R s m args below meth c dd A nL mc ms post thr pc' lo rest ad w N cells slots) : bV p l e R s m args below meth c dd A nL mc ms post thr pc lo (.int x :: rest) ad w N cells slots := by
  subst hpc
  exact fun H locs ls hL hP hD hS => lv_if_ge C.1 C.2.1 hdg ht (fun h => kt h H locs ls hL hP hD hS) (fun h => kf h H locs ls hL hP hD hS)
theorem bv_if_gt {x : Int32} {off : Int} (tgt pc' : Nat) (hpc : pc + 3 = pc') (C : bCx p R s m args meth c cc own nL ret hh dd A) (hdg : decode cc pc = .ok (.ifCond .gt off, 3)) (ht : (pc : Int) + off = (tgt : Int))
    (kt : 0 < x → bV p l e R s m args below meth c dd A nL mc ms post thr tgt lo rest ad w N cells slots) (kf : ¬ 0 < x → bV p l e R s m args below meth c dd A nL mc ms post thr pc' lo rest ad w N cells slots) : bV p l e R s m args below meth c dd A nL mc ms post thr pc lo (.int x :: rest) ad w N cells slots := by
  subst hpc
  exact fun H locs ls hL hP hD hS => lv_if_gt C.1 C.2.1 hdg ht (fun h => kt h H locs ls hL hP hD hS) (fun h => kf h H locs ls hL hP hD hS)
theorem bv_if_le {x : Int32} {off : Int} (tgt pc' : Nat) (hpc : pc + 3 = pc') (C : bCx p R s m args meth c cc own nL ret hh dd A) (hdg : decode cc pc = .ok (.ifCond .le off, 3)) (ht : (pc : Int) + off = (tgt : Int))
    (kt : x ≤ 0 → bV p l e R s m args below meth c dd A nL mc ms post thr tgt lo rest ad w N cells slots) (kf : ¬ x ≤ 0 → bV p l e R s m args below meth c dd A nL mc ms post thr pc' lo rest ad w N cells slots) : bV p l e R s m args below meth c dd A nL mc ms post thr pc lo (.int x :: rest) ad w N cells slots := by
  subst hpc
  exact fun H locs ls hL hP hD hS => lv_if_le C.1 C.2.1 hdg ht (fun h => kt h H locs ls hL hP hD hS) (fun h => kf h H locs ls hL hP hD hS)
theorem bv_icmp_eq {x y : Int32} {off : Int} (tgt pc' : Nat) (hpc : pc + 3 = pc') (C : bCx p R s m args meth c cc own nL ret hh dd A) (hdg : decode cc pc = .ok (.if_icmp .eq off, 3)) (ht : (pc : Int) + off = (tgt : Int))
    (kt : x = y → bV p l e R s m args below meth c dd A nL mc ms post thr tgt lo rest ad w N cells slots) (kf : ¬ x = y → bV p l e R s m args below meth c dd A nL mc ms post thr pc' lo rest ad w N cells slots) : bV p l e R s m args below meth c dd A nL mc ms post thr pc lo (.int y :: .int x :: rest) ad w N cells slots := by
  subst hpc
  exact fun H locs ls hL hP hD hS => lv_icmp_eq C.1 C.2.1 hdg ht (fun h => kt h H locs ls hL hP hD hS) (fun h => kf h H locs ls hL hP hD hS)
theorem bv_icmp_ne {x y : Int32} {off : Int} (tgt pc' : Nat) (hpc : pc + 3 = pc') (C : bCx p R s m args meth c cc own nL ret hh dd A) (hdg : decode cc pc = .ok (.if_icmp .ne off, 3)) (ht : (pc : Int) + off = (tgt : Int))
    (kt : ¬ x = y → bV p l e R s m args below meth c dd A nL mc ms post thr tgt lo rest ad w N cells slots) (kf : x = y → bV p l e R s m args below meth c dd A nL mc ms post thr pc' lo rest ad w N cells slots) : bV p l e R s m args below meth c dd A nL mc ms post thr pc lo (.int y :: .int x :: rest) ad w N cells slots := by
  subst hpc
  exact fun H locs ls hL hP hD hS => lv_icmp_ne C.1 C.2.1 hdg ht (fun h => kt h H locs ls hL hP hD hS) (fun h => kf h H locs ls hL hP hD hS)
theorem bv_icmp_lt {x y : Int32} {off : Int} (tgt pc' : Nat) (hpc : pc + 3 = pc') (C : bCx p R s m args meth c cc own nL ret hh dd A) (hdg : decode cc pc = .ok (.if_icmp .lt off, 3)) (ht : (pc : Int) + off = (tgt : Int))
    (kt : x < y → bV p l e R s m args below meth c dd A nL mc ms post thr tgt lo rest ad w N cells slots) (kf : ¬ x < y → bV p l e R s m args below meth c dd A nL mc ms post thr pc' lo rest ad w N cells slots) : bV p l e R s m args below meth c dd A nL mc ms post thr pc lo (.int y :: .int x :: rest) ad w N cells slots := by
  subst hpc
  exact fun H locs ls hL hP hD hS => lv_icmp_lt C.1 C.2.1 hdg ht (fun h => kt h H locs ls hL hP hD hS) (fun h => kf h H locs ls hL hP hD hS)
theorem bv_icmp_ge {x y : Int32} {off : Int} (tgt pc' : Nat) (hpc : pc + 3 = pc') (C : bCx p R s m args meth c cc own nL ret hh dd A) (hdg : decode cc pc = .ok (.if_icmp .ge off, 3)) (ht : (pc : Int) + off = (tgt : Int))
    (kt : y ≤ x → bV p l e R s m args below meth c dd A nL mc ms post thr tgt lo rest ad w N cells slots) (kf : ¬ y ≤ x → bV p l e R s m args below meth c dd A nL mc ms post thr pc' lo rest ad w N cells slots) : bV p l e R s m args below meth c dd A nL mc ms post thr pc lo (.int y :: .int x :: rest) ad w N cells slots := by
  subst hpc
  exact fun H locs ls hL hP hD hS => lv_icmp_ge C.1 C.2.1 hdg ht (fun h => kt h H locs ls hL hP hD hS) (fun h => kf h H locs ls hL hP hD hS)
theorem bv_icmp_gt {x y : Int32} {off : Int} (tgt pc' : Nat) (hpc : pc + 3 = pc') (C : bCx p R s m args meth c cc own nL ret hh dd A) (hdg : decode cc pc = .ok (.if_icmp .gt off, 3)) (ht : (pc : Int) + off = (tgt : Int))
    (kt : y < x → bV p l e R s m args below meth c dd A nL mc ms post thr tgt lo rest ad w N cells slots) (kf : ¬ y < x → bV p l e R s m args below meth c dd A nL mc ms post thr pc' lo rest ad w N cells slots) : bV p l e R s m args below meth c dd A nL mc ms post thr pc lo (.int y :: .int x :: rest) ad w N cells slots := by
  subst hpc
  exact fun H locs ls hL hP hD hS => lv_icmp_gt C.1 C.2.1 hdg ht (fun h => kt h H locs ls hL hP hD hS) (fun h => kf h H locs ls hL hP hD hS)
theorem bv_icmp_le {x y : Int32} {off : Int} (tgt pc' : Nat) (hpc : pc + 3 = pc') (C : bCx p R s m args meth c cc own nL ret hh dd A) (hdg : decode cc pc = .ok (.if_icmp .le off, 3)) (ht : (pc : Int) + off = (tgt : Int))
    (kt : x ≤ y → bV p l e R s m args below meth c dd A nL mc ms post thr tgt lo rest ad w N cells slots) (kf : ¬ x ≤ y → bV p l e R s m args below meth c dd A nL mc ms post thr pc' lo rest ad w N cells slots) : bV p l e R s m args below meth c dd A nL mc ms post thr pc lo (.int y :: .int x :: rest) ad w N cells slots := by
  subst hpc
  exact fun H locs ls hL hP hD hS => lv_icmp_le C.1 C.2.1 hdg ht (fun h => kt h H locs ls hL hP hD hS) (fun h => kf h H locs ls hL hP hD hS)
theorem bv_goto {off : Int} (tgt : Nat) (C : bCx p R s m args meth c cc own nL ret hh dd A) (hdg : decode cc pc = .ok (.goto off, 3)) (ht : (pc : Int) + off = (tgt : Int)) (k : bV p l e R s m args below meth c dd A nL mc ms post thr tgt lo rest ad w N cells slots) : bV p l e R s m args below meth c dd A nL mc ms post thr pc lo rest ad w N cells slots :=
  fun H locs ls hL hP hD hS => lv_goto C.1 C.2.1 hdg ht (k H locs ls hL hP hD hS)
theorem bv_istore_n {k : Fin 4} {x : Int32} (pc' : Nat) (hpc : pc + 1 = pc') (C : bCx p R s m args meth c cc own nL ret hh dd A) (hdg : decode cc pc = .ok (.istore_n k, 1)) (hn : (k : Nat) < nL)
    (kk : bV p l e R s m args below meth c dd A nL mc ms post thr pc' (bU lo k (.int x)) rest ad w N cells slots) : bV p l e R s m args below meth c dd A nL mc ms post thr pc lo (.int x :: rest) ad w N cells slots := by
  subst hpc
  exact fun H locs ls hL hP hD hS => lv_istore_n C.1 C.2.1 hdg rfl (bH.all hL) hn rfl (fun ls' h' => kk H locs ls' (bH.st1 hL h' (by rfl)) hP hD hS)
theorem bv_istore {i : Nat} {x : Int32} (pc' : Nat) (hpc : pc + 2 = pc') (C : bCx p R s m args meth c cc own nL ret hh dd A) (hdg : decode cc pc = .ok (.istore i, 2)) (hn : i < nL)
    (kk : bV p l e R s m args below meth c dd A nL mc ms post thr pc' (bU lo i (.int x)) rest ad w N cells slots) : bV p l e R s m args below meth c dd A nL mc ms post thr pc lo (.int x :: rest) ad w N cells slots := by
  subst hpc
  exact fun H locs ls hL hP hD hS => lv_istore C.1 C.2.1 hdg (bH.all hL) hn rfl (fun ls' h' => kk H locs ls' (bH.st1 hL h' (by rfl)) hP hD hS)
theorem bv_lstore_n {k : Fin 4} {x : Int64} (pc' : Nat) (hpc : pc + 1 = pc') (C : bCx p R s m args meth c cc own nL ret hh dd A) (hdg : decode cc pc = .ok (.lstore_n k, 1)) (hn : (k : Nat) + 1 < nL)
    (kk : bV p l e R s m args below meth c dd A nL mc ms post thr pc' (bS lo k (.long x)) rest ad w N cells slots) : bV p l e R s m args below meth c dd A nL mc ms post thr pc lo (.long x :: rest) ad w N cells slots := by
  subst hpc
  exact fun H locs ls hL hP hD hS => lv_lstore_n C.1 C.2.1 hdg rfl (bH.all hL) hn rfl (fun ls' h' => kk H locs ls' (bH.st2 hL h' (by rfl)) hP hD hS)
theorem bv_lstore {i : Nat} {x : Int64} (pc' : Nat) (hpc : pc + 2 = pc') (C : bCx p R s m args meth c cc own nL ret hh dd A) (hdg : decode cc pc = .ok (.lstore i, 2)) (hn : i + 1 < nL)
    (kk : bV p l e R s m args below meth c dd A nL mc ms post thr pc' (bS lo i (.long x)) rest ad w N cells slots) : bV p l e R s m args below meth c dd A nL mc ms post thr pc lo (.long x :: rest) ad w N cells slots := by
  subst hpc
  exact fun H locs ls hL hP hD hS => lv_lstore C.1 C.2.1 hdg (bH.all hL) hn rfl (fun ls' h' => kk H locs ls' (bH.st2 hL h' (by rfl)) hP hD hS)
theorem bv_astore_n {k : Fin 4} {x : Nat} (pc' : Nat) (hpc : pc + 1 = pc') (C : bCx p R s m args meth c cc own nL ret hh dd A) (hdg : decode cc pc = .ok (.astore_n k, 1)) (hn : (k : Nat) < nL)
    (kk : bV p l e R s m args below meth c dd A nL mc ms post thr pc' (bU lo k (.ref x)) rest ad w N cells slots) : bV p l e R s m args below meth c dd A nL mc ms post thr pc lo (.ref x :: rest) ad w N cells slots := by
  subst hpc
  exact fun H locs ls hL hP hD hS => lv_astore_n C.1 C.2.1 hdg rfl (bH.all hL) hn rfl (fun ls' h' => kk H locs ls' (bH.st1 hL h' (by rfl)) hP hD hS)
theorem bv_astore {i : Nat} {x : Nat} (pc' : Nat) (hpc : pc + 2 = pc') (C : bCx p R s m args meth c cc own nL ret hh dd A) (hdg : decode cc pc = .ok (.astore i, 2)) (hn : i < nL)
    (kk : bV p l e R s m args below meth c dd A nL mc ms post thr pc' (bU lo i (.ref x)) rest ad w N cells slots) : bV p l e R s m args below meth c dd A nL mc ms post thr pc lo (.ref x :: rest) ad w N cells slots := by
  subst hpc
  exact fun H locs ls hL hP hD hS => lv_astore C.1 C.2.1 hdg (bH.all hL) hn rfl (fun ls' h' => kk H locs ls' (bH.st1 hL h' (by rfl)) hP hD hS)
theorem bv_iinc {i : Nat} {n : Int} {x v : Int32} (pc' : Nat) (hpc : pc + 3 = pc') (C : bCx p R s m args meth c cc own nL ret hh dd A) (hdg : decode cc pc = .ok (.iinc i n, 3)) (hl : lo i = some (.int x)) (hv : x + Int32.ofInt n = v) (hn : i < nL)
    (kk : bV p l e R s m args below meth c dd A nL mc ms post thr pc' (bU lo i (.int v)) rest ad w N cells slots) : bV p l e R s m args below meth c dd A nL mc ms post thr pc lo rest ad w N cells slots := by
  subst hpc
  intro H locs ls hL hP hD hS
  obtain ⟨k, hk⟩ := bH.find hL hl
  exact lv_iinc C.1 C.2.1 hdg (bH.all hL) hk hv hn rfl (fun ls' h' => kk H locs ls' (bH.st1 hL h' (by rfl)) hP hD hS)
end bR1
end
section
section bR2
variable {p : Program} {l : Launch} {e : Env} {R : Room} {s : State} {m : MethodId} {args : Array Value} {below : List Frame} {meth : Method} {c : Code} {dd : bD} {A : Nat → Prop} {nL mc ms : Nat} {post : Option Value → (Nat → Nat) → (Nat → va_E) → Nat → Prop} {thr : String → (Nat → Nat) → (Nat → va_E) → Nat → Prop} {pc : Nat} {lo : Nat → Option Value} {rest : List Value} {ad : Nat → Nat} {w : Nat → va_E} {N cells slots : Nat} {cc : ByteArray} {own : String} {ret : Option FieldType} {hh : List (Nat × Nat × Nat × Nat)}
variable {st : List Value}
theorem bv_wk (l' : List (Nat × Value)) (h : bAll l' lo) (k : bV p l e R s m args below meth c dd A nL mc ms post thr pc (bO l') st ad w N cells slots) : bV p l e R s m args below meth c dd A nL mc ms post thr pc lo st ad w N cells slots :=
  fun H locs ls hL hP hD hS => k H locs ls ⟨hL.1, hL.2.1, fun i v hi => hL.2.2 i v (bO_sub l' h i v hi)⟩ hP hD hS
theorem bv_topi {x : Int32} (k : ∀ y : Int32, y = x → bV p l e R s m args below meth c dd A nL mc ms post thr pc lo (.int y :: rest) ad w N cells slots) : bV p l e R s m args below meth c dd A nL mc ms post thr pc lo (.int x :: rest) ad w N cells slots := k x rfl
theorem bv_topl {x : Int64} (k : ∀ y : Int64, y = x → bV p l e R s m args below meth c dd A nL mc ms post thr pc lo (.long y :: rest) ad w N cells slots) : bV p l e R s m args below meth c dd A nL mc ms post thr pc lo (.long x :: rest) ad w N cells slots := k x rfl
theorem bv_seti {x : Int32} (y : Int32) (h : x = y) (k : bV p l e R s m args below meth c dd A nL mc ms post thr pc lo (.int y :: rest) ad w N cells slots) : bV p l e R s m args below meth c dd A nL mc ms post thr pc lo (.int x :: rest) ad w N cells slots := by rw [h]; exact k
theorem bv_w (w' : Nat → va_E) (h : ∀ k, k < N → w k = w' k) (kk : bV p l e R s m args below meth c dd A nL mc ms post thr pc lo st ad w' N cells slots) : bV p l e R s m args below meth c dd A nL mc ms post thr pc lo st ad w N cells slots := by
  have e1 : bw ad w N = bw ad w' N := List.map_congr_left (fun k hk => by rw [h k (List.mem_range.mp hk)])
  intro H locs ls hL hP hD hS
  rw [e1] at hP hD
  exact kk H locs ls hL hP hD hS
theorem bv_cs (k n : Nat) (h1 : cells ≤ k) (h2 : slots ≤ n) (kk : bV p l e R s m args below meth c dd A nL mc ms post thr pc lo st ad w N k n) : bV p l e R s m args below meth c dd A nL mc ms post thr pc lo st ad w N cells slots :=
  fun H locs ls hL hP hD hS => W.widen h1 h2 (kk H locs ls hL hP hD hS)
theorem bv_ireturn {v : Int32} (C : bCx p R s m args meth c cc own nL ret hh dd A) (hr : ret = some .int) (hdg : decode cc pc = .ok (.ireturn, 1)) (hc : cells ≤ mc) (hs : slots ≤ ms) (h : post (some (.int v)) ad w N) : bV p l e R s m args below meth c dd A nL mc ms post thr pc lo [.int v] ad w N cells slots :=
  fun H locs ls hL hP hD hS => W.widen hc hs (bWmono (fun _ => bMQ.of) (W.iret (v := v) C.1 C.2.1 (C.2.2.2.2.2.1.trans hr) (fun t ht _ => ⟨hS.F ht, ad, w, N, by rw [ht]; exact hP, hD, Or.inl ⟨_, rfl, h⟩⟩) hS.2.2 hdg C.2.2.2.2.2.2.1))
theorem bv_zreturn {v : Int32} (C : bCx p R s m args meth c cc own nL ret hh dd A) (hr : ret = some .boolean) (hv : v = 0 ∨ v = 1) (hdg : decode cc pc = .ok (.ireturn, 1)) (hc : cells ≤ mc) (hs : slots ≤ ms) (h : post (some (.int v)) ad w N) : bV p l e R s m args below meth c dd A nL mc ms post thr pc lo [.int v] ad w N cells slots :=
  fun H locs ls hL hP hD hS => W.widen hc hs (bWmono (fun _ => bMQ.of) (W.zret (v := v) (ty := .boolean) C.1 C.2.1 (C.2.2.2.2.2.1.trans hr) (by rcases hv with rfl | rfl <;> rfl) (fun t ht _ => ⟨hS.F ht, ad, w, N, by rw [ht]; exact hP, hD, Or.inl ⟨_, rfl, h⟩⟩) hS.2.2 hdg C.2.2.2.2.2.2.1))
theorem bv_return (C : bCx p R s m args meth c cc own nL ret hh dd A) (hr : ret = none) (hdg : decode cc pc = .ok (.return_, 1)) (hc : cells ≤ mc) (hs : slots ≤ ms) (h : post none ad w N) : bV p l e R s m args below meth c dd A nL mc ms post thr pc lo [] ad w N cells slots :=
  fun H locs ls hL hP hD hS => W.widen hc hs (bWmono (fun _ => bMQ.of) (W.vret C.1 C.2.1 (C.2.2.2.2.2.1.trans hr) (fun t ht _ => ⟨hS.F ht, ad, w, N, by rw [ht]; exact hP, hD, Or.inl ⟨_, rfl, h⟩⟩) hS.2.2 hdg C.2.2.2.2.2.2.1))
theorem bv_areturn {v : Value} {Cn : String} (C : bCx p R s m args meth c cc own nL ret hh dd A) (hr : ret = some (.object Cn)) (hv : v = .null ∨ ∃ a, v = .ref a) (hdg : decode cc pc = .ok (.areturn, 1)) (hc : cells ≤ mc) (hs : slots ≤ ms) (h : post (some v) ad w N) : bV p l e R s m args below meth c dd A nL mc ms post thr pc lo [v] ad w N cells slots :=
  fun H locs ls hL hP hD hS => W.widen hc hs (bWmono (fun _ => bMQ.of) (W.aret (v := v) C.1 C.2.1 (C.2.2.2.2.2.1.trans hr) (Or.inl ⟨_, rfl⟩) hv (fun t ht _ => ⟨hS.F ht, ad, w, N, by rw [ht]; exact hP, hD, Or.inl ⟨_, rfl, h⟩⟩) hS.2.2 hdg C.2.2.2.2.2.2.1))
theorem bv_get (k j pc' : Nat) (hpc : pc + 3 = pc') (C : bCx p R s m args meth c cc own nL ret hh dd A) {a ci N' : Nat} {fs : List Value} {Cn : String} {T' : u_T} {ty : Nat → FieldType} (hc : bCls ci Cn T' N' ty) (hk : k < N) (ha : ad k = a) (he : w k = .inr (ci, fs)) (hj : j < N') {index : Nat} (hlink : Cond.fieldLink own index (T' j).1 (T' j).2.1 (T' j).2.2.1 ∈ Tb) {v : Value} (hv : fs[j]? = some v) (hdg : decode cc pc = .ok (.getfield index, 3))
    (kk : bV p l e R s m args below meth c dd A nL mc ms post thr pc' lo (v :: rest) ad w N cells slots) : bV p l e R s m args below meth c dd A nL mc ms post thr pc lo (.ref a :: rest) ad w N cells slots := by
  subst hpc; subst ha
  intro H locs ls hL hP hD hS
  exact va_get C.1 C.2.1 C.2.2.2.2.1 hc.2.1 C.2.2.2.1 C.2.2.2.2.2.2.2.2.1.1 hP k (by rw [bw_at hk, he]) hc.1 j hj (C.2.2.2.2.1 _ hlink) (fun _ h => h) hv hdg (kk H locs ls hL hP hD hS)
theorem bv_getN (k j pc' : Nat) (hpc : pc + 3 = pc') (C : bCx p R s m args meth c cc own nL ret hh dd A) {a ci N' : Nat} {fs : List Value} {Cn host : String} {T' : u_T} {ty : Nat → FieldType} (hc : bCls ci Cn T' N' ty) (hk : k < N) (ha : ad k = a) (he : w k = .inr (ci, fs)) (hj : j < N') {index : Nat} (hlink : Cond.fieldLinkNest own index (T' j).1 (T' j).2.1 (T' j).2.2.1 host ∈ bNst) {v : Value} (hv : fs[j]? = some v) (hdg : decode cc pc = .ok (.getfield index, 3))
    (kk : bV p l e R s m args below meth c dd A nL mc ms post thr pc' lo (v :: rest) ad w N cells slots) : bV p l e R s m args below meth c dd A nL mc ms post thr pc lo (.ref a :: rest) ad w N cells slots := by
  subst hpc; subst ha
  intro H locs ls hL hP hD hS
  exact va_getN C.1 C.2.1 C.2.2.2.2.1 hc.2.1 C.2.2.2.1 C.2.2.2.2.2.2.2.2.1.1 hP k (by rw [bw_at hk, he]) hc.1 j hj (va_Nw.use rfl (C.2.2.2.2.2.2.2.2.1.2.1 _ hlink)) (fun _ h => h) hv hdg (kk H locs ls hL hP hD hS)
theorem bv_put (k j pc' : Nat) (hpc : pc + 3 = pc') (C : bCx p R s m args meth c cc own nL ret hh dd A) {a ci N' : Nat} {fs : List Value} {Cn : String} {T' : u_T} {ty : Nat → FieldType} (hc : bCls ci Cn T' N' ty) (hk : k < N) (ha : ad k = a) (he : w k = .inr (ci, fs)) (hj : j < N') {index : Nat} (hlink : Cond.fieldLink own index (T' j).1 (T' j).2.1 (T' j).2.2.1 ∈ Tb) (hfin : (T' j).2.2.2 = false) {v : Value} (hn : narrow (ty j) v = v) (hfit : fits (ty j) v = true) (hl : j < fs.length) (hdg : decode cc pc = .ok (.putfield index, 3))
    (kk : bV p l e R s m args below meth c dd A nL mc ms post thr pc' lo rest ad (va_up w k (.inr (ci, fs.set j v))) N cells slots) : bV p l e R s m args below meth c dd A nL mc ms post thr pc lo (v :: .ref a :: rest) ad w N cells slots := by
  subst hpc; subst ha
  intro H locs ls hL hP hD hS
  refine va_put C.1 C.2.1 C.2.2.2.2.1 hc.2.1 ty hc.2.2.1 hc.2.2.2 C.2.2.2.1 C.2.2.2.2.2.2.2.2.1.1 hP hD hS k (by rw [bw_at hk, he]) hc.1 j hj (C.2.2.2.2.1 _ hlink) (fun _ h => h) hfin (hc.2.2.1 j hj) hn hfit hl hdg (fun H1 locs1 hP1 hD1 hS1 => ?_)
  rw [bw_set hk] at hP1 hD1
  exact kk H1 locs1 ls hL hP1 hD1 hS1
theorem bv_putN (k j pc' : Nat) (hpc : pc + 3 = pc') (C : bCx p R s m args meth c cc own nL ret hh dd A) {a ci N' : Nat} {fs : List Value} {Cn host : String} {T' : u_T} {ty : Nat → FieldType} (hc : bCls ci Cn T' N' ty) (hk : k < N) (ha : ad k = a) (he : w k = .inr (ci, fs)) (hj : j < N') {index : Nat} (hlink : Cond.fieldLinkNest own index (T' j).1 (T' j).2.1 (T' j).2.2.1 host ∈ bNst) (hfin : (T' j).2.2.2 = false) {v : Value} (hn : narrow (ty j) v = v) (hfit : fits (ty j) v = true) (hl : j < fs.length) (hdg : decode cc pc = .ok (.putfield index, 3))
    (kk : bV p l e R s m args below meth c dd A nL mc ms post thr pc' lo rest ad (va_up w k (.inr (ci, fs.set j v))) N cells slots) : bV p l e R s m args below meth c dd A nL mc ms post thr pc lo (v :: .ref a :: rest) ad w N cells slots := by
  subst hpc; subst ha
  intro H locs ls hL hP hD hS
  refine va_putN C.1 C.2.1 C.2.2.2.2.1 hc.2.1 ty hc.2.2.1 hc.2.2.2 C.2.2.2.1 C.2.2.2.2.2.2.2.2.1.1 hP hD hS k (by rw [bw_at hk, he]) hc.1 j hj (va_Nw.use rfl (C.2.2.2.2.2.2.2.2.1.2.1 _ hlink)) (fun _ h => h) hfin (hc.2.2.1 j hj) hn hfit hl hdg (fun H1 locs1 hP1 hD1 hS1 => ?_)
  rw [bw_set hk] at hP1 hD1
  exact kk H1 locs1 ls hL hP1 hD1 hS1
theorem bv_putF (k j pc' : Nat) (hpc : pc + 3 = pc') (C : bCx p R s m args meth c cc own nL ret hh dd A) {a ci N' : Nat} {fs : List Value} {Cn : String} {T' : u_T} {ty : Nat → FieldType} (hc : bCls ci Cn T' N' ty) (hk : k < N) (ha : ad k = a) (he : w k = .inr (ci, fs)) (hj : j < N') {index : Nat} (hlink : Cond.fieldLink own index (T' j).1 (T' j).2.1 (T' j).2.2.1 ∈ Tb) (hfin : (T' j).2.2.2 = true) (hin : meth.name = "<init>") (hdecl : (T' j).1 = own) {v : Value} (hn : narrow (ty j) v = v) (hfit : fits (ty j) v = true) (hl : j < fs.length) (hdg : decode cc pc = .ok (.putfield index, 3))
    (kk : bV p l e R s m args below meth c dd A nL mc ms post thr pc' lo rest ad (va_up w k (.inr (ci, fs.set j v))) N cells slots) : bV p l e R s m args below meth c dd A nL mc ms post thr pc lo (v :: .ref a :: rest) ad w N cells slots := by
  subst hpc; subst ha
  intro H locs ls hL hP hD hS
  refine va_putF C.1 C.2.1 C.2.2.2.2.1 hc.2.1 ty hc.2.2.1 hc.2.2.2 C.2.2.2.1 C.2.2.2.2.2.2.2.2.1.1 hP hD hS k (by rw [bw_at hk, he]) hc.1 j hj (C.2.2.2.2.1 _ hlink) (fun _ h => h) hfin hin hdecl (hc.2.2.1 j hj) hn hfit hl hdg (fun H1 locs1 hP1 hD1 hS1 => ?_)
  rw [bw_set hk] at hP1 hD1
  exact kk H1 locs1 ls hL hP1 hD1 hS1
theorem bv_iald (k j pc' : Nat) (hpc : pc + 1 = pc') (C : bCx p R s m args meth c cc own nL ret hh dd A) {a n : Nat} {f : Nat → Int32} {i : Int32} (hk : k < N) (ha : ad k = a) (he : w k = aI dd n f) (hi : i = nI j) (hj : j < n) (hn : n < 2 ^ 31) (hdg : decode cc pc = .ok (.iaload, 1))
    (kk : bV p l e R s m args below meth c dd A nL mc ms post thr pc' lo (.int (f j) :: rest) ad w N cells slots) : bV p l e R s m args below meth c dd A nL mc ms post thr pc lo (.int i :: .ref a :: rest) ad w N cells slots := by
  subst hpc; subst ha; subst hi
  intro H locs ls hL hP hD hS
  refine va_iald C.1 C.2.1 C.2.2.2.2.2.2.2.2.1.1 hP k 0 (by rw [bw_at hk, he]) rfl (vp_in_nI hj hn) hdg ?_
  rw [nI_clamp (Nat.lt_trans hj hn)]
  exact kk H locs ls hL hP hD hS
theorem bv_iast (k j pc' : Nat) (hpc : pc + 1 = pc') (C : bCx p R s m args meth c cc own nL ret hh dd A) {a n : Nat} {f : Nat → Int32} {i x : Int32} (hk : k < N) (ha : ad k = a) (he : w k = aI dd n f) (hi : i = nI j) (hj : j < n) (hn : n < 2 ^ 31) (hdg : decode cc pc = .ok (.iastore, 1))
    (kk : bV p l e R s m args below meth c dd A nL mc ms post thr pc' lo rest ad (va_up w k (aI dd n (upd f j x))) N cells slots) : bV p l e R s m args below meth c dd A nL mc ms post thr pc lo (.int x :: .int i :: .ref a :: rest) ad w N cells slots := by
  subst hpc; subst ha; subst hi
  intro H locs ls hL hP hD hS
  refine va_iast C.1 C.2.1 C.2.2.2.2.2.2.2.2.1.1 hP hD hS k 0 (by rw [bw_at hk, he]) rfl (vp_in_nI hj hn) hdg (fun H1 locs1 hP1 hD1 hS1 => ?_)
  rw [nI_clamp (Nat.lt_trans hj hn)] at hP1 hD1
  rw [bw_set hk] at hP1 hD1
  exact kk H1 locs1 ls hL hP1 hD1 hS1
theorem bv_zald (k j pc' : Nat) (hpc : pc + 1 = pc') (C : bCx p R s m args meth c cc own nL ret hh dd A) {a n : Nat} {f : Nat → Int32} {i : Int32} (hk : k < N) (ha : ad k = a) (he : w k = aZ dd n f) (hi : i = nI j) (hj : j < n) (hn : n < 2 ^ 31) (hdg : decode cc pc = .ok (.baload, 1))
    (kk : bV p l e R s m args below meth c dd A nL mc ms post thr pc' lo (.int (f j) :: rest) ad w N cells slots) : bV p l e R s m args below meth c dd A nL mc ms post thr pc lo (.int i :: .ref a :: rest) ad w N cells slots := by
  subst hpc; subst ha; subst hi
  intro H locs ls hL hP hD hS
  refine va_zald C.1 C.2.1 C.2.2.2.2.2.2.2.2.1.1 hP k 2 (by rw [bw_at hk, he]) rfl (vp_in_nI hj hn) hdg ?_
  rw [nI_clamp (Nat.lt_trans hj hn)]
  exact kk H locs ls hL hP hD hS
theorem bv_zast (k j pc' : Nat) (hpc : pc + 1 = pc') (C : bCx p R s m args meth c cc own nL ret hh dd A) {a n : Nat} {f : Nat → Int32} {i x : Int32} (hk : k < N) (ha : ad k = a) (he : w k = aZ dd n f) (hi : i = nI j) (hj : j < n) (hn : n < 2 ^ 31) (hdg : decode cc pc = .ok (.bastore, 1))
    (kk : bV p l e R s m args below meth c dd A nL mc ms post thr pc' lo rest ad (va_up w k (aZ dd n (upd f j (vp_nar .boolean x)))) N cells slots) : bV p l e R s m args below meth c dd A nL mc ms post thr pc lo (.int x :: .int i :: .ref a :: rest) ad w N cells slots := by
  subst hpc; subst ha; subst hi
  intro H locs ls hL hP hD hS
  refine va_zast C.1 C.2.1 C.2.2.2.2.2.2.2.2.1.1 hP hD hS k 2 (by rw [bw_at hk, he]) rfl (vp_in_nI hj hn) hdg (fun H1 locs1 hP1 hD1 hS1 => ?_)
  rw [nI_clamp (Nat.lt_trans hj hn)] at hP1 hD1
  rw [bw_set hk] at hP1 hD1
  exact kk H1 locs1 ls hL hP1 hD1 hS1
theorem bv_lald (k j pc' : Nat) (hpc : pc + 1 = pc') (C : bCx p R s m args meth c cc own nL ret hh dd A) {a n : Nat} {f : Nat → Int64} {i : Int32} (hk : k < N) (ha : ad k = a) (he : w k = aL dd n f) (hi : i = nI j) (hj : j < n) (hn : n < 2 ^ 31) (hdg : decode cc pc = .ok (.laload, 1))
    (kk : bV p l e R s m args below meth c dd A nL mc ms post thr pc' lo (.long (f j) :: rest) ad w N cells slots) : bV p l e R s m args below meth c dd A nL mc ms post thr pc lo (.int i :: .ref a :: rest) ad w N cells slots := by
  subst hpc; subst ha; subst hi
  intro H locs ls hL hP hD hS
  refine va_lald C.1 C.2.1 C.2.2.2.2.2.2.2.2.1.1 hP k 1 (by rw [bw_at hk, he]) rfl (vp_in_nI hj hn) hdg ?_
  rw [nI_clamp (Nat.lt_trans hj hn)]
  exact kk H locs ls hL hP hD hS
theorem bv_last (k j pc' : Nat) (hpc : pc + 1 = pc') (C : bCx p R s m args meth c cc own nL ret hh dd A) {a n : Nat} {f : Nat → Int64} {i : Int32} {x : Int64} (hk : k < N) (ha : ad k = a) (he : w k = aL dd n f) (hi : i = nI j) (hj : j < n) (hn : n < 2 ^ 31) (hdg : decode cc pc = .ok (.lastore, 1))
    (kk : bV p l e R s m args below meth c dd A nL mc ms post thr pc' lo rest ad (va_up w k (aL dd n (vp_updL f j x))) N cells slots) : bV p l e R s m args below meth c dd A nL mc ms post thr pc lo (.long x :: .int i :: .ref a :: rest) ad w N cells slots := by
  subst hpc; subst ha; subst hi
  intro H locs ls hL hP hD hS
  refine va_last C.1 C.2.1 C.2.2.2.2.2.2.2.2.1.1 hP hD hS k 1 (by rw [bw_at hk, he]) rfl (vp_in_nI hj hn) hdg (fun H1 locs1 hP1 hD1 hS1 => ?_)
  rw [nI_clamp (Nat.lt_trans hj hn)] at hP1 hD1
  rw [bw_set hk] at hP1 hD1
  exact kk H1 locs1 ls hL hP1 hD1 hS1
theorem bv_aald (t0 k j pc' : Nat) (hpc : pc + 1 = pc') (C : bCx p R s m args meth c cc own nL ret hh dd A) {a n : Nat} {f : Nat → Option Nat} {i : Int32} {Cn : String} (ht : (bTys dd.2.1)[t0]? = some (dd.2.1 t0, .object Cn)) (hk : k < N) (ha : ad k = a) (he : w k = aR dd t0 n f) (hi : i = nI j) (hj : j < n) (hn : n < 2 ^ 31) (hdg : decode cc pc = .ok (.aaload, 1)) {b : Nat} (hf : f j = some b)
    (kk : bV p l e R s m args below meth c dd A nL mc ms post thr pc' lo (.ref b :: rest) ad w N cells slots) : bV p l e R s m args below meth c dd A nL mc ms post thr pc lo (.int i :: .ref a :: rest) ad w N cells slots := by
  subst hpc; subst ha; subst hi
  intro H locs ls hL hP hD hS
  refine va_aldq C.1 C.2.1 C.2.2.2.2.2.2.2.2.1.1 hP k t0 (by rw [bw_at hk, he]) ht (vp_in_nI hj hn) hdg ?_
  rw [nI_clamp (Nat.lt_trans hj hn), hf]
  exact kk H locs ls hL hP hD hS
theorem bv_aast (t0 k j pc' kv : Nat) (hpc : pc + 1 = pc') (C : bCx p R s m args meth c cc own nL ret hh dd A) {a n ci : Nat} {f : Nat → Option Nat} {i : Int32} {q : vw_C} {vs : List Value} {b : Nat} (ht : (bTys dd.2.1)[t0]? = some (dd.2.1 t0, .object q.1)) (hq : bCl[ci]? = some q) (hk : k < N) (ha : ad k = a) (he : w k = aR dd t0 n f) (hkv : kv < N) (hb : ad kv = b) (hev : w kv = .inr (ci, vs)) (hi : i = nI j) (hj : j < n) (hn : n < 2 ^ 31) (hdg : decode cc pc = .ok (.aastore, 1))
    (kk : bV p l e R s m args below meth c dd A nL mc ms post thr pc' lo rest ad (va_up w k (aR dd t0 n (va_up f j (some b)))) N cells slots) : bV p l e R s m args below meth c dd A nL mc ms post thr pc lo (.ref b :: .int i :: .ref a :: rest) ad w N cells slots := by
  subst hpc; subst ha; subst hi; subst hb
  intro H locs ls hL hP hD hS
  refine va_astq C.1 C.2.1 C.2.2.2.2.2.2.2.2.1.1 hP hD hS k t0 kv ci (by rw [bw_at hk, he]) ht (by rw [bw_at hkv, hev]) hq (vp_in_nI hj hn) hdg (fun H1 locs1 hP1 hD1 hS1 => ?_)
  rw [nI_clamp (Nat.lt_trans hj hn)] at hP1 hD1
  rw [bw_set hk] at hP1 hD1
  exact kk H1 locs1 ls hL hP1 hD1 hS1
theorem bv_alen (k t0 pc' : Nat) (hpc : pc + 1 = pc') (C : bCx p R s m args meth c cc own nL ret hh dd A) {a : Nat} {x : vp_A} {ty : FieldType} {v : Int32} (hk : k < N) (ha : ad k = a) (he : w k = .inl (dd.2.1 t0, x)) (ht : (bTys dd.2.1)[t0]? = some (dd.2.1 t0, ty)) (hv : nI x.1 = v) (hdg : decode cc pc = .ok (.arraylength, 1))
    (kk : bV p l e R s m args below meth c dd A nL mc ms post thr pc' lo (.int v :: rest) ad w N cells slots) : bV p l e R s m args below meth c dd A nL mc ms post thr pc lo (.ref a :: rest) ad w N cells slots := by
  subst hpc; subst ha
  intro H locs ls hL hP hD hS
  exact va_alen C.1 C.2.1 C.2.2.2.2.2.2.2.2.1.1 hP k t0 (by rw [bw_at hk, he]) ht hv hdg (kk H locs ls hL hP hD hS)
theorem bv_gets (i0 pc' : Nat) (hpc : pc + 3 = pc') (C : bCx p R s m args meth c cc own nL ret hh dd A) {Cn fn : String} {n index : Nat} (hq : (Cn, fn, i0, n) ∈ bSta) (hlink : Cond.fieldLink own index Cn fn "[I" ∈ Tb) (hdg : decode cc pc = .ok (.getstatic index, 3))
    (kk : bV p l e R s m args below meth c dd A nL mc ms post thr pc' lo (.ref (dd.2.2.1 i0) :: rest) ad w N cells slots) : bV p l e R s m args below meth c dd A nL mc ms post thr pc lo rest ad w N cells slots := by
  subst hpc
  intro H locs ls hL hP hD hS
  exact va_gets C.1 C.2.1 (C.2.2.2.2.2.2.2.2.1.2.2.1 _ hq).1 hS C.2.2.2.1 (C.2.2.2.2.1 _ hlink) (fun _ h => h) hdg (kk H locs ls hL hP hD hS)
theorem bv_ti (i0 j pc' : Nat) (hpc : pc + 1 = pc') (C : bCx p R s m args meth c cc own nL ret hh dd A) {Cn fn : String} {n : Nat} {i : Int32} (hq : (Cn, fn, i0, n) ∈ bSta) (hi : i = nI j) (hj : j < n) (hn : n < 2 ^ 31) (hdg : decode cc pc = .ok (.iaload, 1))
    (kk : bV p l e R s m args below meth c dd A nL mc ms post thr pc' lo (.int (dd.2.2.2 i0 j) :: rest) ad w N cells slots) : bV p l e R s m args below meth c dd A nL mc ms post thr pc lo (.int i :: .ref (dd.2.2.1 i0) :: rest) ad w N cells slots := by
  subst hpc; subst hi
  intro H locs ls hL hP hD hS
  exact va_ti C.1 C.2.1 (C.2.2.2.2.2.2.2.2.1.2.2.1 _ hq).2 hS (vp_in_nI hj hn) (by rw [nI_clamp (Nat.lt_trans hj hn)]) hdg (kk H locs ls hL hP hD hS)
theorem bv_new (pc' : Nat) (hpc : pc + 3 = pc') (C : bCx p R s m args meth c cc own nL ret hh dd A) {ci N' index : Nat} {Cn : String} {T' : u_T} {ty : Nat → FieldType} {fs : List Value} (hc : bCls ci Cn T' N' ty) (hcl : Cond.classLink own index Cn ∈ Tb) (hin : Cond.instantiable Cn N' ∈ Tb) (hini : Cond.initialized Cn ∈ Tb) (hfs : ∀ j, j < N' → defaultValue (ty j) = vp_V fs j) (hce : cells + 1 ≤ R.cells) (hsl : slots + N' ≤ R.slots) (hdg : decode cc pc = .ok (.new index, 3))
    (kk : ∀ ad' : Nat → Nat, (∀ i, i < N → ad' i = ad i) → bV p l e R s m args below meth c dd A nL mc ms post thr pc' lo (.ref (ad' N) :: rest) ad' (va_up w N (.inr (ci, fs))) (N + 1) (cells + 1) (slots + N')) : bV p l e R s m args below meth c dd A nL mc ms post thr pc lo rest ad w N cells slots := by
  subst hpc
  intro H locs ls hL hP hD hS
  refine va_new C.1 C.2.1 C.2.2.2.2.1 hc.2.1 ty hc.2.2.1 C.2.2.2.1 (C.2.2.2.2.1 _ hcl) (C.2.2.2.2.1 _ hin) (C.2.2.2.2.1 _ hini) C.2.2.2.2.2.2.2.2.1.1 hP hD hS C.2.2.2.2.2.2.2.1 hc.1 hfs hce hsl hdg (fun q H1 hP1 hD1 hS1 => ?_)
  rw [bw_push] at hP1 hD1
  have h := kk (va_up ad N q) (fun i hi => va_up_ne _ _ (Nat.ne_of_lt hi)) H1 locs ls hL hP1 hD1 hS1
  rw [va_up_self] at h
  exact h
theorem bv_newa (t0 n pc' : Nat) (hpc : pc + 2 = pc') (C : bCx p R s m args meth c cc own nL ret hh dd A) {atype : ArrayType} {ty : FieldType} {a0 : vp_A} {x : Int32} (hty : newarray.typeOf atype = ty) (ht : (bTys dd.2.1)[t0]? = some (dd.2.1 t0, ty)) (hobj : ∀ Cn, ty ≠ .object Cn) (harr : Cond.arrayClass ty ∈ Tb) (ha : ∀ cA : ClassId, vp_cell cA a0 = arrV cA n (fun _ => defaultValue ty)) (hx : x = nI n) (hn : n < 2 ^ 31) (hb : n * componentBytes ty ≤ 536870912) (hce : cells + 1 ≤ R.cells) (hsl : slots + n ≤ R.slots) (hdg : decode cc pc = .ok (.newarray atype, 2))
    (kk : ∀ ad' : Nat → Nat, (∀ i, i < N → ad' i = ad i) → bV p l e R s m args below meth c dd A nL mc ms post thr pc' lo (.ref (ad' N) :: rest) ad' (va_up w N (.inl (dd.2.1 t0, a0))) (N + 1) (cells + 1) (slots + n)) : bV p l e R s m args below meth c dd A nL mc ms post thr pc lo (.int x :: rest) ad w N cells slots := by
  subst hpc; subst hx
  intro H locs ls hL hP hD hS
  refine va_newa C.1 C.2.1 (by rw [hty]; exact C.2.2.2.2.1 _ harr) hty C.2.2.2.2.2.2.2.2.1.1 hP hD hS C.2.2.2.2.2.2.2.1 ha (nI_pos hn) (nI_clamp hn) hb hce hsl hdg (fun q cA H1 hK1 hP1 hD1 hS1 => ?_)
  have e1 : cA = dd.2.1 t0 := by
    have h1 := (hK1.2 (bTys dd.2.1).length (cA, ty) (by simp)).2
    have h2 := (C.2.2.2.2.2.2.2.2.1.1.2 t0 _ ht).2
    cases ty <;> first | (exfalso; exact hobj _ rfl) | (unfold va_RA at h1 h2; exact Option.some.inj (h1.symm.trans h2))
  rw [bw_push, e1] at hP1 hD1
  have h := kk (va_up ad N q) (fun i hi => va_up_ne _ _ (Nat.ne_of_lt hi)) H1 locs ls hL hP1 hD1 hS1
  rw [va_up_self] at h
  exact h
theorem bv_newq (t0 n pc' : Nat) (hpc : pc + 3 = pc') (C : bCx p R s m args meth c cc own nL ret hh dd A) {index : Nat} {Cn : String} {x : Int32} (ht : (bTys dd.2.1)[t0]? = some (dd.2.1 t0, .object Cn)) (hcl : Cond.classLink own index Cn ∈ Tb) (hov : Cn ∈ bAov) (hx : x = nI n) (hn : n < 2 ^ 31) (hb : n * 4 ≤ 536870912) (hce : cells + 1 ≤ R.cells) (hsl : slots + n ≤ R.slots) (hdg : decode cc pc = .ok (.anewarray index, 3))
    (kk : ∀ ad' : Nat → Nat, (∀ i, i < N → ad' i = ad i) → bV p l e R s m args below meth c dd A nL mc ms post thr pc' lo (.ref (ad' N) :: rest) ad' (va_up w N (aR dd t0 n (fun _ => none))) (N + 1) (cells + 1) (slots + n)) : bV p l e R s m args below meth c dd A nL mc ms post thr pc lo (.int x :: rest) ad w N cells slots := by
  subst hpc; subst hx
  intro H locs ls hL hP hD hS
  refine va_newq C.1 C.2.1 C.2.2.2.1 (C.2.2.2.2.1 _ hcl) (C.2.2.2.2.2.2.2.2.1.2.2.2.2.2.2 _ hov) C.2.2.2.2.2.2.2.2.1.1 hP hD hS C.2.2.2.2.2.2.2.1 (nI_pos hn) (nI_clamp hn) hb hce hsl hdg (fun q cA H1 hK1 hP1 hD1 hS1 => ?_)
  have e1 : cA = dd.2.1 t0 := by
    obtain ⟨_, _, _, _, _, h1⟩ := (hK1.2 (bTys dd.2.1).length (cA, .object Cn) (by simp)).2
    obtain ⟨_, _, _, _, _, h2⟩ := (C.2.2.2.2.2.2.2.2.1.1.2 t0 _ ht).2
    exact Option.some.inj (h1.symm.trans h2)
  rw [bw_push, e1] at hP1 hD1
  have h := kk (va_up ad N q) (fun i hi => va_up_ne _ _ (Nat.ne_of_lt hi)) H1 locs ls hL hP1 hD1 hS1
  rw [va_up_self] at h
  exact h
end bR2
end
section
section bR3
variable {p : Program} {l : Launch} {e : Env} {R : Room} {s : State} {m : MethodId} {args : Array Value} {below : List Frame} {meth : Method} {c : Code} {dd : bD} {A : Nat → Prop} {nL mc ms : Nat} {post : Option Value → (Nat → Nat) → (Nat → va_E) → Nat → Prop} {thr : String → (Nat → Nat) → (Nat → va_E) → Nat → Prop} {pc : Nat} {lo : Nat → Option Value} {rest : List Value} {ad : Nat → Nat} {w : Nat → va_E} {N cells slots : Nat} {cc : ByteArray} {own : String} {ret : Option FieldType} {hh : List (Nat × Nat × Nat × Nat)}
theorem bs_S (C : bCx p R s m args meth c cc own nL ret hh dd A) {index maxL : Nat} {y : MethodName} {av st rest : List Value} (his : bIs y maxL) (hlink : Cond.methodLink own index y ∈ Tb) (hstat : Cond.static y ∈ Tb) (hini : Cond.initialized y.cls ∈ Tb) (hy : y.cls ≠ "java/lang/invoke/MethodHandle" ∧ y.cls ≠ "java/lang/invoke/VarHandle") (hn : (parseMethodDescriptor y.desc).map (fun d => d.parameters.length) = some av.length) (hst : st = av.reverse ++ rest) (hdg : decode cc pc = .ok (.invokestatic index, 3))
    (H : Heap) (locs : List Loc) (ls : Array Slot) : bSite p l e R s m args below meth c H locs cells slots (F0 m pc ls st) rest y av.toArray := by
  intro T hT X
  obtain ⟨mk, methM, cM, hnamed, hmethM, -, -, hsig⟩ := his.spec C.2.2.2.2.1
  have hstatic : methM.isStatic = true := Cond.static_spec hnamed hmethM (C.2.2.2.2.1 _ hstat)
  obtain ⟨kP, hkP, -⟩ := className_of_methodNamed hnamed
  have hinitP : kP.init = .initialized := Cond.initialized_spec (findClass_of_methodNamed hnamed) hkP (C.2.2.2.2.1 _ hini)
  rw [hsig] at hn
  obtain ⟨vm₁, X₁, hstep₁⟩ := X.invokestatic C.1 C.2.2.2.1 (C.2.2.2.2.1 _ hlink) hnamed hmethM hstatic hkP hinitP hy (g := F0 m pc ls st) rfl (argsL := av) (rest := rest) (Option.some.inj hn).symm hst (by rw [C.2.1]; exact hdg)
  exact ⟨mk, vm₁, X₁, hnamed, hstep₁⟩
theorem bs_SN (C : bCx p R s m args meth c cc own nL ret hh dd A) {index maxL : Nat} {y : MethodName} {host : String} {av st rest : List Value} (his : bIs y maxL) (hlink : Cond.methodLinkNest own index y host ∈ bNst) (hstat : Cond.static y ∈ Tb) (hini : Cond.initialized y.cls ∈ Tb) (hy : y.cls ≠ "java/lang/invoke/MethodHandle" ∧ y.cls ≠ "java/lang/invoke/VarHandle") (hn : (parseMethodDescriptor y.desc).map (fun d => d.parameters.length) = some av.length) (hst : st = av.reverse ++ rest) (hdg : decode cc pc = .ok (.invokestatic index, 3))
    (H : Heap) (locs : List Loc) (ls : Array Slot) : bSite p l e R s m args below meth c H locs cells slots (F0 m pc ls st) rest y av.toArray := by
  intro T hT X
  obtain ⟨mk, methM, cM, hnamed, hmethM, -, -, hsig⟩ := his.spec C.2.2.2.2.1
  have hstatic : methM.isStatic = true := Cond.static_spec hnamed hmethM (C.2.2.2.2.1 _ hstat)
  obtain ⟨kP, hkP, -⟩ := className_of_methodNamed hnamed
  have hinitP : kP.init = .initialized := Cond.initialized_spec (findClass_of_methodNamed hnamed) hkP (C.2.2.2.2.1 _ hini)
  rw [hsig] at hn
  obtain ⟨vm₁, X₁, hstep₁⟩ := X.invokestaticNest C.1 C.2.2.2.1 (va_Nw.use rfl (C.2.2.2.2.2.2.2.2.1.2.1 _ hlink)) hnamed hmethM hstatic hkP hinitP hy (g := F0 m pc ls st) rfl (argsL := av) (rest := rest) (Option.some.inj hn).symm hst (by rw [C.2.1]; exact hdg)
  exact ⟨mk, vm₁, X₁, hnamed, hstep₁⟩
theorem bs_V (k : Nat) (C : bCx p R s m args meth c cc own nL ret hh dd A) {index maxL a ci : Nat} {y : MethodName} {fs : List Value} {q : vw_C} {av st rest : List Value} (his : bIs y maxL) (hlink : Cond.methodLink own index y ∈ Tb) (hinst : Cond.instanceMethod y ∈ Tb) (hsel : Cond.selects q.1 y y ∈ Tb) (hk : k < N) (ha : ad k = a) (he : w k = .inr (ci, fs)) (hc : bCl[ci]? = some q) (hy : y.cls ≠ "java/lang/invoke/MethodHandle" ∧ y.cls ≠ "java/lang/invoke/VarHandle") (hn : (parseMethodDescriptor y.desc).map (fun d => d.parameters.length) = some av.length) (hst : st = av.reverse ++ .ref a :: rest) (hdg : decode cc pc = .ok (.invokevirtual index, 3))
    (H : Heap) (locs : List Loc) (ls : Array Slot) (hP : va_P dd.1 bCl (bw ad w N) H) : bSite p l e R s m args below meth c H locs cells slots (F0 m pc ls st) rest y (.ref a :: av).toArray := by
  intro T hT X
  subst ha
  obtain ⟨cellB, hcell, hobj, hcls⟩ := va_recv C.2.2.2.2.2.2.2.2.1.1 hP hc (show (bw ad w N)[k]? = some (ad k, .inr (ci, fs)) by rw [bw_at hk, he])
  obtain ⟨mk, methM, hnamed, hmethM, hstM, habM⟩ := Cond.instanceMethod_spec (C.2.2.2.2.1 _ hinst)
  obtain ⟨mk', methM', cM, hnamed', hmethM', -, -, hsig⟩ := his.spec C.2.2.2.2.1
  cases hnamed.symm.trans hnamed'
  cases hmethM.symm.trans hmethM'
  obtain ⟨c2, r2, m2, q1, q2, q3, q4, kP, hkP, hkPi⟩ := Cond.selects_spec (C.2.2.2.2.1 _ hsel)
  cases hcls.symm.trans q1
  cases (State.methodFound?_of_named hnamed hy).symm.trans q2
  cases hnamed.symm.trans q3
  have hselP : selectMethod e.platform s.vm cellB.cls mk = .method mk := by rw [Launch.admits_selectMethod X.admits]; exact q4
  rw [hsig] at hn
  obtain ⟨vm₁, X₁, hstep₁⟩ := X.invokevirtual C.1 C.2.2.2.1 (C.2.2.2.2.1 _ hlink) hnamed hmethM hstM hkP hkPi hy (a := ad k) (cell := cellB) (by rw [hT]; exact hcell)
    (fun z h => by rw [h] at hobj; cases hobj) hselP hmethM habM hkP hkPi (g := F0 m pc ls st) rfl (argsL := av) (rest := rest) (Option.some.inj hn).symm hst (by rw [C.2.1]; exact hdg)
  exact ⟨mk, vm₁, X₁, hnamed, hstep₁⟩
theorem bs_VN (k : Nat) (C : bCx p R s m args meth c cc own nL ret hh dd A) {index maxL a ci : Nat} {y : MethodName} {host : String} {fs : List Value} {q : vw_C} {av st rest : List Value} (his : bIs y maxL) (hlink : Cond.methodLinkNest own index y host ∈ bNst) (hinst : Cond.instanceMethod y ∈ Tb) (hsel : Cond.selects q.1 y y ∈ Tb) (hk : k < N) (ha : ad k = a) (he : w k = .inr (ci, fs)) (hc : bCl[ci]? = some q) (hy : y.cls ≠ "java/lang/invoke/MethodHandle" ∧ y.cls ≠ "java/lang/invoke/VarHandle") (hn : (parseMethodDescriptor y.desc).map (fun d => d.parameters.length) = some av.length) (hst : st = av.reverse ++ .ref a :: rest) (hdg : decode cc pc = .ok (.invokevirtual index, 3))
    (H : Heap) (locs : List Loc) (ls : Array Slot) (hP : va_P dd.1 bCl (bw ad w N) H) : bSite p l e R s m args below meth c H locs cells slots (F0 m pc ls st) rest y (.ref a :: av).toArray := by
  intro T hT X
  subst ha
  obtain ⟨cellB, hcell, hobj, hcls⟩ := va_recv C.2.2.2.2.2.2.2.2.1.1 hP hc (show (bw ad w N)[k]? = some (ad k, .inr (ci, fs)) by rw [bw_at hk, he])
  obtain ⟨mk, methM, hnamed, hmethM, hstM, habM⟩ := Cond.instanceMethod_spec (C.2.2.2.2.1 _ hinst)
  obtain ⟨mk', methM', cM, hnamed', hmethM', -, -, hsig⟩ := his.spec C.2.2.2.2.1
  cases hnamed.symm.trans hnamed'
  cases hmethM.symm.trans hmethM'
  obtain ⟨c2, r2, m2, q1, q2, q3, q4, kP, hkP, hkPi⟩ := Cond.selects_spec (C.2.2.2.2.1 _ hsel)
  cases hcls.symm.trans q1
  cases (State.methodFound?_of_named hnamed hy).symm.trans q2
  cases hnamed.symm.trans q3
  have hselP : selectMethod e.platform s.vm cellB.cls mk = .method mk := by rw [Launch.admits_selectMethod X.admits]; exact q4
  rw [hsig] at hn
  obtain ⟨vm₁, X₁, hstep₁⟩ := X.invokevirtualNest C.1 C.2.2.2.1 (va_Nw.use rfl (C.2.2.2.2.2.2.2.2.1.2.1 _ hlink)) hnamed hmethM hstM hkP hkPi hy (a := ad k) (cell := cellB) (by rw [hT]; exact hcell)
    (fun z h => by rw [h] at hobj; cases hobj) hselP hmethM habM hkP hkPi (g := F0 m pc ls st) rfl (argsL := av) (rest := rest) (Option.some.inj hn).symm hst (by rw [C.2.1]; exact hdg)
  exact ⟨mk, vm₁, X₁, hnamed, hstep₁⟩
theorem bs_I (C : bCx p R s m args meth c cc own nL ret hh dd A) {index maxL a : Nat} {bytes : ByteArray} {y : MethodName} {av st rest : List Value} (hcd : Cond.code y bytes maxL none ∈ Tb) (hlink : Cond.methodLink own index y ∈ Tb) (hinst : Cond.instanceMethod y ∈ Tb) (hy1 : y.name = "<init>") (hy : y.cls ≠ "java/lang/invoke/MethodHandle" ∧ y.cls ≠ "java/lang/invoke/VarHandle") (hn : (parseMethodDescriptor y.desc).map (fun d => d.parameters.length) = some av.length) (hst : st = av.reverse ++ .ref a :: rest) (hdg : decode cc pc = .ok (.invokespecial index, 3))
    (H : Heap) (locs : List Loc) (ls : Array Slot) : bSite p l e R s m args below meth c H locs cells slots (F0 m pc ls st) rest y (.ref a :: av).toArray := by
  intro T hT X
  have hpl : e.platform.magicAccessors = ({} : Platform).magicAccessors := by rw [X.admits.platform]
  obtain ⟨mk, methM, cM, kP, vm₁, hnamed, -, -, -, -, -, -, -, hW₁, hstep₁⟩ := Steps.initColdArgs (e := e) X.here C.1 X.warmed hpl C.2.2.2.1 hy1 hy (C.2.2.2.2.1 _ hlink) (C.2.2.2.2.1 _ hinst) (C.2.2.2.2.1 _ hcd) (f := F0 m pc ls st) rfl (argsL := av) (rest := rest) (fun sig h => by rw [h] at hn; exact (Option.some.inj hn).symm) hst (by rw [C.2.1]; exact hdg)
  exact ⟨mk, vm₁, X.noted hW₁, hnamed, hstep₁⟩
theorem bs_IN (C : bCx p R s m args meth c cc own nL ret hh dd A) {index maxL a : Nat} {bytes : ByteArray} {y : MethodName} {host : String} {av st rest : List Value} (hcd : Cond.code y bytes maxL none ∈ Tb) (hlink : Cond.methodLinkNest own index y host ∈ bNst) (hinst : Cond.instanceMethod y ∈ Tb) (hy1 : y.name = "<init>") (hy : y.cls ≠ "java/lang/invoke/MethodHandle" ∧ y.cls ≠ "java/lang/invoke/VarHandle") (hn : (parseMethodDescriptor y.desc).map (fun d => d.parameters.length) = some av.length) (hst : st = av.reverse ++ .ref a :: rest) (hdg : decode cc pc = .ok (.invokespecial index, 3))
    (H : Heap) (locs : List Loc) (ls : Array Slot) : bSite p l e R s m args below meth c H locs cells slots (F0 m pc ls st) rest y (.ref a :: av).toArray := by
  intro T hT X
  have hpl : e.platform.magicAccessors = ({} : Platform).magicAccessors := by rw [X.admits.platform]
  obtain ⟨mk, methM, cM, kP, vm₁, hnamed, -, -, -, -, -, -, -, hW₁, hstep₁⟩ := Steps.initColdArgsNest (e := e) X.here C.1 X.warmed hpl C.2.2.2.1 hy1 hy (va_Nw.use rfl (C.2.2.2.2.2.2.2.2.1.2.1 _ hlink)) (C.2.2.2.2.1 _ hinst) (C.2.2.2.2.1 _ hcd) (f := F0 m pc ls st) rfl (argsL := av) (rest := rest) (fun sig h => by rw [h] at hn; exact (Option.some.inj hn).symm) hst (by rw [C.2.1]; exact hdg)
  exact ⟨mk, vm₁, X.noted hW₁, hnamed, hstep₁⟩
/-- a call by contract -/
theorem bv_call {y : MethodName} {maxL fr lc mc' ms' : Nat} {av st rest : List Value} {ig : Instr} {post' : Option Value → (Nat → Nat) → (Nat → va_E) → Nat → Prop} {thr' : String → (Nat → Nat) → (Nat → va_E) → Nat → Prop} (pc' : Nat) (hpc : pc + 3 = pc') (C : bCx p R s m args meth c cc own nL ret hh dd A) (hdg : decode cc pc = .ok (ig, 3)) (hK : bK l dd y fr lc mc' ms' av ad w N post' thr') (his : bIs y maxL) (hini : Cond.initialized y.cls ∈ Tb)
    (site : ∀ (H : Heap) (locs : List Loc) (ls : Array Slot), va_P dd.1 bCl (bw ad w N) H → bSite p l e R s m args below meth c H locs cells slots (F0 m pc ls st) rest y av.toArray)
    (hR : fr + 1 ≤ R.frames ∧ 8 + (maxL + 11) + lc ≤ R.locals) (hce : cells + mc' ≤ R.cells) (hsl : slots + ms' ≤ R.slots) (hcat : (rest.map fun v => v.category).sum ≤ 8)
    (kr : ∀ (v : Option Value) (ad' : Nat → Nat) (w' : Nat → va_E) (N' : Nat), post' v ad' w' N' → bV p l e R s m args below meth c dd A nL mc ms post thr pc' lo (v.toList ++ rest) ad' w' N' (cells + mc') (slots + ms'))
    (kt : ∀ (x : Nat) (Cn : String) (ad' : Nat → Nat) (w' : Nat → va_E) (N' : Nat), thr' Cn ad' w' N' → bT p l e R s m args below meth c dd A nL mc ms post thr pc lo rest x Cn ad' w' N' (cells + mc') (slots + ms')) : bV p l e R s m args below meth c dd A nL mc ms post thr pc lo st ad w N cells slots := by
  subst hpc
  intro H locs ls hL hP hD hS T hT X
  obtain ⟨mk, vm₁, X₁, hnamed, hstep⟩ := site H locs ls hP T hT X
  obtain ⟨mk', methY, cY, hn', hmY, hcY, hlY, -⟩ := his.spec C.2.2.2.2.1
  cases hnamed.symm.trans hn'
  obtain ⟨kY, hkY, -⟩ := className_of_methodNamed hnamed
  have hiY : kY.init = .initialized := Cond.initialized_spec (findClass_of_methodNamed hnamed) hkY (C.2.2.2.2.1 _ hini)
  have hW₁ := X₁.warmed
  have hal := hW₁.alike
  obtain ⟨kY', hkY', hkeq, -⟩ := hW₁.2.2 _ _ hkY
  have hiY' : kY'.init = .initialized := by rw [hkeq]; exact hiY
  have hfree : ∀ q, va_A (bw ad w N) H.size q → A q := by
    rintro q (⟨k, x, hk⟩ | hq)
    · exact hD.2 k _ hk
    · exact C.2.2.2.2.2.2.2.1 q (Nat.le_trans hS.1 hq)
  obtain ⟨o, t, T', L, X', hL', e1, e2, ⟨hF, ad', w', N', hP', hD', hend⟩, hret, hthr⟩ := bCore X₁ (hK H.size) (g := { F0 m pc ls st with stack := rest }) rfl (hL.1.trans C.2.2.1.symm) (ig := ig) (len := 3) (by rw [C.2.1]; exact hdg) (lv_room (m := m) (pc := pc) (ls := ls) (rest := rest) hcat) (mk := mk) (X₁.named hnamed)
    (by rw [hal.method?]; exact hmY) hcY hlY hkY' hiY' hR.1 hR.2 hce hsl (a := av.toArray) (atoms_intro fun w0 hw0 => bGood.at (bTb_good w0 hw0) hW₁ (C.2.2.2.2.1 _ hw0))
    ⟨rfl, by rw [← hT]; rfl, by rw [← hT] at hP; exact hP, hD.weaken (fun _ _ _ _ => trivial), C.2.2.2.2.2.2.2.2.1.to (U := ((T.setVm vm₁).calling _ mk av.toArray)) hW₁ (fun a ha hna => by rw [← hT] at hS; exact hS.2.1 a ha hna) (by rw [hT] at *; exact hfree)⟩
  have hheap : ((T.setVm vm₁).calling { F0 m pc ls st with stack := rest } mk av.toArray).heap = H := hT
  have hF1 : H.size ≤ t.heap.size := by have := hF.1; rw [hheap] at this; exact this
  have hF2 : ∀ q : Nat, q < H.size → ¬ va_A (bw ad w N) H.size q → t.heap[q]? = H[q]? := by have := hF.2; rw [hheap] at this; exact this
  have hS' : va_S A s.heap t.heap (locs ++ L) := by
    refine ⟨Nat.le_trans hS.1 hF1, fun q h1 h2 => ?_, fun q hq => ?_⟩
    · rw [hF2 q (Nat.lt_of_lt_of_le h1 hS.1) (fun h3 => h2 (hfree q h3))]
      exact hS.2.1 q h1 h2
    · rcases List.mem_append.mp hq with h1 | h1
      · exact hS.2.2 q h1
      · exact hfree _ (hL' q h1)
  have hD'' : va_D A (bw ad' w' N') := hD'.weaken (fun _ _ _ h => hfree _ h)
  rcases hend with ⟨v, rfl, hpost⟩ | ⟨x, Cn, cell, rfl, hx, hvm, hfc, hxs, hth⟩
  · obtain ⟨t2, st2, hQ⟩ := kr v ad' w' N' hpost t.heap (locs ++ L) ls hL hP' hD'' hS' T' e1 X'
    exact ⟨t2, hstep _ (fun acts => by rw [doInvoke_state]; exact (hret v rfl).trans st2), hQ⟩
  · have hfc' : s.vm.findClass Cn = some cell.cls := by
      rw [← e2] at hfc
      rw [X'.warmed.alike.findClass] at hfc
      exact hfc
    have hxs' : s.heap.size ≤ x := by
      rw [hheap] at hxs
      exact Nat.le_trans hS.1 hxs
    obtain ⟨t2, st2, hQ⟩ := kt x Cn ad' w' N' hth t.heap (locs ++ L) ls cell hL hP' hD'' hS' hx hvm hfc' hxs' T' e1 X'
    exact ⟨t2, hstep _ (fun acts => by rw [doInvoke_state]; exact (hthr x rfl).trans st2), hQ⟩
/-- the exception leaves the method -/
theorem bt_out {x : Nat} {Cn : String} (C : bCx p R s m args meth c cc own nL ret hh dd A) (hout : (tableOf hh).all (fun y => !covers y pc) = true) (hc : cells ≤ mc) (hs : slots ≤ ms) (h : thr Cn ad w N) : bT p l e R s m args below meth c dd A nL mc ms post thr pc lo rest x Cn ad w N cells slots := by
  intro H locs ls cell hL hP hD hS hx hvm hfc hxs T hT X
  have X2 := stand_widen X hc hs
  obtain ⟨h1, h2, h3, h4, h5⟩ := X2.leaveThrown x (g := F0 m pc ls rest) rfl rfl rfl (outside_of_table C.2.2.2.2.2.2.2.2.2 hout) C.2.2.2.2.2.2.1
  have hh2 : (T.setFrames (.throwing x :: below)).heap = H := hT
  refine ⟨_, h1, .threw x, h2, h3, ⟨hS.F hh2, ad, w, N, by rw [hh2]; exact hP, hD, Or.inr ⟨x, Cn, cell, rfl, by rw [hh2]; exact hx, hvm, ?_, hxs, h⟩⟩, locs, ⟨h4, h5⟩, hS.2.2⟩
  show T.vm.findClass Cn = some cell.cls
  rw [X.warmed.alike.findClass]
  exact hfc
theorem bK.start {y : MethodName} {fr lc mc ms maxL : Nat} {av : List Value} {ad : Nat → Nat} {w : Nat → va_E} {N : Nat} {post : Option Value → (Nat → Nat) → (Nat → va_E) → Nat → Prop} {thr : String → (Nat → Nat) → (Nat → va_E) → Nat → Prop} {cc : ByteArray} {ret : Option FieldType} (lo0 : List (Nat × Value)) (hy : plainName y.cls = true) (hw : Cond.code y cc maxL ret ∈ Tb) (hlen : (lg_sl av).length ≤ maxL) (hlo : lv_args 0 av = lo0)
    (body : ∀ (p : Program) (e : Env) (s : State) (m : MethodId) (args : Array Value) (below : List Frame) (meth : Method) (c : Code) (A : Nat → Prop), meth.name = y.name → bCx p { frames := fr, cells := mc, slots := ms, locals := lc } s m args meth c cc y.cls maxL ret [] dd A →
      bV p l e { frames := fr, cells := mc, slots := ms, locals := lc } s m args below meth c dd A maxL mc ms post thr 0 (bO lo0) [] ad w N 0 0) : bK l dd y fr lc mc ms av ad w N post thr := by
  intro sz
  refine bMet.ofW hy hw (fun p e s m args below meth c s₁ B hml htab hPc => ?_)
  obtain ⟨rfl, hsz, hP, hD0, hG⟩ := hPc
  subst hsz
  rw [lg_entry_eq]
  have hE := bH.entry av hlen
  rw [hlo] at hE
  exact body p e s m _ below meth c (va_A (bw ad w N) s.heap.size) (name_of_methodNamed B.named B.method).1 ⟨B.exec, B.bytes, hml, findClass_of_methodNamed B.named, atoms_spec (ws := Tb) B.pre, B.returns, B.notSynchronized, fun q h => Or.inr h, hG, htab⟩ s.heap [] _ hE hP hD0.self va_S.rf
theorem bK.startH {y : MethodName} {fr lc mc ms maxL : Nat} {av : List Value} {ad : Nat → Nat} {w : Nat → va_E} {N : Nat} {post : Option Value → (Nat → Nat) → (Nat → va_E) → Nat → Prop} {thr : String → (Nat → Nat) → (Nat → va_E) → Nat → Prop} {cc : ByteArray} {ret : Option FieldType} {hh : List (Nat × Nat × Nat × Nat)} (lo0 : List (Nat × Value)) (hy : plainName y.cls = true) (hw : Cond.codeWith y cc maxL ret hh ∈ Tb) (hlen : (lg_sl av).length ≤ maxL) (hlo : lv_args 0 av = lo0)
    (body : ∀ (p : Program) (e : Env) (s : State) (m : MethodId) (args : Array Value) (below : List Frame) (meth : Method) (c : Code) (A : Nat → Prop), meth.name = y.name → bCx p { frames := fr, cells := mc, slots := ms, locals := lc } s m args meth c cc y.cls maxL ret hh dd A →
      bV p l e { frames := fr, cells := mc, slots := ms, locals := lc } s m args below meth c dd A maxL mc ms post thr 0 (bO lo0) [] ad w N 0 0) : bK l dd y fr lc mc ms av ad w N post thr := by
  intro sz
  refine bMet.ofWH hy hw (fun p e s m args below meth c s₁ B hml htab hPc => ?_)
  obtain ⟨rfl, hsz, hP, hD0, hG⟩ := hPc
  subst hsz
  rw [lg_entry_eq]
  have hE := bH.entry av hlen
  rw [hlo] at hE
  exact body p e s m _ below meth c (va_A (bw ad w N) s.heap.size) (name_of_methodNamed B.named B.method).1 ⟨B.exec, B.bytes, hml, findClass_of_methodNamed B.named, atoms_spec (ws := Tb) B.pre, B.returns, B.notSynchronized, fun q h => Or.inr h, hG, htab⟩ s.heap [] _ hE hP hD0.self va_S.rf
end bR3
end
section
def bOff (l : Launch) : Prop := ∀ e, l.admits e → e.platform.stackTraces = false
theorem bSame0 {s t : State} {k n : Nat} (h : s.sameButNew t [] k n) {q : Nat} (hq : q < s.heap.size) : t.heap[q]? = s.heap[q]? := by
  obtain ⟨c', h1, h2, h3, h4⟩ := h.2.2.2.2.2 q s.heap[q] (Array.getElem?_eq_getElem hq)
  have e1 : c'.slots = s.heap[q].slots := Array.ext_getElem? (fun i => h4 i (by simp))
  rw [h1, Array.getElem?_eq_getElem hq]
  rw [h2, e1]
section bR4
variable {p : Program} {l : Launch} {e : Env} {R : Room} {s : State} {m : MethodId} {args : Array Value} {below : List Frame} {meth : Method} {c : Code} {dd : bD} {A : Nat → Prop} {nL mc ms : Nat} {post : Option Value → (Nat → Nat) → (Nat → va_E) → Nat → Prop} {thr : String → (Nat → Nat) → (Nat → va_E) → Nat → Prop} {pc : Nat} {lo : Nat → Option Value} {rest : List Value} {ad : Nat → Nat} {w : Nat → va_E} {N cells slots : Nat} {cc : ByteArray} {own : String} {ret : Option FieldType} {hh : List (Nat × Nat × Nat × Nat)}
/-- new X("text") is made and thrown; no row of the table covers the athrow -/
theorem bv_throw {i1 i2 i3 : Nat} {cls tx : String} {names : List String} (hlt : bOff l) (C : bCx p R s m args meth c cc own nL ret hh dd A) (hd0 : decode cc pc = .ok (.new i1, 3)) (hd1 : decode cc (pc + 3) = .ok (.dup, 1)) (hd2 : decode cc (pc + 4) = .ok (.ldc i2, 2)) (hd3 : decode cc (pc + 6) = .ok (.invokespecial i3, 3)) (hd4 : decode cc (pc + 9) = .ok (.athrow, 1))
    (hcl : Cond.classLink own i1 cls ∈ Tb) (hins : Cond.instantiable cls 6 ∈ Tb) (hini : Cond.initialized cls ∈ Tb) (hstr : (own, i2, tx) ∈ bStr) (hfit : Bundle.fit cls = true) (hnames : ∀ n ∈ names, Bundle.fit n = true)
    (hat : ∀ a ∈ Bundle.ownAtoms own i3 cls names, a ∈ Tb ∨ a ∈ bNst ∨ ∃ q ∈ bZq, a = .isRef (.static q.1 q.2.1 q.2.2) ∨ a = .laysStatic q.1 q.2.1 q.2.2) (hout : (tableOf hh).all (fun y => !covers y (pc + 9)) = true)
    (hRf : names.length + 3 < R.frames) (hRl : (rest.map fun v => v.category).sum + (13 * (names.length + 1) + 43) ≤ R.locals) (hc : cells + 1 ≤ mc) (hs : slots + 6 ≤ ms) (hcR : cells + 1 ≤ R.cells) (hsR : slots + 6 ≤ R.slots) (h : thr cls ad w N) : bV p l e R s m args below meth c dd A nL mc ms post thr pc lo rest ad w N cells slots := by
  intro H locs ls hL hP hD hS T hT X
  have X' := bRebase X (R' := { frames := R.frames, cells := 1, slots := 6, locals := R.locals }) (Nat.le_refl _) (Nat.le_refl _) hcR hsR
  have hW0 : s.WarmedH (T.setFrames (.invoking m args :: below)).vm := X.warmed
  have hts : ∀ w0 ∈ Tb, w0.before args (T.setFrames (.invoking m args :: below)) = true := fun w0 hw0 => bGood.at (bTb_good w0 hw0) hW0 (C.2.2.2.2.1 _ hw0)
  have hown : (T.setFrames (.invoking m args :: below)).vm.findClass own = some m.cls := by
    have := C.2.2.2.1
    rw [← X.warmed.alike.findClass own] at this
    exact this
  have hG : bG dd A (T.setFrames (.invoking m args :: below)) T.heap := C.2.2.2.2.2.2.2.2.1.to hW0 (fun a ha hna => by rw [hT]; exact hS.2.1 a ha hna) (fun _ h => h)
  have hwords : ∀ a ∈ Bundle.ownAtoms own i3 cls names, a.before args (T.setFrames (.invoking m args :: below)) = true := by
    intro a ha
    rcases hat a ha with h1 | h1 | ⟨q, hq, rfl | rfl⟩
    · exact hts a h1
    · exact bNst_use (bNst_only a h1) (hG.2.1 a h1)
    · exact (hG.2.2.2.2.1 q hq).isRef
    · exact (hG.2.2.2.2.1 q hq).lays
  obtain ⟨msg, hmsg⟩ := hG.2.2.2.1 _ hstr
  have key : W p l e { frames := R.frames, cells := 1, slots := 6, locals := R.locals } (T.setFrames (.invoking m args :: below)) m args below meth c T.heap [] 0 0
      (fun U => U.status = .running ∧ Ended U below (.threw T.heap.size) ∧ (T.setFrames (.invoking m args :: below)).WarmedH U.vm ∧ (T.setFrames (.invoking m args :: below)).sameButNew ({ U with vm := (T.setFrames (.invoking m args :: below)).vm } : State) [] 1 6 ∧
        ∃ ce, U.heap[T.heap.size]? = some ce ∧ Bundle.OwnCell args (T.setFrames (.invoking m args :: below)) cls T.heap.size (.ref msg) ce) (F0 m pc ls rest) := by
    refine W.newc (g := F0 m pc ls rest) C.1 C.2.1 hown (hts _ hcl) (hts _ hins) (hts _ hini) rfl hd0 (Nat.le_refl _) (Nat.le_refl _) (fun cC kC hfc hkC hord hsz => ?_)
    refine lv_dup (m := m) (ls := ls) (pc := pc + 3) (rest := rest) (va := .ref T.heap.size) C.1 C.2.1 hd1 rfl ?_
    refine va_ldcS C.1 C.2.1 hown hmsg hd2 ?_
    intro T2 hT2 X2
    have hcell : T2.heap[T.heap.size]? = some (freshCell cC kC) := by rw [hT2]; simp
    obtain ⟨U, u1, u2, u3, u4, u5, ce, u6, u7⟩ := X2.ctorThrowS C.1 (hlt e X.admits) hown hfit hnames hwords (fun x hx => by cases hx) hfc hkC hcell (Nat.le_refl _) (msg := .ref msg) rfl (g := F0 m (pc + 6) ls (.ref msg :: .ref T.heap.size :: .ref T.heap.size :: rest)) rfl (hL.1.trans C.2.2.1.symm) rfl rfl (rest := rest) rfl
      (by rw [C.2.1]; exact hd3) (by rw [C.2.1]; exact hd4) (outside_of_table C.2.2.2.2.2.2.2.2.2 hout) hRf (by rw [List.map_cons, List.sum_cons]; show 2 * 0 + (1 + (rest.map fun v => v.category).sum) + (13 * (names.length + 1) + 42) ≤ R.locals; omega) C.2.2.2.2.2.2.1
    exact ⟨U, u1, u2, u3, u4, u5, ce, u6, u7⟩
  obtain ⟨U, u1, u2, u3, u4, u5, ce, u6, u7⟩ := key T rfl X'
  have hFE := bRebase.back X u4 u5
  have hheap : ∀ q : Nat, q < H.size → U.heap[q]? = H[q]? := by
    intro q hq
    rw [← hT] at hq ⊢
    exact bSame0 u5 hq
  refine ⟨U, u1, .threw T.heap.size, u2, u3, ⟨⟨?_, ?_⟩, ad, w, N, ?_, hD, Or.inr ⟨T.heap.size, cls, ce, rfl, u6, u7.vm, ?_, ?_, h⟩⟩, locs, ⟨hFE.1, hFE.2.mono hc hs⟩, hS.2.2⟩
  · have h1 : T.heap.size ≤ U.heap.size := u5.2.1
    rw [hT] at h1
    exact Nat.le_trans hS.1 h1
  · intro q h1 h2
    rw [hheap q (Nat.lt_of_lt_of_le h1 hS.1)]
    exact hS.2.1 q h1 h2
  · refine hP.kept (fun k q hk => hheap _ ?_)
    exact (hP k q hk).lt
  · have h1 := u7.cls
    rw [← u4.alike.findClass cls] at h1
    exact h1
  · rw [hT]; exact hS.1
/-! catching -/
def bFinds (e : Env) (s : State) (f : JFrame) (a : Addr) (hd : Handler) (vm' : Vm) : Prop :=
  ∀ (Q : Handler → Pre) (E : CtlPost) (d : Bool) (acts : List Action), wp (findHandler f a) Q E e d acts s ↔ Q hd d acts (s.setVm vm')
theorem bgo_link {Q : Handler → Pre} {E : CtlPost} {e : Env} {d : Bool} {acts : List Action} {s : State} {f : JFrame} {a : Addr} {x : ExceptionTableEntry} {t : List ExceptionTableEntry} {c : ClassId} {cell : Cell} (hx : covers x f.pc = true) (h0 : x.catchType ≠ 0)
    (hl : s.vm.ClassLinks e.platform f.method.cls x.catchType c) (hcell : s.heap[a]? = some cell) (hobj : ∀ k, cell.vm ≠ .statics k) (hk : ∃ k, s.vm.classes[cell.cls]? = some k) (hc : ∃ k, s.vm.classes[c]? = some k) :
    wp (findHandler.go f a (x :: t)) Q E e d acts s ↔ if s.vm.assignable cell.cls c = true then Q (.found x.handlerPc) d acts (s.setVm (s.vm.noted f.method.cls x.catchType (.cls c))) else wp (findHandler.go f a t) Q E e d acts (s.setVm (s.vm.noted f.method.cls x.catchType (.cls c))) := by
  simp only [covers] at hx
  obtain ⟨ha, ht⟩ := (resolveClass_links e.toSetting hl).op (op := VmOp.resolveClass f.method.cls x.catchType) rfl
  have hal : s.vm.Alike (s.vm.noted f.method.cls x.catchType (.cls c)) := (Vm.Alike.refl s.vm).noted _ _ _
  obtain ⟨k1, hk1⟩ := hk
  obtain ⟨k2, hk2⟩ := hc
  obtain ⟨k1', hk1', -⟩ := hal.2.2 _ _ hk1
  obtain ⟨k2', hk2', -⟩ := hal.2.2 _ _ hk2
  have hfit := hal.assignable cell.cls c
  cases hf : s.vm.assignable cell.cls c <;> rw [hf] at hfit <;> simp [findHandler.go, hx, h0, ha, ht, hcell, hobj, hk1', hk2', hfit, VmOp.dirties, VmOp.acts]
def bCatch (e : Env) (s0 : State) (f : JFrame) (cls : ClassId) : List ExceptionTableEntry → Nat → Prop
  | [], _ => False
  | x :: t, h => (covers x f.pc = false ∧ bCatch e s0 f cls t h) ∨ (covers x f.pc = true ∧ x.catchType ≠ 0 ∧ ∃ c, s0.vm.ClassLinks e.platform f.method.cls x.catchType c ∧ ((s0.vm.assignable cls c = true ∧ x.handlerPc = h) ∨ (s0.vm.assignable cls c = false ∧ bCatch e s0 f cls t h)))
theorem bGo {e : Env} {s0 : State} {f : JFrame} {a : Addr} {cell : Cell} (hobj : ∀ k, cell.vm ≠ .statics k) (hk0 : ∃ k, s0.vm.classes[cell.cls]? = some k) : ∀ (tab : List ExceptionTableEntry) (S : State) (h : Nat), s0.WarmedH S.vm → S.heap[a]? = some cell → bCatch e s0 f cell.cls tab h →
    ∃ vm', s0.WarmedH vm' ∧ ∀ (Q : Handler → Pre) (E : CtlPost) (d : Bool) (acts : List Action), wp (findHandler.go f a tab) Q E e d acts S ↔ Q (.found h) d acts (S.setVm vm')
  | [], _, _, _, _, hC => hC.elim
  | x :: t, S, h, hW, hcell, hC => by
    rcases hC with ⟨hx, hC⟩ | ⟨hx, h0, c, hl, hC⟩
    · obtain ⟨vm', hW', hq⟩ := bGo hobj hk0 t S h hW hcell hC
      exact ⟨vm', hW', fun Q E d acts => by rw [W.findHandler_go_skip hx]; exact hq Q E d acts⟩
    · obtain ⟨k0, hk0'⟩ := hk0
      obtain ⟨k1, hk1, -⟩ := hW.alike.2.2 _ _ hk0'
      obtain ⟨dk, _, _, kt, hd, _, _, _, _, hkt, _, hop⟩ := hl.here
      obtain ⟨kt', hkt', -⟩ := hW.alike.2.2 _ _ hkt
      have hW2 : s0.WarmedH (S.vm.noted f.method.cls x.catchType (.cls c)) := hW.noted hd hop (State.rightAt_cls hl)
      have hasg := hW.alike.assignable cell.cls c
      rcases hC with ⟨hfit, rfl⟩ | ⟨hfit, hC⟩
      · refine ⟨_, hW2, fun Q E d acts => ?_⟩
        rw [bgo_link hx h0 (hW.classLinks hl) hcell hobj ⟨k1, hk1⟩ ⟨kt', hkt'⟩, hasg, hfit]
        simp
      · obtain ⟨vm', hW', hq⟩ := bGo hobj ⟨k0, hk0'⟩ t (S.setVm (S.vm.noted f.method.cls x.catchType (.cls c))) h hW2 hcell hC
        refine ⟨vm', hW', fun Q E d acts => ?_⟩
        rw [bgo_link hx h0 (hW.classLinks hl) hcell hobj ⟨k1, hk1⟩ ⟨kt', hkt'⟩, hasg, hfit]
        rw [if_neg (by simp)]
        exact hq Q E d acts
theorem bStepCatch {e : Env} {s : State} {a : Addr} {f : JFrame} {r : List Frame} {pc : Nat} {vm' : Vm} (hfind : bFinds e s f a (.found pc) vm') :
    (stepThrowing e s a (.java f :: r)).1 = (s.setVm vm').setFrames (.java { f with pc := pc, stack := [.ref a] } :: r) := by
  simp only [stepThrowing, searchFrame, vmDo]
  generalize hr : Sem.go _ e false [] s = res
  obtain ⟨as, rfl, ha⟩ := Sem.eq_ok_of hr (a := Handler.found pc) (s' := s.setVm vm') (acts' := []) (by simp [hfind _ _ _ _])
  rfl
theorem bCaught {tb : Tables} {e : Env} {s target : State} {g : JFrame} {c : Code} {below : List Frame} {a : Addr} (h : At s g.method c below) {pc : Nat} {vm' : Vm}
    (hfind : bFinds e ((s.setTop g).pushFrame (.throwing a)) g a (.found pc) vm') (hrest : Steps tb e below ((s.setVm vm').setTop { g with pc := pc, stack := [.ref a] }) target) :
    Steps tb e below ((s.setTop g).pushFrame (.throwing a)) target := by
  obtain ⟨hgo, hw⟩ := h.throwing a
  refine Steps.head hgo hw ?_
  rw [stepThread_throwing (frames_entered h.top _), bStepCatch (s := (s.setTop g).pushFrame (.throwing a)) hfind]
  obtain ⟨g₀, hg⟩ := Option.isSome_iff_exists.mp h.top
  obtain ⟨r, hr⟩ := State.topJava?_eq_some.mp hg
  have hr' : (s.setVm vm').frames = .java g₀ :: r := hr
  have e1 : ∀ (u : State) (F G : List Frame), ((u.setFrames F).setVm vm').setFrames G = (u.setVm vm').setFrames G := fun u F G => by
    have h1 : (u.setFrames F).setVm vm' = (u.setVm vm').setFrames F := rfl
    rw [h1, State.setFrames_setFrames]
  rw [State.setTop_of_frames _ hr'] at hrest
  rw [hr, List.tail_cons, State.pushFrame, e1, State.setTop_of_frames _ hr, e1]
  exact hrest
/-- the class of the exception is the one that the row names, or the row passes it -/
def bRows (own Cn : String) (pc : Nat) : List ((Nat × Nat × Nat × Nat) × String) → Nat → Prop
  | [], _ => False
  | q :: t, h => covers ⟨q.1.1, q.1.2.1, q.1.2.2.1, q.1.2.2.2⟩ pc = true ∧ q.1.2.2.2 ≠ 0 ∧ Cond.classLink own q.1.2.2.2 q.2 ∈ Tb ∧ ((q.2 = Cn ∧ q.1.2.2.1 = h) ∨ ((Cn, q.2) ∈ bNcp ∧ bRows own Cn pc t h))
/-- the exception is caught in the method -/
theorem bt_catch {x : Nat} {Cn : String} (C : bCx p R s m args meth c cc own nL ret hh dd A) (names : List String) (pcH : Nat) (hz : (hh.zip names).map Prod.fst = hh) (hr : bRows own Cn pc (hh.zip names) pcH) (k : bV p l e R s m args below meth c dd A nL mc ms post thr pcH lo [.ref x] ad w N cells slots) : bT p l e R s m args below meth c dd A nL mc ms post thr pc lo rest x Cn ad w N cells slots := by
  intro H locs ls cell hL hP hD hS hx hvm hfc hxs T hT X
  have hobj : ∀ k, cell.vm ≠ .statics k := fun k h => by rw [hvm] at h; cases h
  have hk0 : ∃ k, s.vm.classes[cell.cls]? = some k := Vm.classAt_of_findClass hfc
  have hpl : e.platform.magicAccessors = ({} : Platform).magicAccessors := by rw [X.admits.platform]
  have hasg : s.vm.assignable cell.cls cell.cls = true := by
    show s.vm.assignableAux (255 + 1) cell.cls cell.cls = true
    rw [Vm.assignableAux]
    simp
  have key : ∀ L : List ((Nat × Nat × Nat × Nat) × String), bRows own Cn pc L pcH → bCatch e s (F0 m pc ls rest) cell.cls (tableOf (L.map Prod.fst)) pcH := by
    intro L
    induction L with
    | nil => intro h; exact h.elim
    | cons q t ih =>
      intro h
      obtain ⟨h1, h2, h3, h4⟩ := h
      obtain ⟨c', hc', hcl⟩ := Cond.classLink_spec C.2.2.2.1 (C.2.2.2.2.1 _ h3) e.platform hpl
      refine Or.inr ⟨h1, h2, c', hcl, ?_⟩
      rcases h4 with ⟨e1, e2⟩ | ⟨e1, e2⟩
      · left
        rw [e1] at hc'
        cases hfc.symm.trans hc'
        exact ⟨hasg, e2⟩
      · right
        obtain ⟨a1, a2, b1, b2, b3⟩ := C.2.2.2.2.2.2.2.2.1.2.2.2.2.2.1 _ e1
        cases hfc.symm.trans b1
        cases hc'.symm.trans b2
        exact ⟨b3, ih e2⟩
  have hC := key _ hr
  rw [hz] at hC
  obtain ⟨vm', hW', hq⟩ := bGo (e := e) (s0 := s) (f := F0 m pc ls rest) (a := x) hobj hk0 (tableOf hh) ((T.setTop (F0 m pc ls rest)).pushFrame (.throwing x)) pcH (by rw [Stand.throwing_vm]; exact X.warmed) (by rw [Stand.throwing_heap, hT]; exact hx) hC
  have hf : bFinds e ((T.setTop (F0 m pc ls rest)).pushFrame (.throwing x)) (F0 m pc ls rest) x (.found pcH) vm' := by
    intro Q E d acts
    rw [W.findHandler_eq (meth := meth) (code := c) (by rw [Stand.throwing_vm]; exact X.method') X.code, C.2.2.2.2.2.2.2.2.2]
    exact hq Q E d acts
  obtain ⟨t, st, hQ⟩ := k H locs ls hL hP hD hS (T.setVm vm') hT (X.noted hW')
  exact ⟨t, bCaught X.here hf st, hQ⟩
end bR4
end
section
theorem b_inc (i : Nat) : nI i + Int32.ofInt 1 = nI (i + 1) := (nI_succ i).symm
theorem b_if {c : Prop} [Decidable c] {a b : Int32} (h : c) : (if c then a else b) = a := if_pos h
section bR5
variable {p : Program} {l : Launch} {e : Env} {R : Room} {s : State} {m : MethodId} {args : Array Value} {below : List Frame} {meth : Method} {c : Code} {dd : bD} {A : Nat → Prop} {nL mc ms : Nat} {post : Option Value → (Nat → Nat) → (Nat → va_E) → Nat → Prop} {thr : String → (Nat → Nat) → (Nat → va_E) → Nat → Prop} {pc : Nat} {lo : Nat → Option Value} {rest : List Value} {ad : Nat → Nat} {w : Nat → va_E} {N cells slots : Nat} {cc : ByteArray} {own : String} {ret : Option FieldType} {hh : List (Nat × Nat × Nat × Nat)}
theorem bv_objInit {idx a : Nat} (pc' : Nat) (hpc : pc + 3 = pc') (C : bCx p R s m args meth c cc own nL ret hh dd A) (hlink : Cond.methodLink own idx Lib.objectInit ∈ Tb) (hinst : Cond.instanceMethod Lib.objectInit ∈ Tb) (hcode : Cond.code Lib.objectInit ⟨#[0xb1]⟩ 1 none ∈ Tb) (hf : 1 ≤ R.frames) (hl : (rest.map fun v => v.category).sum + 12 ≤ R.locals) (hdg : decode cc pc = .ok (.invokespecial idx, 3))
    (k : bV p l e R s m args below meth c dd A nL mc ms post thr pc' lo rest ad w N cells slots) : bV p l e R s m args below meth c dd A nL mc ms post thr pc lo (.ref a :: rest) ad w N cells slots := by
  subst hpc
  intro H locs ls hL hP hD hS
  refine W.objInit C.1 C.2.1 C.2.2.2.1 (C.2.2.2.2.1 _ hlink) (C.2.2.2.2.1 _ hinst) (C.2.2.2.2.1 _ hcode) rfl (hL.1.trans C.2.2.1.symm) rfl hdg hf (by show 2 * 0 + (rest.map fun v => v.category).sum + 12 ≤ R.locals; omega) ?_
  exact k H locs ls hL hP hD hS
theorem bv_ldc {index : Nat} {v : Int32} (pc' : Nat) (hpc : pc + 2 = pc') (C : bCx p R s m args meth c cc own nL ret hh dd A) (hw : Cond.constant own index v ∈ Tb) (hdg : decode cc pc = .ok (.ldc index, 2)) (k : bV p l e R s m args below meth c dd A nL mc ms post thr pc' lo (.int v :: rest) ad w N cells slots) : bV p l e R s m args below meth c dd A nL mc ms post thr pc lo rest ad w N cells slots := by
  subst hpc
  exact fun H locs ls hL hP hD hS => lv_ldc C.1 C.2.1 C.2.2.2.1 (C.2.2.2.2.1 _ hw) hdg (k H locs ls hL hP hD hS)
theorem bv_ldc2 {index : Nat} {v : Int64} (pc' : Nat) (hpc : pc + 3 = pc') (C : bCx p R s m args meth c cc own nL ret hh dd A) (hw : Cond.constantLong own index v ∈ Tb) (hdg : decode cc pc = .ok (.ldc2_w index, 3)) (k : bV p l e R s m args below meth c dd A nL mc ms post thr pc' lo (.long v :: rest) ad w N cells slots) : bV p l e R s m args below meth c dd A nL mc ms post thr pc lo rest ad w N cells slots := by
  subst hpc
  exact fun H locs ls hL hP hD hS => lv_ldc2 C.1 C.2.1 C.2.2.2.1 (C.2.2.2.2.1 _ hw) hdg (k H locs ls hL hP hD hS)
end bR5
end
section
abbrev c_K_init : ByteArray := prog_2_method_1_code
abbrev y_K_init : MethodName := ⟨"BlobStore$Chunk", "<init>", "()V"⟩
theorem i_K_init : bIs y_K_init 1 := Or.inl ⟨_, _, t1_82⟩
theorem d_K_init_0 : decode c_K_init 0 = .ok (.aload_n 0, 1) := by decide +kernel
theorem d_K_init_1 : decode c_K_init 1 = .ok (.invokespecial 3, 3) := by decide +kernel
theorem d_K_init_4 : decode c_K_init 4 = .ok (.aload_n 0, 1) := by decide +kernel
theorem d_K_init_5 : decode c_K_init 5 = .ok (.iconst 0, 1) := by decide +kernel
theorem d_K_init_6 : decode c_K_init 6 = .ok (.putfield 9, 3) := by decide +kernel
theorem d_K_init_9 : decode c_K_init 9 = .ok (.aload_n 0, 1) := by decide +kernel
theorem d_K_init_10 : decode c_K_init 10 = .ok (.lconst 0, 1) := by decide +kernel
theorem d_K_init_11 : decode c_K_init 11 = .ok (.putfield 15, 3) := by decide +kernel
theorem d_K_init_14 : decode c_K_init 14 = .ok (.aload_n 0, 1) := by decide +kernel
theorem d_K_init_15 : decode c_K_init 15 = .ok (.bipush 8, 2) := by decide +kernel
theorem d_K_init_17 : decode c_K_init 17 = .ok (.newarray .int, 2) := by decide +kernel
theorem d_K_init_19 : decode c_K_init 19 = .ok (.putfield 19, 3) := by decide +kernel
theorem d_K_init_22 : decode c_K_init 22 = .ok (.return_, 1) := by decide +kernel
abbrev c_K_isFree : ByteArray := prog_2_method_2_code
abbrev y_K_isFree : MethodName := ⟨"BlobStore$Chunk", "isFree", "()Z"⟩
theorem i_K_isFree : bIs y_K_isFree 1 := Or.inl ⟨_, _, t1_216⟩
theorem d_K_isFree_0 : decode c_K_isFree 0 = .ok (.aload_n 0, 1) := by decide +kernel
theorem d_K_isFree_1 : decode c_K_isFree 1 = .ok (.getfield 9, 3) := by decide +kernel
theorem d_K_isFree_4 : decode c_K_isFree 4 = .ok (.ifCond .ne 7, 3) := by decide +kernel
theorem d_K_isFree_7 : decode c_K_isFree 7 = .ok (.iconst 1, 1) := by decide +kernel
theorem d_K_isFree_8 : decode c_K_isFree 8 = .ok (.goto 4, 3) := by decide +kernel
theorem d_K_isFree_11 : decode c_K_isFree 11 = .ok (.iconst 0, 1) := by decide +kernel
theorem d_K_isFree_12 : decode c_K_isFree 12 = .ok (.ireturn, 1) := by decide +kernel
abbrev c_K_free : ByteArray := prog_2_method_3_code
abbrev y_K_free : MethodName := ⟨"BlobStore$Chunk", "free", "()V"⟩
theorem i_K_free : bIs y_K_free 1 := Or.inl ⟨_, _, t3_52⟩
theorem d_K_free_0 : decode c_K_free 0 = .ok (.aload_n 0, 1) := by decide +kernel
theorem d_K_free_1 : decode c_K_free 1 = .ok (.iconst 0, 1) := by decide +kernel
theorem d_K_free_2 : decode c_K_free 2 = .ok (.putfield 9, 3) := by decide +kernel
theorem d_K_free_5 : decode c_K_free 5 = .ok (.return_, 1) := by decide +kernel
abbrev c_K_fill : ByteArray := prog_2_method_4_code
abbrev y_K_fill : MethodName := ⟨"BlobStore$Chunk", "fill", "(IJLBlobStore$Sha256;)V"⟩
theorem i_K_fill : bIs y_K_fill 5 := Or.inl ⟨_, _, t2_0⟩
theorem d_K_fill_0 : decode c_K_fill 0 = .ok (.aload_n 0, 1) := by decide +kernel
theorem d_K_fill_1 : decode c_K_fill 1 = .ok (.iload_n 1, 1) := by decide +kernel
theorem d_K_fill_2 : decode c_K_fill 2 = .ok (.putfield 9, 3) := by decide +kernel
theorem d_K_fill_5 : decode c_K_fill 5 = .ok (.aload_n 0, 1) := by decide +kernel
theorem d_K_fill_6 : decode c_K_fill 6 = .ok (.lload_n 2, 1) := by decide +kernel
theorem d_K_fill_7 : decode c_K_fill 7 = .ok (.ldc2_w 23, 3) := by decide +kernel
theorem d_K_fill_10 : decode c_K_fill 10 = .ok (.bipush 64, 2) := by decide +kernel
theorem d_K_fill_12 : decode c_K_fill 12 = .ok (.bipush 8, 2) := by decide +kernel
theorem d_K_fill_14 : decode c_K_fill 14 = .ok (.iload_n 1, 1) := by decide +kernel
theorem d_K_fill_15 : decode c_K_fill 15 = .ok (.imul, 1) := by decide +kernel
theorem d_K_fill_16 : decode c_K_fill 16 = .ok (.isub, 1) := by decide +kernel
theorem d_K_fill_17 : decode c_K_fill 17 = .ok (.lshl, 1) := by decide +kernel
theorem d_K_fill_18 : decode c_K_fill 18 = .ok (.land, 1) := by decide +kernel
theorem d_K_fill_19 : decode c_K_fill 19 = .ok (.putfield 15, 3) := by decide +kernel
theorem d_K_fill_22 : decode c_K_fill 22 = .ok (.aload 4, 2) := by decide +kernel
theorem d_K_fill_24 : decode c_K_fill 24 = .ok (.iload_n 1, 1) := by decide +kernel
theorem d_K_fill_25 : decode c_K_fill 25 = .ok (.aload_n 0, 1) := by decide +kernel
theorem d_K_fill_26 : decode c_K_fill 26 = .ok (.getfield 15, 3) := by decide +kernel
theorem d_K_fill_29 : decode c_K_fill 29 = .ok (.aload_n 0, 1) := by decide +kernel
theorem d_K_fill_30 : decode c_K_fill 30 = .ok (.getfield 19, 3) := by decide +kernel
theorem d_K_fill_33 : decode c_K_fill 33 = .ok (.invokevirtual 25, 3) := by decide +kernel
theorem d_K_fill_36 : decode c_K_fill 36 = .ok (.return_, 1) := by decide +kernel
abbrev c_K_copyFrom : ByteArray := prog_2_method_5_code
abbrev y_K_copyFrom : MethodName := ⟨"BlobStore$Chunk", "copyFrom", "(LBlobStore$Chunk;)V"⟩
theorem i_K_copyFrom : bIs y_K_copyFrom 2 := Or.inl ⟨_, _, t3_2⟩
theorem d_K_copyFrom_0 : decode c_K_copyFrom 0 = .ok (.aload_n 0, 1) := by decide +kernel
theorem d_K_copyFrom_1 : decode c_K_copyFrom 1 = .ok (.aload_n 1, 1) := by decide +kernel
theorem d_K_copyFrom_2 : decode c_K_copyFrom 2 = .ok (.getfield 9, 3) := by decide +kernel
theorem d_K_copyFrom_5 : decode c_K_copyFrom 5 = .ok (.putfield 9, 3) := by decide +kernel
theorem d_K_copyFrom_8 : decode c_K_copyFrom 8 = .ok (.aload_n 0, 1) := by decide +kernel
theorem d_K_copyFrom_9 : decode c_K_copyFrom 9 = .ok (.aload_n 1, 1) := by decide +kernel
theorem d_K_copyFrom_10 : decode c_K_copyFrom 10 = .ok (.getfield 15, 3) := by decide +kernel
theorem d_K_copyFrom_13 : decode c_K_copyFrom 13 = .ok (.putfield 15, 3) := by decide +kernel
theorem d_K_copyFrom_16 : decode c_K_copyFrom 16 = .ok (.aload_n 1, 1) := by decide +kernel
theorem d_K_copyFrom_17 : decode c_K_copyFrom 17 = .ok (.getfield 19, 3) := by decide +kernel
theorem d_K_copyFrom_20 : decode c_K_copyFrom 20 = .ok (.iconst 0, 1) := by decide +kernel
theorem d_K_copyFrom_21 : decode c_K_copyFrom 21 = .ok (.aload_n 0, 1) := by decide +kernel
theorem d_K_copyFrom_22 : decode c_K_copyFrom 22 = .ok (.getfield 19, 3) := by decide +kernel
theorem d_K_copyFrom_25 : decode c_K_copyFrom 25 = .ok (.iconst 0, 1) := by decide +kernel
theorem d_K_copyFrom_26 : decode c_K_copyFrom 26 = .ok (.bipush 8, 2) := by decide +kernel
theorem d_K_copyFrom_28 : decode c_K_copyFrom 28 = .ok (.invokestatic 31, 3) := by decide +kernel
theorem d_K_copyFrom_31 : decode c_K_copyFrom 31 = .ok (.return_, 1) := by decide +kernel
abbrev c_K_isLike : ByteArray := prog_2_method_6_code
abbrev y_K_isLike : MethodName := ⟨"BlobStore$Chunk", "isLike", "(LBlobStore$Chunk;)Z"⟩
theorem i_K_isLike : bIs y_K_isLike 3 := Or.inl ⟨_, _, t2_34⟩
theorem d_K_isLike_0 : decode c_K_isLike 0 = .ok (.iconst 0, 1) := by decide +kernel
theorem d_K_isLike_1 : decode c_K_isLike 1 = .ok (.istore_n 2, 1) := by decide +kernel
theorem d_K_isLike_2 : decode c_K_isLike 2 = .ok (.iload_n 2, 1) := by decide +kernel
theorem d_K_isLike_3 : decode c_K_isLike 3 = .ok (.bipush 8, 2) := by decide +kernel
theorem d_K_isLike_5 : decode c_K_isLike 5 = .ok (.if_icmp .ge 26, 3) := by decide +kernel
theorem d_K_isLike_8 : decode c_K_isLike 8 = .ok (.aload_n 0, 1) := by decide +kernel
theorem d_K_isLike_9 : decode c_K_isLike 9 = .ok (.getfield 19, 3) := by decide +kernel
theorem d_K_isLike_12 : decode c_K_isLike 12 = .ok (.iload_n 2, 1) := by decide +kernel
theorem d_K_isLike_13 : decode c_K_isLike 13 = .ok (.iaload, 1) := by decide +kernel
theorem d_K_isLike_14 : decode c_K_isLike 14 = .ok (.aload_n 1, 1) := by decide +kernel
theorem d_K_isLike_15 : decode c_K_isLike 15 = .ok (.getfield 19, 3) := by decide +kernel
theorem d_K_isLike_18 : decode c_K_isLike 18 = .ok (.iload_n 2, 1) := by decide +kernel
theorem d_K_isLike_19 : decode c_K_isLike 19 = .ok (.iaload, 1) := by decide +kernel
theorem d_K_isLike_20 : decode c_K_isLike 20 = .ok (.if_icmp .eq 5, 3) := by decide +kernel
theorem d_K_isLike_23 : decode c_K_isLike 23 = .ok (.iconst 0, 1) := by decide +kernel
theorem d_K_isLike_24 : decode c_K_isLike 24 = .ok (.ireturn, 1) := by decide +kernel
theorem d_K_isLike_25 : decode c_K_isLike 25 = .ok (.iinc 2 1, 3) := by decide +kernel
theorem d_K_isLike_28 : decode c_K_isLike 28 = .ok (.goto (-26), 3) := by decide +kernel
theorem d_K_isLike_31 : decode c_K_isLike 31 = .ok (.iconst 1, 1) := by decide +kernel
theorem d_K_isLike_32 : decode c_K_isLike 32 = .ok (.ireturn, 1) := by decide +kernel
abbrev c_K_byteOf : ByteArray := prog_2_method_7_code
abbrev y_K_byteOf : MethodName := ⟨"BlobStore$Chunk", "byteOf", "(I)I"⟩
theorem i_K_byteOf : bIs y_K_byteOf 2 := Or.inl ⟨_, _, t1_204⟩
theorem d_K_byteOf_0 : decode c_K_byteOf 0 = .ok (.aload_n 0, 1) := by decide +kernel
theorem d_K_byteOf_1 : decode c_K_byteOf 1 = .ok (.getfield 15, 3) := by decide +kernel
theorem d_K_byteOf_4 : decode c_K_byteOf 4 = .ok (.bipush 56, 2) := by decide +kernel
theorem d_K_byteOf_6 : decode c_K_byteOf 6 = .ok (.bipush 8, 2) := by decide +kernel
theorem d_K_byteOf_8 : decode c_K_byteOf 8 = .ok (.iload_n 1, 1) := by decide +kernel
theorem d_K_byteOf_9 : decode c_K_byteOf 9 = .ok (.imul, 1) := by decide +kernel
theorem d_K_byteOf_10 : decode c_K_byteOf 10 = .ok (.isub, 1) := by decide +kernel
theorem d_K_byteOf_11 : decode c_K_byteOf 11 = .ok (.lushr, 1) := by decide +kernel
theorem d_K_byteOf_12 : decode c_K_byteOf 12 = .ok (.l2i, 1) := by decide +kernel
theorem d_K_byteOf_13 : decode c_K_byteOf 13 = .ok (.sipush 255, 3) := by decide +kernel
theorem d_K_byteOf_16 : decode c_K_byteOf 16 = .ok (.iand, 1) := by decide +kernel
theorem d_K_byteOf_17 : decode c_K_byteOf 17 = .ok (.ireturn, 1) := by decide +kernel
end
section
abbrev c_P_init : ByteArray := prog_3_method_1_code
abbrev y_P_init : MethodName := ⟨"BlobStore$Power", "<init>", "()V"⟩
theorem i_P_init : bIs y_P_init 1 := Or.inl ⟨_, _, t1_32⟩
theorem d_P_init_0 : decode c_P_init 0 = .ok (.aload_n 0, 1) := by decide +kernel
theorem d_P_init_1 : decode c_P_init 1 = .ok (.invokespecial 1, 3) := by decide +kernel
theorem d_P_init_4 : decode c_P_init 4 = .ok (.aload_n 0, 1) := by decide +kernel
theorem d_P_init_5 : decode c_P_init 5 = .ok (.iconst 0, 1) := by decide +kernel
theorem d_P_init_6 : decode c_P_init 6 = .ok (.putfield 7, 3) := by decide +kernel
theorem d_P_init_9 : decode c_P_init 9 = .ok (.aload_n 0, 1) := by decide +kernel
theorem d_P_init_10 : decode c_P_init 10 = .ok (.iconst (-1), 1) := by decide +kernel
theorem d_P_init_11 : decode c_P_init 11 = .ok (.putfield 13, 3) := by decide +kernel
theorem d_P_init_14 : decode c_P_init 14 = .ok (.aload_n 0, 1) := by decide +kernel
theorem d_P_init_15 : decode c_P_init 15 = .ok (.iconst 0, 1) := by decide +kernel
theorem d_P_init_16 : decode c_P_init 16 = .ok (.putfield 16, 3) := by decide +kernel
theorem d_P_init_19 : decode c_P_init 19 = .ok (.return_, 1) := by decide +kernel
abbrev c_P_requireOn : ByteArray := prog_3_method_2_code
abbrev y_P_requireOn : MethodName := ⟨"BlobStore$Power", "requireOn", "()V"⟩
theorem i_P_requireOn : bIs y_P_requireOn 1 := Or.inl ⟨_, _, t2_64⟩
theorem d_P_requireOn_0 : decode c_P_requireOn 0 = .ok (.aload_n 0, 1) := by decide +kernel
theorem d_P_requireOn_1 : decode c_P_requireOn 1 = .ok (.getfield 16, 3) := by decide +kernel
theorem d_P_requireOn_4 : decode c_P_requireOn 4 = .ok (.ifCond .eq 13, 3) := by decide +kernel
theorem d_P_requireOn_7 : decode c_P_requireOn 7 = .ok (.new 20, 3) := by decide +kernel
theorem d_P_requireOn_10 : decode c_P_requireOn 10 = .ok (.dup, 1) := by decide +kernel
theorem d_P_requireOn_11 : decode c_P_requireOn 11 = .ok (.ldc 22, 2) := by decide +kernel
theorem d_P_requireOn_13 : decode c_P_requireOn 13 = .ok (.invokespecial 24, 3) := by decide +kernel
theorem d_P_requireOn_16 : decode c_P_requireOn 16 = .ok (.athrow, 1) := by decide +kernel
theorem d_P_requireOn_17 : decode c_P_requireOn 17 = .ok (.return_, 1) := by decide +kernel
abbrev c_P_spendWrite : ByteArray := prog_3_method_3_code
abbrev y_P_spendWrite : MethodName := ⟨"BlobStore$Power", "spendWrite", "()V"⟩
theorem i_P_spendWrite : bIs y_P_spendWrite 1 := Or.inl ⟨_, _, t2_161⟩
theorem d_P_spendWrite_0 : decode c_P_spendWrite 0 = .ok (.aload_n 0, 1) := by decide +kernel
theorem d_P_spendWrite_1 : decode c_P_spendWrite 1 = .ok (.getfield 13, 3) := by decide +kernel
theorem d_P_spendWrite_4 : decode c_P_spendWrite 4 = .ok (.ifCond .ne 18, 3) := by decide +kernel
theorem d_P_spendWrite_7 : decode c_P_spendWrite 7 = .ok (.aload_n 0, 1) := by decide +kernel
theorem d_P_spendWrite_8 : decode c_P_spendWrite 8 = .ok (.iconst 1, 1) := by decide +kernel
theorem d_P_spendWrite_9 : decode c_P_spendWrite 9 = .ok (.putfield 16, 3) := by decide +kernel
theorem d_P_spendWrite_12 : decode c_P_spendWrite 12 = .ok (.new 27, 3) := by decide +kernel
theorem d_P_spendWrite_15 : decode c_P_spendWrite 15 = .ok (.dup, 1) := by decide +kernel
theorem d_P_spendWrite_16 : decode c_P_spendWrite 16 = .ok (.ldc 29, 2) := by decide +kernel
theorem d_P_spendWrite_18 : decode c_P_spendWrite 18 = .ok (.invokespecial 31, 3) := by decide +kernel
theorem d_P_spendWrite_21 : decode c_P_spendWrite 21 = .ok (.athrow, 1) := by decide +kernel
theorem d_P_spendWrite_22 : decode c_P_spendWrite 22 = .ok (.aload_n 0, 1) := by decide +kernel
theorem d_P_spendWrite_23 : decode c_P_spendWrite 23 = .ok (.getfield 13, 3) := by decide +kernel
theorem d_P_spendWrite_26 : decode c_P_spendWrite 26 = .ok (.ifCond .le 13, 3) := by decide +kernel
theorem d_P_spendWrite_29 : decode c_P_spendWrite 29 = .ok (.aload_n 0, 1) := by decide +kernel
theorem d_P_spendWrite_30 : decode c_P_spendWrite 30 = .ok (.dup, 1) := by decide +kernel
theorem d_P_spendWrite_31 : decode c_P_spendWrite 31 = .ok (.getfield 13, 3) := by decide +kernel
theorem d_P_spendWrite_34 : decode c_P_spendWrite 34 = .ok (.iconst 1, 1) := by decide +kernel
theorem d_P_spendWrite_35 : decode c_P_spendWrite 35 = .ok (.isub, 1) := by decide +kernel
theorem d_P_spendWrite_36 : decode c_P_spendWrite 36 = .ok (.putfield 13, 3) := by decide +kernel
theorem d_P_spendWrite_39 : decode c_P_spendWrite 39 = .ok (.aload_n 0, 1) := by decide +kernel
theorem d_P_spendWrite_40 : decode c_P_spendWrite 40 = .ok (.dup, 1) := by decide +kernel
theorem d_P_spendWrite_41 : decode c_P_spendWrite 41 = .ok (.getfield 7, 3) := by decide +kernel
theorem d_P_spendWrite_44 : decode c_P_spendWrite 44 = .ok (.iconst 1, 1) := by decide +kernel
theorem d_P_spendWrite_45 : decode c_P_spendWrite 45 = .ok (.iadd, 1) := by decide +kernel
theorem d_P_spendWrite_46 : decode c_P_spendWrite 46 = .ok (.putfield 7, 3) := by decide +kernel
theorem d_P_spendWrite_49 : decode c_P_spendWrite 49 = .ok (.return_, 1) := by decide +kernel
abbrev c_P_tellCut : ByteArray := prog_3_method_4_code
abbrev y_P_tellCut : MethodName := ⟨"BlobStore$Power", "tellCut", "(I)V"⟩
theorem i_P_tellCut : bIs y_P_tellCut 2 := Or.inl ⟨_, _, t3_64⟩
theorem d_P_tellCut_0 : decode c_P_tellCut 0 = .ok (.aload_n 0, 1) := by decide +kernel
theorem d_P_tellCut_1 : decode c_P_tellCut 1 = .ok (.iload_n 1, 1) := by decide +kernel
theorem d_P_tellCut_2 : decode c_P_tellCut 2 = .ok (.putfield 13, 3) := by decide +kernel
theorem d_P_tellCut_5 : decode c_P_tellCut 5 = .ok (.return_, 1) := by decide +kernel
abbrev c_P_turnOn : ByteArray := prog_3_method_5_code
abbrev y_P_turnOn : MethodName := ⟨"BlobStore$Power", "turnOn", "()Z"⟩
theorem i_P_turnOn : bIs y_P_turnOn 1 := Or.inl ⟨_, _, t1_184⟩
theorem d_P_turnOn_0 : decode c_P_turnOn 0 = .ok (.aload_n 0, 1) := by decide +kernel
theorem d_P_turnOn_1 : decode c_P_turnOn 1 = .ok (.getfield 16, 3) := by decide +kernel
theorem d_P_turnOn_4 : decode c_P_turnOn 4 = .ok (.ifCond .ne 5, 3) := by decide +kernel
theorem d_P_turnOn_7 : decode c_P_turnOn 7 = .ok (.iconst 0, 1) := by decide +kernel
theorem d_P_turnOn_8 : decode c_P_turnOn 8 = .ok (.ireturn, 1) := by decide +kernel
theorem d_P_turnOn_9 : decode c_P_turnOn 9 = .ok (.aload_n 0, 1) := by decide +kernel
theorem d_P_turnOn_10 : decode c_P_turnOn 10 = .ok (.iconst 0, 1) := by decide +kernel
theorem d_P_turnOn_11 : decode c_P_turnOn 11 = .ok (.putfield 16, 3) := by decide +kernel
theorem d_P_turnOn_14 : decode c_P_turnOn 14 = .ok (.aload_n 0, 1) := by decide +kernel
theorem d_P_turnOn_15 : decode c_P_turnOn 15 = .ok (.iconst (-1), 1) := by decide +kernel
theorem d_P_turnOn_16 : decode c_P_turnOn 16 = .ok (.putfield 13, 3) := by decide +kernel
theorem d_P_turnOn_19 : decode c_P_turnOn 19 = .ok (.iconst 1, 1) := by decide +kernel
theorem d_P_turnOn_20 : decode c_P_turnOn 20 = .ok (.ireturn, 1) := by decide +kernel
end
section
abbrev c_R_init : ByteArray := prog_4_method_1_code
abbrev y_R_init : MethodName := ⟨"BlobStore$Row", "<init>", "(I)V"⟩
theorem i_R_init : bIs y_R_init 2 := Or.inl ⟨_, _, t1_67⟩
theorem d_R_init_0 : decode c_R_init 0 = .ok (.aload_n 0, 1) := by decide +kernel
theorem d_R_init_1 : decode c_R_init 1 = .ok (.invokespecial 1, 3) := by decide +kernel
theorem d_R_init_4 : decode c_R_init 4 = .ok (.aload_n 0, 1) := by decide +kernel
theorem d_R_init_5 : decode c_R_init 5 = .ok (.iconst 0, 1) := by decide +kernel
theorem d_R_init_6 : decode c_R_init 6 = .ok (.putfield 7, 3) := by decide +kernel
theorem d_R_init_9 : decode c_R_init 9 = .ok (.aload_n 0, 1) := by decide +kernel
theorem d_R_init_10 : decode c_R_init 10 = .ok (.iload_n 1, 1) := by decide +kernel
theorem d_R_init_11 : decode c_R_init 11 = .ok (.newarray .int, 2) := by decide +kernel
theorem d_R_init_13 : decode c_R_init 13 = .ok (.putfield 13, 3) := by decide +kernel
theorem d_R_init_16 : decode c_R_init 16 = .ok (.return_, 1) := by decide +kernel
abbrev c_R_add : ByteArray := prog_4_method_2_code
abbrev y_R_add : MethodName := ⟨"BlobStore$Row", "add", "(I)V"⟩
theorem i_R_add : bIs y_R_add 2 := Or.inl ⟨_, _, t2_234⟩
theorem d_R_add_0 : decode c_R_add 0 = .ok (.aload_n 0, 1) := by decide +kernel
theorem d_R_add_1 : decode c_R_add 1 = .ok (.getfield 7, 3) := by decide +kernel
theorem d_R_add_4 : decode c_R_add 4 = .ok (.aload_n 0, 1) := by decide +kernel
theorem d_R_add_5 : decode c_R_add 5 = .ok (.getfield 13, 3) := by decide +kernel
theorem d_R_add_8 : decode c_R_add 8 = .ok (.arraylength, 1) := by decide +kernel
theorem d_R_add_9 : decode c_R_add 9 = .ok (.if_icmp .ge 23, 3) := by decide +kernel
theorem d_R_add_12 : decode c_R_add 12 = .ok (.aload_n 0, 1) := by decide +kernel
theorem d_R_add_13 : decode c_R_add 13 = .ok (.getfield 13, 3) := by decide +kernel
theorem d_R_add_16 : decode c_R_add 16 = .ok (.aload_n 0, 1) := by decide +kernel
theorem d_R_add_17 : decode c_R_add 17 = .ok (.getfield 7, 3) := by decide +kernel
theorem d_R_add_20 : decode c_R_add 20 = .ok (.iload_n 1, 1) := by decide +kernel
theorem d_R_add_21 : decode c_R_add 21 = .ok (.iastore, 1) := by decide +kernel
theorem d_R_add_22 : decode c_R_add 22 = .ok (.aload_n 0, 1) := by decide +kernel
theorem d_R_add_23 : decode c_R_add 23 = .ok (.dup, 1) := by decide +kernel
theorem d_R_add_24 : decode c_R_add 24 = .ok (.getfield 7, 3) := by decide +kernel
theorem d_R_add_27 : decode c_R_add 27 = .ok (.iconst 1, 1) := by decide +kernel
theorem d_R_add_28 : decode c_R_add 28 = .ok (.iadd, 1) := by decide +kernel
theorem d_R_add_29 : decode c_R_add 29 = .ok (.putfield 7, 3) := by decide +kernel
theorem d_R_add_32 : decode c_R_add 32 = .ok (.return_, 1) := by decide +kernel
abbrev c_R_addAll : ByteArray := prog_4_method_3_code
abbrev y_R_addAll : MethodName := ⟨"BlobStore$Row", "addAll", "(LBlobStore$Row;)V"⟩
theorem i_R_addAll : bIs y_R_addAll 3 := Or.inl ⟨_, _, t3_13⟩
theorem d_R_addAll_0 : decode c_R_addAll 0 = .ok (.iconst 0, 1) := by decide +kernel
theorem d_R_addAll_1 : decode c_R_addAll 1 = .ok (.istore_n 2, 1) := by decide +kernel
theorem d_R_addAll_2 : decode c_R_addAll 2 = .ok (.iload_n 2, 1) := by decide +kernel
theorem d_R_addAll_3 : decode c_R_addAll 3 = .ok (.aload_n 1, 1) := by decide +kernel
theorem d_R_addAll_4 : decode c_R_addAll 4 = .ok (.getfield 7, 3) := by decide +kernel
theorem d_R_addAll_7 : decode c_R_addAll 7 = .ok (.if_icmp .ge 19, 3) := by decide +kernel
theorem d_R_addAll_10 : decode c_R_addAll 10 = .ok (.aload_n 0, 1) := by decide +kernel
theorem d_R_addAll_11 : decode c_R_addAll 11 = .ok (.aload_n 1, 1) := by decide +kernel
theorem d_R_addAll_12 : decode c_R_addAll 12 = .ok (.getfield 13, 3) := by decide +kernel
theorem d_R_addAll_15 : decode c_R_addAll 15 = .ok (.iload_n 2, 1) := by decide +kernel
theorem d_R_addAll_16 : decode c_R_addAll 16 = .ok (.iaload, 1) := by decide +kernel
theorem d_R_addAll_17 : decode c_R_addAll 17 = .ok (.invokevirtual 17, 3) := by decide +kernel
theorem d_R_addAll_20 : decode c_R_addAll 20 = .ok (.iinc 2 1, 3) := by decide +kernel
theorem d_R_addAll_23 : decode c_R_addAll 23 = .ok (.goto (-21), 3) := by decide +kernel
theorem d_R_addAll_26 : decode c_R_addAll 26 = .ok (.return_, 1) := by decide +kernel
abbrev c_R_copyFrom : ByteArray := prog_4_method_4_code
abbrev y_R_copyFrom : MethodName := ⟨"BlobStore$Row", "copyFrom", "(LBlobStore$Row;)V"⟩
theorem i_R_copyFrom : bIs y_R_copyFrom 2 := Or.inl ⟨_, _, t3_9⟩
theorem d_R_copyFrom_0 : decode c_R_copyFrom 0 = .ok (.aload_n 0, 1) := by decide +kernel
theorem d_R_copyFrom_1 : decode c_R_copyFrom 1 = .ok (.iconst 0, 1) := by decide +kernel
theorem d_R_copyFrom_2 : decode c_R_copyFrom 2 = .ok (.putfield 7, 3) := by decide +kernel
theorem d_R_copyFrom_5 : decode c_R_copyFrom 5 = .ok (.aload_n 0, 1) := by decide +kernel
theorem d_R_copyFrom_6 : decode c_R_copyFrom 6 = .ok (.aload_n 1, 1) := by decide +kernel
theorem d_R_copyFrom_7 : decode c_R_copyFrom 7 = .ok (.invokevirtual 21, 3) := by decide +kernel
theorem d_R_copyFrom_10 : decode c_R_copyFrom 10 = .ok (.return_, 1) := by decide +kernel
abbrev c_R_countInto : ByteArray := prog_4_method_5_code
abbrev y_R_countInto : MethodName := ⟨"BlobStore$Row", "countInto", "([I)V"⟩
theorem i_R_countInto : bIs y_R_countInto 3 := Or.inl ⟨_, _, t1_231⟩
theorem d_R_countInto_0 : decode c_R_countInto 0 = .ok (.iconst 0, 1) := by decide +kernel
theorem d_R_countInto_1 : decode c_R_countInto 1 = .ok (.istore_n 2, 1) := by decide +kernel
theorem d_R_countInto_2 : decode c_R_countInto 2 = .ok (.iload_n 2, 1) := by decide +kernel
theorem d_R_countInto_3 : decode c_R_countInto 3 = .ok (.aload_n 0, 1) := by decide +kernel
theorem d_R_countInto_4 : decode c_R_countInto 4 = .ok (.getfield 7, 3) := by decide +kernel
theorem d_R_countInto_7 : decode c_R_countInto 7 = .ok (.if_icmp .ge 21, 3) := by decide +kernel
theorem d_R_countInto_10 : decode c_R_countInto 10 = .ok (.aload_n 1, 1) := by decide +kernel
theorem d_R_countInto_11 : decode c_R_countInto 11 = .ok (.aload_n 0, 1) := by decide +kernel
theorem d_R_countInto_12 : decode c_R_countInto 12 = .ok (.getfield 13, 3) := by decide +kernel
theorem d_R_countInto_15 : decode c_R_countInto 15 = .ok (.iload_n 2, 1) := by decide +kernel
theorem d_R_countInto_16 : decode c_R_countInto 16 = .ok (.iaload, 1) := by decide +kernel
theorem d_R_countInto_17 : decode c_R_countInto 17 = .ok (.dup2, 1) := by decide +kernel
theorem d_R_countInto_18 : decode c_R_countInto 18 = .ok (.iaload, 1) := by decide +kernel
theorem d_R_countInto_19 : decode c_R_countInto 19 = .ok (.iconst 1, 1) := by decide +kernel
theorem d_R_countInto_20 : decode c_R_countInto 20 = .ok (.iadd, 1) := by decide +kernel
theorem d_R_countInto_21 : decode c_R_countInto 21 = .ok (.iastore, 1) := by decide +kernel
theorem d_R_countInto_22 : decode c_R_countInto 22 = .ok (.iinc 2 1, 3) := by decide +kernel
theorem d_R_countInto_25 : decode c_R_countInto 25 = .ok (.goto (-23), 3) := by decide +kernel
theorem d_R_countInto_28 : decode c_R_countInto 28 = .ok (.return_, 1) := by decide +kernel
end
section
abbrev c_S_init : ByteArray := prog_5_method_1_code
abbrev y_S_init : MethodName := ⟨"BlobStore$Session", "<init>", "()V"⟩
theorem i_S_init : bIs y_S_init 2 := Or.inl ⟨_, _, t1_99⟩
theorem d_S_init_0 : decode c_S_init 0 = .ok (.aload_n 0, 1) := by decide +kernel
theorem d_S_init_1 : decode c_S_init 1 = .ok (.invokespecial 3, 3) := by decide +kernel
theorem d_S_init_4 : decode c_S_init 4 = .ok (.aload_n 0, 1) := by decide +kernel
theorem d_S_init_5 : decode c_S_init 5 = .ok (.iconst 0, 1) := by decide +kernel
theorem d_S_init_6 : decode c_S_init 6 = .ok (.putfield 9, 3) := by decide +kernel
theorem d_S_init_9 : decode c_S_init 9 = .ok (.aload_n 0, 1) := by decide +kernel
theorem d_S_init_10 : decode c_S_init 10 = .ok (.iconst 0, 1) := by decide +kernel
theorem d_S_init_11 : decode c_S_init 11 = .ok (.putfield 15, 3) := by decide +kernel
theorem d_S_init_14 : decode c_S_init 14 = .ok (.aload_n 0, 1) := by decide +kernel
theorem d_S_init_15 : decode c_S_init 15 = .ok (.iconst 0, 1) := by decide +kernel
theorem d_S_init_16 : decode c_S_init 16 = .ok (.putfield 19, 3) := by decide +kernel
theorem d_S_init_19 : decode c_S_init 19 = .ok (.aload_n 0, 1) := by decide +kernel
theorem d_S_init_20 : decode c_S_init 20 = .ok (.bipush 6, 2) := by decide +kernel
theorem d_S_init_22 : decode c_S_init 22 = .ok (.anewarray 22, 3) := by decide +kernel
theorem d_S_init_25 : decode c_S_init 25 = .ok (.putfield 24, 3) := by decide +kernel
theorem d_S_init_28 : decode c_S_init 28 = .ok (.iconst 0, 1) := by decide +kernel
theorem d_S_init_29 : decode c_S_init 29 = .ok (.istore_n 1, 1) := by decide +kernel
theorem d_S_init_30 : decode c_S_init 30 = .ok (.iload_n 1, 1) := by decide +kernel
theorem d_S_init_31 : decode c_S_init 31 = .ok (.bipush 6, 2) := by decide +kernel
theorem d_S_init_33 : decode c_S_init 33 = .ok (.if_icmp .ge 23, 3) := by decide +kernel
theorem d_S_init_36 : decode c_S_init 36 = .ok (.aload_n 0, 1) := by decide +kernel
theorem d_S_init_37 : decode c_S_init 37 = .ok (.getfield 24, 3) := by decide +kernel
theorem d_S_init_40 : decode c_S_init 40 = .ok (.iload_n 1, 1) := by decide +kernel
theorem d_S_init_41 : decode c_S_init 41 = .ok (.new 22, 3) := by decide +kernel
theorem d_S_init_44 : decode c_S_init 44 = .ok (.dup, 1) := by decide +kernel
theorem d_S_init_45 : decode c_S_init 45 = .ok (.iconst 3, 1) := by decide +kernel
theorem d_S_init_46 : decode c_S_init 46 = .ok (.invokespecial 28, 3) := by decide +kernel
theorem d_S_init_49 : decode c_S_init 49 = .ok (.aastore, 1) := by decide +kernel
theorem d_S_init_50 : decode c_S_init 50 = .ok (.iinc 1 1, 3) := by decide +kernel
theorem d_S_init_53 : decode c_S_init 53 = .ok (.goto (-23), 3) := by decide +kernel
theorem d_S_init_56 : decode c_S_init 56 = .ok (.return_, 1) := by decide +kernel
abbrev c_S_start : ByteArray := prog_5_method_2_code
abbrev y_S_start : MethodName := ⟨"BlobStore$Session", "start", "(II)V"⟩
theorem i_S_start : bIs y_S_start 4 := Or.inl ⟨_, _, t2_181⟩
theorem d_S_start_0 : decode c_S_start 0 = .ok (.aload_n 0, 1) := by decide +kernel
theorem d_S_start_1 : decode c_S_start 1 = .ok (.iconst 1, 1) := by decide +kernel
theorem d_S_start_2 : decode c_S_start 2 = .ok (.putfield 9, 3) := by decide +kernel
theorem d_S_start_5 : decode c_S_start 5 = .ok (.aload_n 0, 1) := by decide +kernel
theorem d_S_start_6 : decode c_S_start 6 = .ok (.iload_n 1, 1) := by decide +kernel
theorem d_S_start_7 : decode c_S_start 7 = .ok (.putfield 15, 3) := by decide +kernel
theorem d_S_start_10 : decode c_S_start 10 = .ok (.aload_n 0, 1) := by decide +kernel
theorem d_S_start_11 : decode c_S_start 11 = .ok (.iload_n 2, 1) := by decide +kernel
theorem d_S_start_12 : decode c_S_start 12 = .ok (.putfield 19, 3) := by decide +kernel
theorem d_S_start_15 : decode c_S_start 15 = .ok (.iconst 0, 1) := by decide +kernel
theorem d_S_start_16 : decode c_S_start 16 = .ok (.istore_n 3, 1) := by decide +kernel
theorem d_S_start_17 : decode c_S_start 17 = .ok (.iload_n 3, 1) := by decide +kernel
theorem d_S_start_18 : decode c_S_start 18 = .ok (.bipush 6, 2) := by decide +kernel
theorem d_S_start_20 : decode c_S_start 20 = .ok (.if_icmp .ge 19, 3) := by decide +kernel
theorem d_S_start_23 : decode c_S_start 23 = .ok (.aload_n 0, 1) := by decide +kernel
theorem d_S_start_24 : decode c_S_start 24 = .ok (.getfield 24, 3) := by decide +kernel
theorem d_S_start_27 : decode c_S_start 27 = .ok (.iload_n 3, 1) := by decide +kernel
theorem d_S_start_28 : decode c_S_start 28 = .ok (.aaload, 1) := by decide +kernel
theorem d_S_start_29 : decode c_S_start 29 = .ok (.iconst 0, 1) := by decide +kernel
theorem d_S_start_30 : decode c_S_start 30 = .ok (.putfield 31, 3) := by decide +kernel
theorem d_S_start_33 : decode c_S_start 33 = .ok (.iinc 3 1, 3) := by decide +kernel
theorem d_S_start_36 : decode c_S_start 36 = .ok (.goto (-19), 3) := by decide +kernel
theorem d_S_start_39 : decode c_S_start 39 = .ok (.return_, 1) := by decide +kernel
abbrev c_S_countInto : ByteArray := prog_5_method_3_code
abbrev y_S_countInto : MethodName := ⟨"BlobStore$Session", "countInto", "([I)V"⟩
theorem i_S_countInto : bIs y_S_countInto 3 := Or.inl ⟨_, _, t1_227⟩
theorem d_S_countInto_0 : decode c_S_countInto 0 = .ok (.iconst 0, 1) := by decide +kernel
theorem d_S_countInto_1 : decode c_S_countInto 1 = .ok (.istore_n 2, 1) := by decide +kernel
theorem d_S_countInto_2 : decode c_S_countInto 2 = .ok (.iload_n 2, 1) := by decide +kernel
theorem d_S_countInto_3 : decode c_S_countInto 3 = .ok (.bipush 6, 2) := by decide +kernel
theorem d_S_countInto_5 : decode c_S_countInto 5 = .ok (.if_icmp .ge 19, 3) := by decide +kernel
theorem d_S_countInto_8 : decode c_S_countInto 8 = .ok (.aload_n 0, 1) := by decide +kernel
theorem d_S_countInto_9 : decode c_S_countInto 9 = .ok (.getfield 24, 3) := by decide +kernel
theorem d_S_countInto_12 : decode c_S_countInto 12 = .ok (.iload_n 2, 1) := by decide +kernel
theorem d_S_countInto_13 : decode c_S_countInto 13 = .ok (.aaload, 1) := by decide +kernel
theorem d_S_countInto_14 : decode c_S_countInto 14 = .ok (.aload_n 1, 1) := by decide +kernel
theorem d_S_countInto_15 : decode c_S_countInto 15 = .ok (.invokevirtual 34, 3) := by decide +kernel
theorem d_S_countInto_18 : decode c_S_countInto 18 = .ok (.iinc 2 1, 3) := by decide +kernel
theorem d_S_countInto_21 : decode c_S_countInto 21 = .ok (.goto (-19), 3) := by decide +kernel
theorem d_S_countInto_24 : decode c_S_countInto 24 = .ok (.return_, 1) := by decide +kernel
end
section
abbrev c_V_init : ByteArray := prog_7_method_1_code
abbrev y_V_init : MethodName := ⟨"BlobStore$Version", "<init>", "()V"⟩
theorem i_V_init : bIs y_V_init 1 := Or.inl ⟨_, _, t1_125⟩
theorem d_V_init_0 : decode c_V_init 0 = .ok (.aload_n 0, 1) := by decide +kernel
theorem d_V_init_1 : decode c_V_init 1 = .ok (.invokespecial 3, 3) := by decide +kernel
theorem d_V_init_4 : decode c_V_init 4 = .ok (.aload_n 0, 1) := by decide +kernel
theorem d_V_init_5 : decode c_V_init 5 = .ok (.iconst 0, 1) := by decide +kernel
theorem d_V_init_6 : decode c_V_init 6 = .ok (.putfield 9, 3) := by decide +kernel
theorem d_V_init_9 : decode c_V_init 9 = .ok (.aload_n 0, 1) := by decide +kernel
theorem d_V_init_10 : decode c_V_init 10 = .ok (.iconst 0, 1) := by decide +kernel
theorem d_V_init_11 : decode c_V_init 11 = .ok (.putfield 15, 3) := by decide +kernel
theorem d_V_init_14 : decode c_V_init 14 = .ok (.aload_n 0, 1) := by decide +kernel
theorem d_V_init_15 : decode c_V_init 15 = .ok (.iconst 0, 1) := by decide +kernel
theorem d_V_init_16 : decode c_V_init 16 = .ok (.putfield 19, 3) := by decide +kernel
theorem d_V_init_19 : decode c_V_init 19 = .ok (.aload_n 0, 1) := by decide +kernel
theorem d_V_init_20 : decode c_V_init 20 = .ok (.new 22, 3) := by decide +kernel
theorem d_V_init_23 : decode c_V_init 23 = .ok (.dup, 1) := by decide +kernel
theorem d_V_init_24 : decode c_V_init 24 = .ok (.bipush 18, 2) := by decide +kernel
theorem d_V_init_26 : decode c_V_init 26 = .ok (.invokespecial 24, 3) := by decide +kernel
theorem d_V_init_29 : decode c_V_init 29 = .ok (.putfield 27, 3) := by decide +kernel
theorem d_V_init_32 : decode c_V_init 32 = .ok (.return_, 1) := by decide +kernel
abbrev c_V_comeFrom : ByteArray := prog_7_method_2_code
abbrev y_V_comeFrom : MethodName := ⟨"BlobStore$Version", "comeFrom", "(LBlobStore$Session;)V"⟩
theorem i_V_comeFrom : bIs y_V_comeFrom 3 := Or.inl ⟨_, _, t3_26⟩
theorem d_V_comeFrom_0 : decode c_V_comeFrom 0 = .ok (.aload_n 0, 1) := by decide +kernel
theorem d_V_comeFrom_1 : decode c_V_comeFrom 1 = .ok (.iconst 1, 1) := by decide +kernel
theorem d_V_comeFrom_2 : decode c_V_comeFrom 2 = .ok (.putfield 9, 3) := by decide +kernel
theorem d_V_comeFrom_5 : decode c_V_comeFrom 5 = .ok (.aload_n 0, 1) := by decide +kernel
theorem d_V_comeFrom_6 : decode c_V_comeFrom 6 = .ok (.aload_n 1, 1) := by decide +kernel
theorem d_V_comeFrom_7 : decode c_V_comeFrom 7 = .ok (.getfield 31, 3) := by decide +kernel
theorem d_V_comeFrom_10 : decode c_V_comeFrom 10 = .ok (.putfield 15, 3) := by decide +kernel
theorem d_V_comeFrom_13 : decode c_V_comeFrom 13 = .ok (.aload_n 0, 1) := by decide +kernel
theorem d_V_comeFrom_14 : decode c_V_comeFrom 14 = .ok (.aload_n 1, 1) := by decide +kernel
theorem d_V_comeFrom_15 : decode c_V_comeFrom 15 = .ok (.getfield 34, 3) := by decide +kernel
theorem d_V_comeFrom_18 : decode c_V_comeFrom 18 = .ok (.putfield 19, 3) := by decide +kernel
theorem d_V_comeFrom_21 : decode c_V_comeFrom 21 = .ok (.iconst 0, 1) := by decide +kernel
theorem d_V_comeFrom_22 : decode c_V_comeFrom 22 = .ok (.istore_n 2, 1) := by decide +kernel
theorem d_V_comeFrom_23 : decode c_V_comeFrom 23 = .ok (.iload_n 2, 1) := by decide +kernel
theorem d_V_comeFrom_24 : decode c_V_comeFrom 24 = .ok (.bipush 6, 2) := by decide +kernel
theorem d_V_comeFrom_26 : decode c_V_comeFrom 26 = .ok (.if_icmp .ge 22, 3) := by decide +kernel
theorem d_V_comeFrom_29 : decode c_V_comeFrom 29 = .ok (.aload_n 0, 1) := by decide +kernel
theorem d_V_comeFrom_30 : decode c_V_comeFrom 30 = .ok (.getfield 27, 3) := by decide +kernel
theorem d_V_comeFrom_33 : decode c_V_comeFrom 33 = .ok (.aload_n 1, 1) := by decide +kernel
theorem d_V_comeFrom_34 : decode c_V_comeFrom 34 = .ok (.getfield 35, 3) := by decide +kernel
theorem d_V_comeFrom_37 : decode c_V_comeFrom 37 = .ok (.iload_n 2, 1) := by decide +kernel
theorem d_V_comeFrom_38 : decode c_V_comeFrom 38 = .ok (.aaload, 1) := by decide +kernel
theorem d_V_comeFrom_39 : decode c_V_comeFrom 39 = .ok (.invokevirtual 39, 3) := by decide +kernel
theorem d_V_comeFrom_42 : decode c_V_comeFrom 42 = .ok (.iinc 2 1, 3) := by decide +kernel
theorem d_V_comeFrom_45 : decode c_V_comeFrom 45 = .ok (.goto (-22), 3) := by decide +kernel
theorem d_V_comeFrom_48 : decode c_V_comeFrom 48 = .ok (.return_, 1) := by decide +kernel
end
section
abbrev c_H_init : ByteArray := prog_6_method_1_code
abbrev y_H_init : MethodName := ⟨"BlobStore$Sha256", "<init>", "()V"⟩
theorem i_H_init : bIs y_H_init 1 := Or.inl ⟨_, _, t1_50⟩
theorem d_H_init_0 : decode c_H_init 0 = .ok (.aload_n 0, 1) := by decide +kernel
theorem d_H_init_1 : decode c_H_init 1 = .ok (.invokespecial 3, 3) := by decide +kernel
theorem d_H_init_4 : decode c_H_init 4 = .ok (.aload_n 0, 1) := by decide +kernel
theorem d_H_init_5 : decode c_H_init 5 = .ok (.bipush 64, 2) := by decide +kernel
theorem d_H_init_7 : decode c_H_init 7 = .ok (.newarray .int, 2) := by decide +kernel
theorem d_H_init_9 : decode c_H_init 9 = .ok (.putfield 11, 3) := by decide +kernel
theorem d_H_init_12 : decode c_H_init 12 = .ok (.return_, 1) := by decide +kernel
abbrev c_H_digest : ByteArray := prog_6_method_2_code
abbrev y_H_digest : MethodName := ⟨"BlobStore$Sha256", "digest", "(IJ[I)V"⟩
theorem i_H_digest : bIs y_H_digest 5 := Or.inl ⟨_, _, t2_5⟩
theorem d_H_digest_0 : decode c_H_digest 0 = .ok (.aload_n 0, 1) := by decide +kernel
theorem d_H_digest_1 : decode c_H_digest 1 = .ok (.iload_n 1, 1) := by decide +kernel
theorem d_H_digest_2 : decode c_H_digest 2 = .ok (.lload_n 2, 1) := by decide +kernel
theorem d_H_digest_3 : decode c_H_digest 3 = .ok (.invokevirtual 15, 3) := by decide +kernel
theorem d_H_digest_6 : decode c_H_digest 6 = .ok (.aload_n 0, 1) := by decide +kernel
theorem d_H_digest_7 : decode c_H_digest 7 = .ok (.invokevirtual 19, 3) := by decide +kernel
theorem d_H_digest_10 : decode c_H_digest 10 = .ok (.aload_n 0, 1) := by decide +kernel
theorem d_H_digest_11 : decode c_H_digest 11 = .ok (.aload 4, 2) := by decide +kernel
theorem d_H_digest_13 : decode c_H_digest 13 = .ok (.invokevirtual 22, 3) := by decide +kernel
theorem d_H_digest_16 : decode c_H_digest 16 = .ok (.return_, 1) := by decide +kernel
abbrev c_H_padBlock : ByteArray := prog_6_method_3_code
abbrev y_H_padBlock : MethodName := ⟨"BlobStore$Sha256", "padBlock", "(IJ)V"⟩
theorem i_H_padBlock : bIs y_H_padBlock 7 := Or.inl ⟨_, _, t2_9⟩
theorem d_H_padBlock_0 : decode c_H_padBlock 0 = .ok (.iload_n 1, 1) := by decide +kernel
theorem d_H_padBlock_1 : decode c_H_padBlock 1 = .ok (.bipush 8, 2) := by decide +kernel
theorem d_H_padBlock_3 : decode c_H_padBlock 3 = .ok (.if_icmp .ge 7, 3) := by decide +kernel
theorem d_H_padBlock_6 : decode c_H_padBlock 6 = .ok (.iconst 1, 1) := by decide +kernel
theorem d_H_padBlock_7 : decode c_H_padBlock 7 = .ok (.goto 4, 3) := by decide +kernel
theorem d_H_padBlock_10 : decode c_H_padBlock 10 = .ok (.iconst 0, 1) := by decide +kernel
theorem d_H_padBlock_11 : decode c_H_padBlock 11 = .ok (.istore 4, 2) := by decide +kernel
theorem d_H_padBlock_13 : decode c_H_padBlock 13 = .ok (.iload 4, 2) := by decide +kernel
theorem d_H_padBlock_15 : decode c_H_padBlock 15 = .ok (.ifCond .eq 19, 3) := by decide +kernel
theorem d_H_padBlock_18 : decode c_H_padBlock 18 = .ok (.lload_n 2, 1) := by decide +kernel
theorem d_H_padBlock_19 : decode c_H_padBlock 19 = .ok (.ldc2_w 26, 3) := by decide +kernel
theorem d_H_padBlock_22 : decode c_H_padBlock 22 = .ok (.bipush 56, 2) := by decide +kernel
theorem d_H_padBlock_24 : decode c_H_padBlock 24 = .ok (.bipush 8, 2) := by decide +kernel
theorem d_H_padBlock_26 : decode c_H_padBlock 26 = .ok (.iload_n 1, 1) := by decide +kernel
theorem d_H_padBlock_27 : decode c_H_padBlock 27 = .ok (.imul, 1) := by decide +kernel
theorem d_H_padBlock_28 : decode c_H_padBlock 28 = .ok (.isub, 1) := by decide +kernel
theorem d_H_padBlock_29 : decode c_H_padBlock 29 = .ok (.lshl, 1) := by decide +kernel
theorem d_H_padBlock_30 : decode c_H_padBlock 30 = .ok (.lor, 1) := by decide +kernel
theorem d_H_padBlock_31 : decode c_H_padBlock 31 = .ok (.goto 4, 3) := by decide +kernel
theorem d_H_padBlock_34 : decode c_H_padBlock 34 = .ok (.lload_n 2, 1) := by decide +kernel
theorem d_H_padBlock_35 : decode c_H_padBlock 35 = .ok (.lstore 5, 2) := by decide +kernel
theorem d_H_padBlock_37 : decode c_H_padBlock 37 = .ok (.aload_n 0, 1) := by decide +kernel
theorem d_H_padBlock_38 : decode c_H_padBlock 38 = .ok (.getfield 11, 3) := by decide +kernel
theorem d_H_padBlock_41 : decode c_H_padBlock 41 = .ok (.iconst 0, 1) := by decide +kernel
theorem d_H_padBlock_42 : decode c_H_padBlock 42 = .ok (.lload 5, 2) := by decide +kernel
theorem d_H_padBlock_44 : decode c_H_padBlock 44 = .ok (.bipush 32, 2) := by decide +kernel
theorem d_H_padBlock_46 : decode c_H_padBlock 46 = .ok (.lushr, 1) := by decide +kernel
theorem d_H_padBlock_47 : decode c_H_padBlock 47 = .ok (.l2i, 1) := by decide +kernel
theorem d_H_padBlock_48 : decode c_H_padBlock 48 = .ok (.iastore, 1) := by decide +kernel
theorem d_H_padBlock_49 : decode c_H_padBlock 49 = .ok (.aload_n 0, 1) := by decide +kernel
theorem d_H_padBlock_50 : decode c_H_padBlock 50 = .ok (.getfield 11, 3) := by decide +kernel
theorem d_H_padBlock_53 : decode c_H_padBlock 53 = .ok (.iconst 1, 1) := by decide +kernel
theorem d_H_padBlock_54 : decode c_H_padBlock 54 = .ok (.lload 5, 2) := by decide +kernel
theorem d_H_padBlock_56 : decode c_H_padBlock 56 = .ok (.l2i, 1) := by decide +kernel
theorem d_H_padBlock_57 : decode c_H_padBlock 57 = .ok (.iastore, 1) := by decide +kernel
theorem d_H_padBlock_58 : decode c_H_padBlock 58 = .ok (.aload_n 0, 1) := by decide +kernel
theorem d_H_padBlock_59 : decode c_H_padBlock 59 = .ok (.getfield 11, 3) := by decide +kernel
theorem d_H_padBlock_62 : decode c_H_padBlock 62 = .ok (.iconst 2, 1) := by decide +kernel
theorem d_H_padBlock_63 : decode c_H_padBlock 63 = .ok (.iload 4, 2) := by decide +kernel
theorem d_H_padBlock_65 : decode c_H_padBlock 65 = .ok (.ifCond .eq 7, 3) := by decide +kernel
theorem d_H_padBlock_68 : decode c_H_padBlock 68 = .ok (.iconst 0, 1) := by decide +kernel
theorem d_H_padBlock_69 : decode c_H_padBlock 69 = .ok (.goto 5, 3) := by decide +kernel
theorem d_H_padBlock_72 : decode c_H_padBlock 72 = .ok (.ldc 28, 2) := by decide +kernel
theorem d_H_padBlock_74 : decode c_H_padBlock 74 = .ok (.iastore, 1) := by decide +kernel
theorem d_H_padBlock_75 : decode c_H_padBlock 75 = .ok (.aload_n 0, 1) := by decide +kernel
theorem d_H_padBlock_76 : decode c_H_padBlock 76 = .ok (.getfield 11, 3) := by decide +kernel
theorem d_H_padBlock_79 : decode c_H_padBlock 79 = .ok (.bipush 15, 2) := by decide +kernel
theorem d_H_padBlock_81 : decode c_H_padBlock 81 = .ok (.bipush 8, 2) := by decide +kernel
theorem d_H_padBlock_83 : decode c_H_padBlock 83 = .ok (.iload_n 1, 1) := by decide +kernel
theorem d_H_padBlock_84 : decode c_H_padBlock 84 = .ok (.imul, 1) := by decide +kernel
theorem d_H_padBlock_85 : decode c_H_padBlock 85 = .ok (.iastore, 1) := by decide +kernel
theorem d_H_padBlock_86 : decode c_H_padBlock 86 = .ok (.return_, 1) := by decide +kernel
abbrev c_H_expandBlock : ByteArray := prog_6_method_4_code
abbrev y_H_expandBlock : MethodName := ⟨"BlobStore$Sha256", "expandBlock", "()V"⟩
theorem i_H_expandBlock : bIs y_H_expandBlock 6 := Or.inl ⟨_, _, t2_15⟩
theorem d_H_expandBlock_0 : decode c_H_expandBlock 0 = .ok (.bipush 16, 2) := by decide +kernel
theorem d_H_expandBlock_2 : decode c_H_expandBlock 2 = .ok (.istore_n 1, 1) := by decide +kernel
theorem d_H_expandBlock_3 : decode c_H_expandBlock 3 = .ok (.iload_n 1, 1) := by decide +kernel
theorem d_H_expandBlock_4 : decode c_H_expandBlock 4 = .ok (.bipush 64, 2) := by decide +kernel
theorem d_H_expandBlock_6 : decode c_H_expandBlock 6 = .ok (.if_icmp .ge 98, 3) := by decide +kernel
theorem d_H_expandBlock_9 : decode c_H_expandBlock 9 = .ok (.aload_n 0, 1) := by decide +kernel
theorem d_H_expandBlock_10 : decode c_H_expandBlock 10 = .ok (.getfield 11, 3) := by decide +kernel
theorem d_H_expandBlock_13 : decode c_H_expandBlock 13 = .ok (.iload_n 1, 1) := by decide +kernel
theorem d_H_expandBlock_14 : decode c_H_expandBlock 14 = .ok (.bipush 15, 2) := by decide +kernel
theorem d_H_expandBlock_16 : decode c_H_expandBlock 16 = .ok (.isub, 1) := by decide +kernel
theorem d_H_expandBlock_17 : decode c_H_expandBlock 17 = .ok (.iaload, 1) := by decide +kernel
theorem d_H_expandBlock_18 : decode c_H_expandBlock 18 = .ok (.istore_n 2, 1) := by decide +kernel
theorem d_H_expandBlock_19 : decode c_H_expandBlock 19 = .ok (.aload_n 0, 1) := by decide +kernel
theorem d_H_expandBlock_20 : decode c_H_expandBlock 20 = .ok (.getfield 11, 3) := by decide +kernel
theorem d_H_expandBlock_23 : decode c_H_expandBlock 23 = .ok (.iload_n 1, 1) := by decide +kernel
theorem d_H_expandBlock_24 : decode c_H_expandBlock 24 = .ok (.iconst 2, 1) := by decide +kernel
theorem d_H_expandBlock_25 : decode c_H_expandBlock 25 = .ok (.isub, 1) := by decide +kernel
theorem d_H_expandBlock_26 : decode c_H_expandBlock 26 = .ok (.iaload, 1) := by decide +kernel
theorem d_H_expandBlock_27 : decode c_H_expandBlock 27 = .ok (.istore_n 3, 1) := by decide +kernel
theorem d_H_expandBlock_28 : decode c_H_expandBlock 28 = .ok (.iload_n 2, 1) := by decide +kernel
theorem d_H_expandBlock_29 : decode c_H_expandBlock 29 = .ok (.bipush 7, 2) := by decide +kernel
theorem d_H_expandBlock_31 : decode c_H_expandBlock 31 = .ok (.invokestatic 29, 3) := by decide +kernel
theorem d_H_expandBlock_34 : decode c_H_expandBlock 34 = .ok (.iload_n 2, 1) := by decide +kernel
theorem d_H_expandBlock_35 : decode c_H_expandBlock 35 = .ok (.bipush 18, 2) := by decide +kernel
theorem d_H_expandBlock_37 : decode c_H_expandBlock 37 = .ok (.invokestatic 29, 3) := by decide +kernel
theorem d_H_expandBlock_40 : decode c_H_expandBlock 40 = .ok (.ixor, 1) := by decide +kernel
theorem d_H_expandBlock_41 : decode c_H_expandBlock 41 = .ok (.iload_n 2, 1) := by decide +kernel
theorem d_H_expandBlock_42 : decode c_H_expandBlock 42 = .ok (.iconst 3, 1) := by decide +kernel
theorem d_H_expandBlock_43 : decode c_H_expandBlock 43 = .ok (.iushr, 1) := by decide +kernel
theorem d_H_expandBlock_44 : decode c_H_expandBlock 44 = .ok (.ixor, 1) := by decide +kernel
theorem d_H_expandBlock_45 : decode c_H_expandBlock 45 = .ok (.istore 4, 2) := by decide +kernel
theorem d_H_expandBlock_47 : decode c_H_expandBlock 47 = .ok (.iload_n 3, 1) := by decide +kernel
theorem d_H_expandBlock_48 : decode c_H_expandBlock 48 = .ok (.bipush 17, 2) := by decide +kernel
theorem d_H_expandBlock_50 : decode c_H_expandBlock 50 = .ok (.invokestatic 29, 3) := by decide +kernel
theorem d_H_expandBlock_53 : decode c_H_expandBlock 53 = .ok (.iload_n 3, 1) := by decide +kernel
theorem d_H_expandBlock_54 : decode c_H_expandBlock 54 = .ok (.bipush 19, 2) := by decide +kernel
theorem d_H_expandBlock_56 : decode c_H_expandBlock 56 = .ok (.invokestatic 29, 3) := by decide +kernel
theorem d_H_expandBlock_59 : decode c_H_expandBlock 59 = .ok (.ixor, 1) := by decide +kernel
theorem d_H_expandBlock_60 : decode c_H_expandBlock 60 = .ok (.iload_n 3, 1) := by decide +kernel
theorem d_H_expandBlock_61 : decode c_H_expandBlock 61 = .ok (.bipush 10, 2) := by decide +kernel
theorem d_H_expandBlock_63 : decode c_H_expandBlock 63 = .ok (.iushr, 1) := by decide +kernel
theorem d_H_expandBlock_64 : decode c_H_expandBlock 64 = .ok (.ixor, 1) := by decide +kernel
theorem d_H_expandBlock_65 : decode c_H_expandBlock 65 = .ok (.istore 5, 2) := by decide +kernel
theorem d_H_expandBlock_67 : decode c_H_expandBlock 67 = .ok (.aload_n 0, 1) := by decide +kernel
theorem d_H_expandBlock_68 : decode c_H_expandBlock 68 = .ok (.getfield 11, 3) := by decide +kernel
theorem d_H_expandBlock_71 : decode c_H_expandBlock 71 = .ok (.iload_n 1, 1) := by decide +kernel
theorem d_H_expandBlock_72 : decode c_H_expandBlock 72 = .ok (.iload 5, 2) := by decide +kernel
theorem d_H_expandBlock_74 : decode c_H_expandBlock 74 = .ok (.aload_n 0, 1) := by decide +kernel
theorem d_H_expandBlock_75 : decode c_H_expandBlock 75 = .ok (.getfield 11, 3) := by decide +kernel
theorem d_H_expandBlock_78 : decode c_H_expandBlock 78 = .ok (.iload_n 1, 1) := by decide +kernel
theorem d_H_expandBlock_79 : decode c_H_expandBlock 79 = .ok (.bipush 7, 2) := by decide +kernel
theorem d_H_expandBlock_81 : decode c_H_expandBlock 81 = .ok (.isub, 1) := by decide +kernel
theorem d_H_expandBlock_82 : decode c_H_expandBlock 82 = .ok (.iaload, 1) := by decide +kernel
theorem d_H_expandBlock_83 : decode c_H_expandBlock 83 = .ok (.iadd, 1) := by decide +kernel
theorem d_H_expandBlock_84 : decode c_H_expandBlock 84 = .ok (.iload 4, 2) := by decide +kernel
theorem d_H_expandBlock_86 : decode c_H_expandBlock 86 = .ok (.iadd, 1) := by decide +kernel
theorem d_H_expandBlock_87 : decode c_H_expandBlock 87 = .ok (.aload_n 0, 1) := by decide +kernel
theorem d_H_expandBlock_88 : decode c_H_expandBlock 88 = .ok (.getfield 11, 3) := by decide +kernel
theorem d_H_expandBlock_91 : decode c_H_expandBlock 91 = .ok (.iload_n 1, 1) := by decide +kernel
theorem d_H_expandBlock_92 : decode c_H_expandBlock 92 = .ok (.bipush 16, 2) := by decide +kernel
theorem d_H_expandBlock_94 : decode c_H_expandBlock 94 = .ok (.isub, 1) := by decide +kernel
theorem d_H_expandBlock_95 : decode c_H_expandBlock 95 = .ok (.iaload, 1) := by decide +kernel
theorem d_H_expandBlock_96 : decode c_H_expandBlock 96 = .ok (.iadd, 1) := by decide +kernel
theorem d_H_expandBlock_97 : decode c_H_expandBlock 97 = .ok (.iastore, 1) := by decide +kernel
theorem d_H_expandBlock_98 : decode c_H_expandBlock 98 = .ok (.iinc 1 1, 3) := by decide +kernel
theorem d_H_expandBlock_101 : decode c_H_expandBlock 101 = .ok (.goto (-98), 3) := by decide +kernel
theorem d_H_expandBlock_104 : decode c_H_expandBlock 104 = .ok (.return_, 1) := by decide +kernel
abbrev c_H_mixBlock : ByteArray := prog_6_method_5_code
abbrev y_H_mixBlock : MethodName := ⟨"BlobStore$Sha256", "mixBlock", "([I)V"⟩
theorem i_H_mixBlock : bIs y_H_mixBlock 16 := Or.inl ⟨_, _, t2_22⟩
theorem d_H_mixBlock_0 : decode c_H_mixBlock 0 = .ok (.getstatic 33, 3) := by decide +kernel
theorem d_H_mixBlock_3 : decode c_H_mixBlock 3 = .ok (.iconst 0, 1) := by decide +kernel
theorem d_H_mixBlock_4 : decode c_H_mixBlock 4 = .ok (.iaload, 1) := by decide +kernel
theorem d_H_mixBlock_5 : decode c_H_mixBlock 5 = .ok (.istore_n 2, 1) := by decide +kernel
theorem d_H_mixBlock_6 : decode c_H_mixBlock 6 = .ok (.getstatic 33, 3) := by decide +kernel
theorem d_H_mixBlock_9 : decode c_H_mixBlock 9 = .ok (.iconst 1, 1) := by decide +kernel
theorem d_H_mixBlock_10 : decode c_H_mixBlock 10 = .ok (.iaload, 1) := by decide +kernel
theorem d_H_mixBlock_11 : decode c_H_mixBlock 11 = .ok (.istore_n 3, 1) := by decide +kernel
theorem d_H_mixBlock_12 : decode c_H_mixBlock 12 = .ok (.getstatic 33, 3) := by decide +kernel
theorem d_H_mixBlock_15 : decode c_H_mixBlock 15 = .ok (.iconst 2, 1) := by decide +kernel
theorem d_H_mixBlock_16 : decode c_H_mixBlock 16 = .ok (.iaload, 1) := by decide +kernel
theorem d_H_mixBlock_17 : decode c_H_mixBlock 17 = .ok (.istore 4, 2) := by decide +kernel
theorem d_H_mixBlock_19 : decode c_H_mixBlock 19 = .ok (.getstatic 33, 3) := by decide +kernel
theorem d_H_mixBlock_22 : decode c_H_mixBlock 22 = .ok (.iconst 3, 1) := by decide +kernel
theorem d_H_mixBlock_23 : decode c_H_mixBlock 23 = .ok (.iaload, 1) := by decide +kernel
theorem d_H_mixBlock_24 : decode c_H_mixBlock 24 = .ok (.istore 5, 2) := by decide +kernel
theorem d_H_mixBlock_26 : decode c_H_mixBlock 26 = .ok (.getstatic 33, 3) := by decide +kernel
theorem d_H_mixBlock_29 : decode c_H_mixBlock 29 = .ok (.iconst 4, 1) := by decide +kernel
theorem d_H_mixBlock_30 : decode c_H_mixBlock 30 = .ok (.iaload, 1) := by decide +kernel
theorem d_H_mixBlock_31 : decode c_H_mixBlock 31 = .ok (.istore 6, 2) := by decide +kernel
theorem d_H_mixBlock_33 : decode c_H_mixBlock 33 = .ok (.getstatic 33, 3) := by decide +kernel
theorem d_H_mixBlock_36 : decode c_H_mixBlock 36 = .ok (.iconst 5, 1) := by decide +kernel
theorem d_H_mixBlock_37 : decode c_H_mixBlock 37 = .ok (.iaload, 1) := by decide +kernel
theorem d_H_mixBlock_38 : decode c_H_mixBlock 38 = .ok (.istore 7, 2) := by decide +kernel
theorem d_H_mixBlock_40 : decode c_H_mixBlock 40 = .ok (.getstatic 33, 3) := by decide +kernel
theorem d_H_mixBlock_43 : decode c_H_mixBlock 43 = .ok (.bipush 6, 2) := by decide +kernel
theorem d_H_mixBlock_45 : decode c_H_mixBlock 45 = .ok (.iaload, 1) := by decide +kernel
theorem d_H_mixBlock_46 : decode c_H_mixBlock 46 = .ok (.istore 8, 2) := by decide +kernel
theorem d_H_mixBlock_48 : decode c_H_mixBlock 48 = .ok (.getstatic 33, 3) := by decide +kernel
theorem d_H_mixBlock_51 : decode c_H_mixBlock 51 = .ok (.bipush 7, 2) := by decide +kernel
theorem d_H_mixBlock_53 : decode c_H_mixBlock 53 = .ok (.iaload, 1) := by decide +kernel
theorem d_H_mixBlock_54 : decode c_H_mixBlock 54 = .ok (.istore 9, 2) := by decide +kernel
theorem d_H_mixBlock_56 : decode c_H_mixBlock 56 = .ok (.iconst 0, 1) := by decide +kernel
theorem d_H_mixBlock_57 : decode c_H_mixBlock 57 = .ok (.istore 10, 2) := by decide +kernel
theorem d_H_mixBlock_59 : decode c_H_mixBlock 59 = .ok (.iload 10, 2) := by decide +kernel
theorem d_H_mixBlock_61 : decode c_H_mixBlock 61 = .ok (.bipush 64, 2) := by decide +kernel
theorem d_H_mixBlock_63 : decode c_H_mixBlock 63 = .ok (.if_icmp .ge 147, 3) := by decide +kernel
theorem d_H_mixBlock_66 : decode c_H_mixBlock 66 = .ok (.iload 6, 2) := by decide +kernel
theorem d_H_mixBlock_68 : decode c_H_mixBlock 68 = .ok (.bipush 6, 2) := by decide +kernel
theorem d_H_mixBlock_70 : decode c_H_mixBlock 70 = .ok (.invokestatic 29, 3) := by decide +kernel
theorem d_H_mixBlock_73 : decode c_H_mixBlock 73 = .ok (.iload 6, 2) := by decide +kernel
theorem d_H_mixBlock_75 : decode c_H_mixBlock 75 = .ok (.bipush 11, 2) := by decide +kernel
theorem d_H_mixBlock_77 : decode c_H_mixBlock 77 = .ok (.invokestatic 29, 3) := by decide +kernel
theorem d_H_mixBlock_80 : decode c_H_mixBlock 80 = .ok (.ixor, 1) := by decide +kernel
theorem d_H_mixBlock_81 : decode c_H_mixBlock 81 = .ok (.iload 6, 2) := by decide +kernel
theorem d_H_mixBlock_83 : decode c_H_mixBlock 83 = .ok (.bipush 25, 2) := by decide +kernel
theorem d_H_mixBlock_85 : decode c_H_mixBlock 85 = .ok (.invokestatic 29, 3) := by decide +kernel
theorem d_H_mixBlock_88 : decode c_H_mixBlock 88 = .ok (.ixor, 1) := by decide +kernel
theorem d_H_mixBlock_89 : decode c_H_mixBlock 89 = .ok (.istore 11, 2) := by decide +kernel
theorem d_H_mixBlock_91 : decode c_H_mixBlock 91 = .ok (.iload 6, 2) := by decide +kernel
theorem d_H_mixBlock_93 : decode c_H_mixBlock 93 = .ok (.iload 7, 2) := by decide +kernel
theorem d_H_mixBlock_95 : decode c_H_mixBlock 95 = .ok (.iand, 1) := by decide +kernel
theorem d_H_mixBlock_96 : decode c_H_mixBlock 96 = .ok (.iload 6, 2) := by decide +kernel
theorem d_H_mixBlock_98 : decode c_H_mixBlock 98 = .ok (.iconst (-1), 1) := by decide +kernel
theorem d_H_mixBlock_99 : decode c_H_mixBlock 99 = .ok (.ixor, 1) := by decide +kernel
theorem d_H_mixBlock_100 : decode c_H_mixBlock 100 = .ok (.iload 8, 2) := by decide +kernel
theorem d_H_mixBlock_102 : decode c_H_mixBlock 102 = .ok (.iand, 1) := by decide +kernel
theorem d_H_mixBlock_103 : decode c_H_mixBlock 103 = .ok (.ixor, 1) := by decide +kernel
theorem d_H_mixBlock_104 : decode c_H_mixBlock 104 = .ok (.istore 12, 2) := by decide +kernel
theorem d_H_mixBlock_106 : decode c_H_mixBlock 106 = .ok (.iload 9, 2) := by decide +kernel
theorem d_H_mixBlock_108 : decode c_H_mixBlock 108 = .ok (.iload 11, 2) := by decide +kernel
theorem d_H_mixBlock_110 : decode c_H_mixBlock 110 = .ok (.iadd, 1) := by decide +kernel
theorem d_H_mixBlock_111 : decode c_H_mixBlock 111 = .ok (.iload 12, 2) := by decide +kernel
theorem d_H_mixBlock_113 : decode c_H_mixBlock 113 = .ok (.iadd, 1) := by decide +kernel
theorem d_H_mixBlock_114 : decode c_H_mixBlock 114 = .ok (.getstatic 36, 3) := by decide +kernel
theorem d_H_mixBlock_117 : decode c_H_mixBlock 117 = .ok (.iload 10, 2) := by decide +kernel
theorem d_H_mixBlock_119 : decode c_H_mixBlock 119 = .ok (.iaload, 1) := by decide +kernel
theorem d_H_mixBlock_120 : decode c_H_mixBlock 120 = .ok (.iadd, 1) := by decide +kernel
theorem d_H_mixBlock_121 : decode c_H_mixBlock 121 = .ok (.aload_n 0, 1) := by decide +kernel
theorem d_H_mixBlock_122 : decode c_H_mixBlock 122 = .ok (.getfield 11, 3) := by decide +kernel
theorem d_H_mixBlock_125 : decode c_H_mixBlock 125 = .ok (.iload 10, 2) := by decide +kernel
theorem d_H_mixBlock_127 : decode c_H_mixBlock 127 = .ok (.iaload, 1) := by decide +kernel
theorem d_H_mixBlock_128 : decode c_H_mixBlock 128 = .ok (.iadd, 1) := by decide +kernel
theorem d_H_mixBlock_129 : decode c_H_mixBlock 129 = .ok (.istore 13, 2) := by decide +kernel
theorem d_H_mixBlock_131 : decode c_H_mixBlock 131 = .ok (.iload_n 2, 1) := by decide +kernel
theorem d_H_mixBlock_132 : decode c_H_mixBlock 132 = .ok (.iconst 2, 1) := by decide +kernel
theorem d_H_mixBlock_133 : decode c_H_mixBlock 133 = .ok (.invokestatic 29, 3) := by decide +kernel
theorem d_H_mixBlock_136 : decode c_H_mixBlock 136 = .ok (.iload_n 2, 1) := by decide +kernel
theorem d_H_mixBlock_137 : decode c_H_mixBlock 137 = .ok (.bipush 13, 2) := by decide +kernel
theorem d_H_mixBlock_139 : decode c_H_mixBlock 139 = .ok (.invokestatic 29, 3) := by decide +kernel
theorem d_H_mixBlock_142 : decode c_H_mixBlock 142 = .ok (.ixor, 1) := by decide +kernel
theorem d_H_mixBlock_143 : decode c_H_mixBlock 143 = .ok (.iload_n 2, 1) := by decide +kernel
theorem d_H_mixBlock_144 : decode c_H_mixBlock 144 = .ok (.bipush 22, 2) := by decide +kernel
theorem d_H_mixBlock_146 : decode c_H_mixBlock 146 = .ok (.invokestatic 29, 3) := by decide +kernel
theorem d_H_mixBlock_149 : decode c_H_mixBlock 149 = .ok (.ixor, 1) := by decide +kernel
theorem d_H_mixBlock_150 : decode c_H_mixBlock 150 = .ok (.istore 14, 2) := by decide +kernel
theorem d_H_mixBlock_152 : decode c_H_mixBlock 152 = .ok (.iload_n 2, 1) := by decide +kernel
theorem d_H_mixBlock_153 : decode c_H_mixBlock 153 = .ok (.iload_n 3, 1) := by decide +kernel
theorem d_H_mixBlock_154 : decode c_H_mixBlock 154 = .ok (.iand, 1) := by decide +kernel
theorem d_H_mixBlock_155 : decode c_H_mixBlock 155 = .ok (.iload_n 2, 1) := by decide +kernel
theorem d_H_mixBlock_156 : decode c_H_mixBlock 156 = .ok (.iload 4, 2) := by decide +kernel
theorem d_H_mixBlock_158 : decode c_H_mixBlock 158 = .ok (.iand, 1) := by decide +kernel
theorem d_H_mixBlock_159 : decode c_H_mixBlock 159 = .ok (.ixor, 1) := by decide +kernel
theorem d_H_mixBlock_160 : decode c_H_mixBlock 160 = .ok (.iload_n 3, 1) := by decide +kernel
theorem d_H_mixBlock_161 : decode c_H_mixBlock 161 = .ok (.iload 4, 2) := by decide +kernel
theorem d_H_mixBlock_163 : decode c_H_mixBlock 163 = .ok (.iand, 1) := by decide +kernel
theorem d_H_mixBlock_164 : decode c_H_mixBlock 164 = .ok (.ixor, 1) := by decide +kernel
theorem d_H_mixBlock_165 : decode c_H_mixBlock 165 = .ok (.istore 15, 2) := by decide +kernel
theorem d_H_mixBlock_167 : decode c_H_mixBlock 167 = .ok (.iload 8, 2) := by decide +kernel
theorem d_H_mixBlock_169 : decode c_H_mixBlock 169 = .ok (.istore 9, 2) := by decide +kernel
theorem d_H_mixBlock_171 : decode c_H_mixBlock 171 = .ok (.iload 7, 2) := by decide +kernel
theorem d_H_mixBlock_173 : decode c_H_mixBlock 173 = .ok (.istore 8, 2) := by decide +kernel
theorem d_H_mixBlock_175 : decode c_H_mixBlock 175 = .ok (.iload 6, 2) := by decide +kernel
theorem d_H_mixBlock_177 : decode c_H_mixBlock 177 = .ok (.istore 7, 2) := by decide +kernel
theorem d_H_mixBlock_179 : decode c_H_mixBlock 179 = .ok (.iload 5, 2) := by decide +kernel
theorem d_H_mixBlock_181 : decode c_H_mixBlock 181 = .ok (.iload 13, 2) := by decide +kernel
theorem d_H_mixBlock_183 : decode c_H_mixBlock 183 = .ok (.iadd, 1) := by decide +kernel
theorem d_H_mixBlock_184 : decode c_H_mixBlock 184 = .ok (.istore 6, 2) := by decide +kernel
theorem d_H_mixBlock_186 : decode c_H_mixBlock 186 = .ok (.iload 4, 2) := by decide +kernel
theorem d_H_mixBlock_188 : decode c_H_mixBlock 188 = .ok (.istore 5, 2) := by decide +kernel
theorem d_H_mixBlock_190 : decode c_H_mixBlock 190 = .ok (.iload_n 3, 1) := by decide +kernel
theorem d_H_mixBlock_191 : decode c_H_mixBlock 191 = .ok (.istore 4, 2) := by decide +kernel
theorem d_H_mixBlock_193 : decode c_H_mixBlock 193 = .ok (.iload_n 2, 1) := by decide +kernel
theorem d_H_mixBlock_194 : decode c_H_mixBlock 194 = .ok (.istore_n 3, 1) := by decide +kernel
theorem d_H_mixBlock_195 : decode c_H_mixBlock 195 = .ok (.iload 13, 2) := by decide +kernel
theorem d_H_mixBlock_197 : decode c_H_mixBlock 197 = .ok (.iload 14, 2) := by decide +kernel
theorem d_H_mixBlock_199 : decode c_H_mixBlock 199 = .ok (.iadd, 1) := by decide +kernel
theorem d_H_mixBlock_200 : decode c_H_mixBlock 200 = .ok (.iload 15, 2) := by decide +kernel
theorem d_H_mixBlock_202 : decode c_H_mixBlock 202 = .ok (.iadd, 1) := by decide +kernel
theorem d_H_mixBlock_203 : decode c_H_mixBlock 203 = .ok (.istore_n 2, 1) := by decide +kernel
theorem d_H_mixBlock_204 : decode c_H_mixBlock 204 = .ok (.iinc 10 1, 3) := by decide +kernel
theorem d_H_mixBlock_207 : decode c_H_mixBlock 207 = .ok (.goto (-148), 3) := by decide +kernel
theorem d_H_mixBlock_210 : decode c_H_mixBlock 210 = .ok (.aload_n 1, 1) := by decide +kernel
theorem d_H_mixBlock_211 : decode c_H_mixBlock 211 = .ok (.iconst 0, 1) := by decide +kernel
theorem d_H_mixBlock_212 : decode c_H_mixBlock 212 = .ok (.getstatic 33, 3) := by decide +kernel
theorem d_H_mixBlock_215 : decode c_H_mixBlock 215 = .ok (.iconst 0, 1) := by decide +kernel
theorem d_H_mixBlock_216 : decode c_H_mixBlock 216 = .ok (.iaload, 1) := by decide +kernel
theorem d_H_mixBlock_217 : decode c_H_mixBlock 217 = .ok (.iload_n 2, 1) := by decide +kernel
theorem d_H_mixBlock_218 : decode c_H_mixBlock 218 = .ok (.iadd, 1) := by decide +kernel
theorem d_H_mixBlock_219 : decode c_H_mixBlock 219 = .ok (.iastore, 1) := by decide +kernel
theorem d_H_mixBlock_220 : decode c_H_mixBlock 220 = .ok (.aload_n 1, 1) := by decide +kernel
theorem d_H_mixBlock_221 : decode c_H_mixBlock 221 = .ok (.iconst 1, 1) := by decide +kernel
theorem d_H_mixBlock_222 : decode c_H_mixBlock 222 = .ok (.getstatic 33, 3) := by decide +kernel
theorem d_H_mixBlock_225 : decode c_H_mixBlock 225 = .ok (.iconst 1, 1) := by decide +kernel
theorem d_H_mixBlock_226 : decode c_H_mixBlock 226 = .ok (.iaload, 1) := by decide +kernel
theorem d_H_mixBlock_227 : decode c_H_mixBlock 227 = .ok (.iload_n 3, 1) := by decide +kernel
theorem d_H_mixBlock_228 : decode c_H_mixBlock 228 = .ok (.iadd, 1) := by decide +kernel
theorem d_H_mixBlock_229 : decode c_H_mixBlock 229 = .ok (.iastore, 1) := by decide +kernel
theorem d_H_mixBlock_230 : decode c_H_mixBlock 230 = .ok (.aload_n 1, 1) := by decide +kernel
theorem d_H_mixBlock_231 : decode c_H_mixBlock 231 = .ok (.iconst 2, 1) := by decide +kernel
theorem d_H_mixBlock_232 : decode c_H_mixBlock 232 = .ok (.getstatic 33, 3) := by decide +kernel
theorem d_H_mixBlock_235 : decode c_H_mixBlock 235 = .ok (.iconst 2, 1) := by decide +kernel
theorem d_H_mixBlock_236 : decode c_H_mixBlock 236 = .ok (.iaload, 1) := by decide +kernel
theorem d_H_mixBlock_237 : decode c_H_mixBlock 237 = .ok (.iload 4, 2) := by decide +kernel
theorem d_H_mixBlock_239 : decode c_H_mixBlock 239 = .ok (.iadd, 1) := by decide +kernel
theorem d_H_mixBlock_240 : decode c_H_mixBlock 240 = .ok (.iastore, 1) := by decide +kernel
theorem d_H_mixBlock_241 : decode c_H_mixBlock 241 = .ok (.aload_n 1, 1) := by decide +kernel
theorem d_H_mixBlock_242 : decode c_H_mixBlock 242 = .ok (.iconst 3, 1) := by decide +kernel
theorem d_H_mixBlock_243 : decode c_H_mixBlock 243 = .ok (.getstatic 33, 3) := by decide +kernel
theorem d_H_mixBlock_246 : decode c_H_mixBlock 246 = .ok (.iconst 3, 1) := by decide +kernel
theorem d_H_mixBlock_247 : decode c_H_mixBlock 247 = .ok (.iaload, 1) := by decide +kernel
theorem d_H_mixBlock_248 : decode c_H_mixBlock 248 = .ok (.iload 5, 2) := by decide +kernel
theorem d_H_mixBlock_250 : decode c_H_mixBlock 250 = .ok (.iadd, 1) := by decide +kernel
theorem d_H_mixBlock_251 : decode c_H_mixBlock 251 = .ok (.iastore, 1) := by decide +kernel
theorem d_H_mixBlock_252 : decode c_H_mixBlock 252 = .ok (.aload_n 1, 1) := by decide +kernel
theorem d_H_mixBlock_253 : decode c_H_mixBlock 253 = .ok (.iconst 4, 1) := by decide +kernel
theorem d_H_mixBlock_254 : decode c_H_mixBlock 254 = .ok (.getstatic 33, 3) := by decide +kernel
theorem d_H_mixBlock_257 : decode c_H_mixBlock 257 = .ok (.iconst 4, 1) := by decide +kernel
theorem d_H_mixBlock_258 : decode c_H_mixBlock 258 = .ok (.iaload, 1) := by decide +kernel
theorem d_H_mixBlock_259 : decode c_H_mixBlock 259 = .ok (.iload 6, 2) := by decide +kernel
theorem d_H_mixBlock_261 : decode c_H_mixBlock 261 = .ok (.iadd, 1) := by decide +kernel
theorem d_H_mixBlock_262 : decode c_H_mixBlock 262 = .ok (.iastore, 1) := by decide +kernel
theorem d_H_mixBlock_263 : decode c_H_mixBlock 263 = .ok (.aload_n 1, 1) := by decide +kernel
theorem d_H_mixBlock_264 : decode c_H_mixBlock 264 = .ok (.iconst 5, 1) := by decide +kernel
theorem d_H_mixBlock_265 : decode c_H_mixBlock 265 = .ok (.getstatic 33, 3) := by decide +kernel
theorem d_H_mixBlock_268 : decode c_H_mixBlock 268 = .ok (.iconst 5, 1) := by decide +kernel
theorem d_H_mixBlock_269 : decode c_H_mixBlock 269 = .ok (.iaload, 1) := by decide +kernel
theorem d_H_mixBlock_270 : decode c_H_mixBlock 270 = .ok (.iload 7, 2) := by decide +kernel
theorem d_H_mixBlock_272 : decode c_H_mixBlock 272 = .ok (.iadd, 1) := by decide +kernel
theorem d_H_mixBlock_273 : decode c_H_mixBlock 273 = .ok (.iastore, 1) := by decide +kernel
theorem d_H_mixBlock_274 : decode c_H_mixBlock 274 = .ok (.aload_n 1, 1) := by decide +kernel
theorem d_H_mixBlock_275 : decode c_H_mixBlock 275 = .ok (.bipush 6, 2) := by decide +kernel
theorem d_H_mixBlock_277 : decode c_H_mixBlock 277 = .ok (.getstatic 33, 3) := by decide +kernel
theorem d_H_mixBlock_280 : decode c_H_mixBlock 280 = .ok (.bipush 6, 2) := by decide +kernel
theorem d_H_mixBlock_282 : decode c_H_mixBlock 282 = .ok (.iaload, 1) := by decide +kernel
theorem d_H_mixBlock_283 : decode c_H_mixBlock 283 = .ok (.iload 8, 2) := by decide +kernel
theorem d_H_mixBlock_285 : decode c_H_mixBlock 285 = .ok (.iadd, 1) := by decide +kernel
theorem d_H_mixBlock_286 : decode c_H_mixBlock 286 = .ok (.iastore, 1) := by decide +kernel
theorem d_H_mixBlock_287 : decode c_H_mixBlock 287 = .ok (.aload_n 1, 1) := by decide +kernel
theorem d_H_mixBlock_288 : decode c_H_mixBlock 288 = .ok (.bipush 7, 2) := by decide +kernel
theorem d_H_mixBlock_290 : decode c_H_mixBlock 290 = .ok (.getstatic 33, 3) := by decide +kernel
theorem d_H_mixBlock_293 : decode c_H_mixBlock 293 = .ok (.bipush 7, 2) := by decide +kernel
theorem d_H_mixBlock_295 : decode c_H_mixBlock 295 = .ok (.iaload, 1) := by decide +kernel
theorem d_H_mixBlock_296 : decode c_H_mixBlock 296 = .ok (.iload 9, 2) := by decide +kernel
theorem d_H_mixBlock_298 : decode c_H_mixBlock 298 = .ok (.iadd, 1) := by decide +kernel
theorem d_H_mixBlock_299 : decode c_H_mixBlock 299 = .ok (.iastore, 1) := by decide +kernel
theorem d_H_mixBlock_300 : decode c_H_mixBlock 300 = .ok (.return_, 1) := by decide +kernel
abbrev c_H_turnRight : ByteArray := prog_6_method_6_code
abbrev y_H_turnRight : MethodName := ⟨"BlobStore$Sha256", "turnRight", "(II)I"⟩
theorem i_H_turnRight : bIs y_H_turnRight 2 := Or.inl ⟨_, _, t2_18⟩
theorem d_H_turnRight_0 : decode c_H_turnRight 0 = .ok (.iload_n 0, 1) := by decide +kernel
theorem d_H_turnRight_1 : decode c_H_turnRight 1 = .ok (.iload_n 1, 1) := by decide +kernel
theorem d_H_turnRight_2 : decode c_H_turnRight 2 = .ok (.iushr, 1) := by decide +kernel
theorem d_H_turnRight_3 : decode c_H_turnRight 3 = .ok (.iload_n 0, 1) := by decide +kernel
theorem d_H_turnRight_4 : decode c_H_turnRight 4 = .ok (.bipush 32, 2) := by decide +kernel
theorem d_H_turnRight_6 : decode c_H_turnRight 6 = .ok (.iload_n 1, 1) := by decide +kernel
theorem d_H_turnRight_7 : decode c_H_turnRight 7 = .ok (.isub, 1) := by decide +kernel
theorem d_H_turnRight_8 : decode c_H_turnRight 8 = .ok (.ishl, 1) := by decide +kernel
theorem d_H_turnRight_9 : decode c_H_turnRight 9 = .ok (.ior, 1) := by decide +kernel
theorem d_H_turnRight_10 : decode c_H_turnRight 10 = .ok (.ireturn, 1) := by decide +kernel
end
section
abbrev c_B_init : ByteArray := prog_1_method_1_code
abbrev y_B_init : MethodName := ⟨"BlobStore", "<init>", "()V"⟩
theorem i_B_init : bIs y_B_init 2 := Or.inl ⟨_, _, t1_24⟩
theorem d_B_init_0 : decode c_B_init 0 = .ok (.aload_n 0, 1) := by decide +kernel
theorem d_B_init_1 : decode c_B_init 1 = .ok (.invokespecial 3, 3) := by decide +kernel
theorem d_B_init_4 : decode c_B_init 4 = .ok (.aload_n 0, 1) := by decide +kernel
theorem d_B_init_5 : decode c_B_init 5 = .ok (.new 9, 3) := by decide +kernel
theorem d_B_init_8 : decode c_B_init 8 = .ok (.dup, 1) := by decide +kernel
theorem d_B_init_9 : decode c_B_init 9 = .ok (.invokespecial 11, 3) := by decide +kernel
theorem d_B_init_12 : decode c_B_init 12 = .ok (.putfield 12, 3) := by decide +kernel
theorem d_B_init_15 : decode c_B_init 15 = .ok (.aload_n 0, 1) := by decide +kernel
theorem d_B_init_16 : decode c_B_init 16 = .ok (.new 16, 3) := by decide +kernel
theorem d_B_init_19 : decode c_B_init 19 = .ok (.dup, 1) := by decide +kernel
theorem d_B_init_20 : decode c_B_init 20 = .ok (.invokespecial 18, 3) := by decide +kernel
theorem d_B_init_23 : decode c_B_init 23 = .ok (.putfield 19, 3) := by decide +kernel
theorem d_B_init_26 : decode c_B_init 26 = .ok (.aload_n 0, 1) := by decide +kernel
theorem d_B_init_27 : decode c_B_init 27 = .ok (.bipush 48, 2) := by decide +kernel
theorem d_B_init_29 : decode c_B_init 29 = .ok (.anewarray 23, 3) := by decide +kernel
theorem d_B_init_32 : decode c_B_init 32 = .ok (.putfield 25, 3) := by decide +kernel
theorem d_B_init_35 : decode c_B_init 35 = .ok (.aload_n 0, 1) := by decide +kernel
theorem d_B_init_36 : decode c_B_init 36 = .ok (.iconst 5, 1) := by decide +kernel
theorem d_B_init_37 : decode c_B_init 37 = .ok (.anewarray 29, 3) := by decide +kernel
theorem d_B_init_40 : decode c_B_init 40 = .ok (.putfield 31, 3) := by decide +kernel
theorem d_B_init_43 : decode c_B_init 43 = .ok (.aload_n 0, 1) := by decide +kernel
theorem d_B_init_44 : decode c_B_init 44 = .ok (.bipush 40, 2) := by decide +kernel
theorem d_B_init_46 : decode c_B_init 46 = .ok (.anewarray 35, 3) := by decide +kernel
theorem d_B_init_49 : decode c_B_init 49 = .ok (.putfield 37, 3) := by decide +kernel
theorem d_B_init_52 : decode c_B_init 52 = .ok (.aload_n 0, 1) := by decide +kernel
theorem d_B_init_53 : decode c_B_init 53 = .ok (.iconst 0, 1) := by decide +kernel
theorem d_B_init_54 : decode c_B_init 54 = .ok (.putfield 41, 3) := by decide +kernel
theorem d_B_init_57 : decode c_B_init 57 = .ok (.aload_n 0, 1) := by decide +kernel
theorem d_B_init_58 : decode c_B_init 58 = .ok (.iconst 3, 1) := by decide +kernel
theorem d_B_init_59 : decode c_B_init 59 = .ok (.anewarray 23, 3) := by decide +kernel
theorem d_B_init_62 : decode c_B_init 62 = .ok (.putfield 45, 3) := by decide +kernel
theorem d_B_init_65 : decode c_B_init 65 = .ok (.aload_n 0, 1) := by decide +kernel
theorem d_B_init_66 : decode c_B_init 66 = .ok (.new 48, 3) := by decide +kernel
theorem d_B_init_69 : decode c_B_init 69 = .ok (.dup, 1) := by decide +kernel
theorem d_B_init_70 : decode c_B_init 70 = .ok (.iconst 3, 1) := by decide +kernel
theorem d_B_init_71 : decode c_B_init 71 = .ok (.invokespecial 50, 3) := by decide +kernel
theorem d_B_init_74 : decode c_B_init 74 = .ok (.putfield 53, 3) := by decide +kernel
theorem d_B_init_77 : decode c_B_init 77 = .ok (.aload_n 0, 1) := by decide +kernel
theorem d_B_init_78 : decode c_B_init 78 = .ok (.new 23, 3) := by decide +kernel
theorem d_B_init_81 : decode c_B_init 81 = .ok (.dup, 1) := by decide +kernel
theorem d_B_init_82 : decode c_B_init 82 = .ok (.invokespecial 57, 3) := by decide +kernel
theorem d_B_init_85 : decode c_B_init 85 = .ok (.putfield 58, 3) := by decide +kernel
theorem d_B_init_88 : decode c_B_init 88 = .ok (.aload_n 0, 1) := by decide +kernel
theorem d_B_init_89 : decode c_B_init 89 = .ok (.bipush 48, 2) := by decide +kernel
theorem d_B_init_91 : decode c_B_init 91 = .ok (.newarray .int, 2) := by decide +kernel
theorem d_B_init_93 : decode c_B_init 93 = .ok (.putfield 62, 3) := by decide +kernel
theorem d_B_init_96 : decode c_B_init 96 = .ok (.iconst 0, 1) := by decide +kernel
theorem d_B_init_97 : decode c_B_init 97 = .ok (.istore_n 1, 1) := by decide +kernel
theorem d_B_init_98 : decode c_B_init 98 = .ok (.iload_n 1, 1) := by decide +kernel
theorem d_B_init_99 : decode c_B_init 99 = .ok (.bipush 48, 2) := by decide +kernel
theorem d_B_init_101 : decode c_B_init 101 = .ok (.if_icmp .ge 22, 3) := by decide +kernel
theorem d_B_init_104 : decode c_B_init 104 = .ok (.aload_n 0, 1) := by decide +kernel
theorem d_B_init_105 : decode c_B_init 105 = .ok (.getfield 25, 3) := by decide +kernel
theorem d_B_init_108 : decode c_B_init 108 = .ok (.iload_n 1, 1) := by decide +kernel
theorem d_B_init_109 : decode c_B_init 109 = .ok (.new 23, 3) := by decide +kernel
theorem d_B_init_112 : decode c_B_init 112 = .ok (.dup, 1) := by decide +kernel
theorem d_B_init_113 : decode c_B_init 113 = .ok (.invokespecial 57, 3) := by decide +kernel
theorem d_B_init_116 : decode c_B_init 116 = .ok (.aastore, 1) := by decide +kernel
theorem d_B_init_117 : decode c_B_init 117 = .ok (.iinc 1 1, 3) := by decide +kernel
theorem d_B_init_120 : decode c_B_init 120 = .ok (.goto (-22), 3) := by decide +kernel
theorem d_B_init_123 : decode c_B_init 123 = .ok (.iconst 0, 1) := by decide +kernel
theorem d_B_init_124 : decode c_B_init 124 = .ok (.istore_n 1, 1) := by decide +kernel
theorem d_B_init_125 : decode c_B_init 125 = .ok (.iload_n 1, 1) := by decide +kernel
theorem d_B_init_126 : decode c_B_init 126 = .ok (.iconst 5, 1) := by decide +kernel
theorem d_B_init_127 : decode c_B_init 127 = .ok (.if_icmp .ge 22, 3) := by decide +kernel
theorem d_B_init_130 : decode c_B_init 130 = .ok (.aload_n 0, 1) := by decide +kernel
theorem d_B_init_131 : decode c_B_init 131 = .ok (.getfield 31, 3) := by decide +kernel
theorem d_B_init_134 : decode c_B_init 134 = .ok (.iload_n 1, 1) := by decide +kernel
theorem d_B_init_135 : decode c_B_init 135 = .ok (.new 29, 3) := by decide +kernel
theorem d_B_init_138 : decode c_B_init 138 = .ok (.dup, 1) := by decide +kernel
theorem d_B_init_139 : decode c_B_init 139 = .ok (.invokespecial 66, 3) := by decide +kernel
theorem d_B_init_142 : decode c_B_init 142 = .ok (.aastore, 1) := by decide +kernel
theorem d_B_init_143 : decode c_B_init 143 = .ok (.iinc 1 1, 3) := by decide +kernel
theorem d_B_init_146 : decode c_B_init 146 = .ok (.goto (-21), 3) := by decide +kernel
theorem d_B_init_149 : decode c_B_init 149 = .ok (.iconst 0, 1) := by decide +kernel
theorem d_B_init_150 : decode c_B_init 150 = .ok (.istore_n 1, 1) := by decide +kernel
theorem d_B_init_151 : decode c_B_init 151 = .ok (.iload_n 1, 1) := by decide +kernel
theorem d_B_init_152 : decode c_B_init 152 = .ok (.bipush 40, 2) := by decide +kernel
theorem d_B_init_154 : decode c_B_init 154 = .ok (.if_icmp .ge 22, 3) := by decide +kernel
theorem d_B_init_157 : decode c_B_init 157 = .ok (.aload_n 0, 1) := by decide +kernel
theorem d_B_init_158 : decode c_B_init 158 = .ok (.getfield 37, 3) := by decide +kernel
theorem d_B_init_161 : decode c_B_init 161 = .ok (.iload_n 1, 1) := by decide +kernel
theorem d_B_init_162 : decode c_B_init 162 = .ok (.new 35, 3) := by decide +kernel
theorem d_B_init_165 : decode c_B_init 165 = .ok (.dup, 1) := by decide +kernel
theorem d_B_init_166 : decode c_B_init 166 = .ok (.invokespecial 67, 3) := by decide +kernel
theorem d_B_init_169 : decode c_B_init 169 = .ok (.aastore, 1) := by decide +kernel
theorem d_B_init_170 : decode c_B_init 170 = .ok (.iinc 1 1, 3) := by decide +kernel
theorem d_B_init_173 : decode c_B_init 173 = .ok (.goto (-22), 3) := by decide +kernel
theorem d_B_init_176 : decode c_B_init 176 = .ok (.iconst 0, 1) := by decide +kernel
theorem d_B_init_177 : decode c_B_init 177 = .ok (.istore_n 1, 1) := by decide +kernel
theorem d_B_init_178 : decode c_B_init 178 = .ok (.iload_n 1, 1) := by decide +kernel
theorem d_B_init_179 : decode c_B_init 179 = .ok (.iconst 3, 1) := by decide +kernel
theorem d_B_init_180 : decode c_B_init 180 = .ok (.if_icmp .ge 22, 3) := by decide +kernel
theorem d_B_init_183 : decode c_B_init 183 = .ok (.aload_n 0, 1) := by decide +kernel
theorem d_B_init_184 : decode c_B_init 184 = .ok (.getfield 45, 3) := by decide +kernel
theorem d_B_init_187 : decode c_B_init 187 = .ok (.iload_n 1, 1) := by decide +kernel
theorem d_B_init_188 : decode c_B_init 188 = .ok (.new 23, 3) := by decide +kernel
theorem d_B_init_191 : decode c_B_init 191 = .ok (.dup, 1) := by decide +kernel
theorem d_B_init_192 : decode c_B_init 192 = .ok (.invokespecial 57, 3) := by decide +kernel
theorem d_B_init_195 : decode c_B_init 195 = .ok (.aastore, 1) := by decide +kernel
theorem d_B_init_196 : decode c_B_init 196 = .ok (.iinc 1 1, 3) := by decide +kernel
theorem d_B_init_199 : decode c_B_init 199 = .ok (.goto (-21), 3) := by decide +kernel
theorem d_B_init_202 : decode c_B_init 202 = .ok (.return_, 1) := by decide +kernel
abbrev c_B_begin : ByteArray := prog_1_method_2_code
abbrev y_B_begin : MethodName := ⟨"BlobStore", "begin", "(II)I"⟩
theorem i_B_begin : bIs y_B_begin 4 := Or.inl ⟨_, _, t2_60⟩
theorem d_B_begin_0 : decode c_B_begin 0 = .ok (.aload_n 0, 1) := by decide +kernel
theorem d_B_begin_1 : decode c_B_begin 1 = .ok (.getfield 12, 3) := by decide +kernel
theorem d_B_begin_4 : decode c_B_begin 4 = .ok (.invokevirtual 68, 3) := by decide +kernel
theorem d_B_begin_7 : decode c_B_begin 7 = .ok (.aload_n 0, 1) := by decide +kernel
theorem d_B_begin_8 : decode c_B_begin 8 = .ok (.invokevirtual 71, 3) := by decide +kernel
theorem d_B_begin_11 : decode c_B_begin 11 = .ok (.istore_n 3, 1) := by decide +kernel
theorem d_B_begin_12 : decode c_B_begin 12 = .ok (.iload_n 3, 1) := by decide +kernel
theorem d_B_begin_13 : decode c_B_begin 13 = .ok (.ifCond .ge 13, 3) := by decide +kernel
theorem d_B_begin_16 : decode c_B_begin 16 = .ok (.new 75, 3) := by decide +kernel
theorem d_B_begin_19 : decode c_B_begin 19 = .ok (.dup, 1) := by decide +kernel
theorem d_B_begin_20 : decode c_B_begin 20 = .ok (.ldc 77, 2) := by decide +kernel
theorem d_B_begin_22 : decode c_B_begin 22 = .ok (.invokespecial 79, 3) := by decide +kernel
theorem d_B_begin_25 : decode c_B_begin 25 = .ok (.athrow, 1) := by decide +kernel
theorem d_B_begin_26 : decode c_B_begin 26 = .ok (.iload_n 1, 1) := by decide +kernel
theorem d_B_begin_27 : decode c_B_begin 27 = .ok (.ifCond .lt 18, 3) := by decide +kernel
theorem d_B_begin_30 : decode c_B_begin 30 = .ok (.iload_n 1, 1) := by decide +kernel
theorem d_B_begin_31 : decode c_B_begin 31 = .ok (.iconst 4, 1) := by decide +kernel
theorem d_B_begin_32 : decode c_B_begin 32 = .ok (.if_icmp .ge 13, 3) := by decide +kernel
theorem d_B_begin_35 : decode c_B_begin 35 = .ok (.iload_n 2, 1) := by decide +kernel
theorem d_B_begin_36 : decode c_B_begin 36 = .ok (.ifCond .lt 9, 3) := by decide +kernel
theorem d_B_begin_39 : decode c_B_begin 39 = .ok (.iload_n 2, 1) := by decide +kernel
theorem d_B_begin_40 : decode c_B_begin 40 = .ok (.bipush 8, 2) := by decide +kernel
theorem d_B_begin_42 : decode c_B_begin 42 = .ok (.if_icmp .lt 13, 3) := by decide +kernel
theorem d_B_begin_45 : decode c_B_begin 45 = .ok (.new 82, 3) := by decide +kernel
theorem d_B_begin_48 : decode c_B_begin 48 = .ok (.dup, 1) := by decide +kernel
theorem d_B_begin_49 : decode c_B_begin 49 = .ok (.ldc 84, 2) := by decide +kernel
theorem d_B_begin_51 : decode c_B_begin 51 = .ok (.invokespecial 86, 3) := by decide +kernel
theorem d_B_begin_54 : decode c_B_begin 54 = .ok (.athrow, 1) := by decide +kernel
theorem d_B_begin_55 : decode c_B_begin 55 = .ok (.aload_n 0, 1) := by decide +kernel
theorem d_B_begin_56 : decode c_B_begin 56 = .ok (.getfield 12, 3) := by decide +kernel
theorem d_B_begin_59 : decode c_B_begin 59 = .ok (.invokevirtual 87, 3) := by decide +kernel
theorem d_B_begin_62 : decode c_B_begin 62 = .ok (.aload_n 0, 1) := by decide +kernel
theorem d_B_begin_63 : decode c_B_begin 63 = .ok (.getfield 31, 3) := by decide +kernel
theorem d_B_begin_66 : decode c_B_begin 66 = .ok (.iload_n 3, 1) := by decide +kernel
theorem d_B_begin_67 : decode c_B_begin 67 = .ok (.aaload, 1) := by decide +kernel
theorem d_B_begin_68 : decode c_B_begin 68 = .ok (.iload_n 1, 1) := by decide +kernel
theorem d_B_begin_69 : decode c_B_begin 69 = .ok (.iload_n 2, 1) := by decide +kernel
theorem d_B_begin_70 : decode c_B_begin 70 = .ok (.invokevirtual 90, 3) := by decide +kernel
theorem d_B_begin_73 : decode c_B_begin 73 = .ok (.iload_n 3, 1) := by decide +kernel
theorem d_B_begin_74 : decode c_B_begin 74 = .ok (.ireturn, 1) := by decide +kernel
abbrev c_B_part : ByteArray := prog_1_method_3_code
abbrev y_B_part : MethodName := ⟨"BlobStore", "part", "(IIIJJJ)I"⟩
theorem i_B_part : bIs y_B_part 13 := Or.inl ⟨_, _, t2_189⟩
theorem d_B_part_0 : decode c_B_part 0 = .ok (.aload_n 0, 1) := by decide +kernel
theorem d_B_part_1 : decode c_B_part 1 = .ok (.getfield 12, 3) := by decide +kernel
theorem d_B_part_4 : decode c_B_part 4 = .ok (.invokevirtual 68, 3) := by decide +kernel
theorem d_B_part_7 : decode c_B_part 7 = .ok (.aload_n 0, 1) := by decide +kernel
theorem d_B_part_8 : decode c_B_part 8 = .ok (.iload_n 1, 1) := by decide +kernel
theorem d_B_part_9 : decode c_B_part 9 = .ok (.invokevirtual 94, 3) := by decide +kernel
theorem d_B_part_12 : decode c_B_part 12 = .ok (.astore 10, 2) := by decide +kernel
theorem d_B_part_14 : decode c_B_part 14 = .ok (.iload_n 2, 1) := by decide +kernel
theorem d_B_part_15 : decode c_B_part 15 = .ok (.iconst 1, 1) := by decide +kernel
theorem d_B_part_16 : decode c_B_part 16 = .ok (.if_icmp .lt 19, 3) := by decide +kernel
theorem d_B_part_19 : decode c_B_part 19 = .ok (.iload_n 2, 1) := by decide +kernel
theorem d_B_part_20 : decode c_B_part 20 = .ok (.bipush 6, 2) := by decide +kernel
theorem d_B_part_22 : decode c_B_part 22 = .ok (.if_icmp .gt 13, 3) := by decide +kernel
theorem d_B_part_25 : decode c_B_part 25 = .ok (.iload_n 3, 1) := by decide +kernel
theorem d_B_part_26 : decode c_B_part 26 = .ok (.ifCond .lt 9, 3) := by decide +kernel
theorem d_B_part_29 : decode c_B_part 29 = .ok (.iload_n 3, 1) := by decide +kernel
theorem d_B_part_30 : decode c_B_part 30 = .ok (.bipush 24, 2) := by decide +kernel
theorem d_B_part_32 : decode c_B_part 32 = .ok (.if_icmp .le 13, 3) := by decide +kernel
theorem d_B_part_35 : decode c_B_part 35 = .ok (.new 82, 3) := by decide +kernel
theorem d_B_part_38 : decode c_B_part 38 = .ok (.dup, 1) := by decide +kernel
theorem d_B_part_39 : decode c_B_part 39 = .ok (.ldc 98, 2) := by decide +kernel
theorem d_B_part_41 : decode c_B_part 41 = .ok (.invokespecial 86, 3) := by decide +kernel
theorem d_B_part_44 : decode c_B_part 44 = .ok (.athrow, 1) := by decide +kernel
theorem d_B_part_45 : decode c_B_part 45 = .ok (.aload_n 0, 1) := by decide +kernel
theorem d_B_part_46 : decode c_B_part 46 = .ok (.iload_n 3, 1) := by decide +kernel
theorem d_B_part_47 : decode c_B_part 47 = .ok (.lload 4, 2) := by decide +kernel
theorem d_B_part_49 : decode c_B_part 49 = .ok (.lload 6, 2) := by decide +kernel
theorem d_B_part_51 : decode c_B_part 51 = .ok (.lload 8, 2) := by decide +kernel
theorem d_B_part_53 : decode c_B_part 53 = .ok (.invokevirtual 100, 3) := by decide +kernel
theorem d_B_part_56 : decode c_B_part 56 = .ok (.istore 11, 2) := by decide +kernel
theorem d_B_part_58 : decode c_B_part 58 = .ok (.aload_n 0, 1) := by decide +kernel
theorem d_B_part_59 : decode c_B_part 59 = .ok (.iload 11, 2) := by decide +kernel
theorem d_B_part_61 : decode c_B_part 61 = .ok (.invokevirtual 104, 3) := by decide +kernel
theorem d_B_part_64 : decode c_B_part 64 = .ok (.aload_n 0, 1) := by decide +kernel
theorem d_B_part_65 : decode c_B_part 65 = .ok (.iload 11, 2) := by decide +kernel
theorem d_B_part_67 : decode c_B_part 67 = .ok (.invokevirtual 107, 3) := by decide +kernel
theorem d_B_part_70 : decode c_B_part 70 = .ok (.istore 12, 2) := by decide +kernel
theorem d_B_part_72 : decode c_B_part 72 = .ok (.aload_n 0, 1) := by decide +kernel
theorem d_B_part_73 : decode c_B_part 73 = .ok (.getfield 12, 3) := by decide +kernel
theorem d_B_part_76 : decode c_B_part 76 = .ok (.invokevirtual 87, 3) := by decide +kernel
theorem d_B_part_79 : decode c_B_part 79 = .ok (.aload 10, 2) := by decide +kernel
theorem d_B_part_81 : decode c_B_part 81 = .ok (.getfield 111, 3) := by decide +kernel
theorem d_B_part_84 : decode c_B_part 84 = .ok (.iload_n 2, 1) := by decide +kernel
theorem d_B_part_85 : decode c_B_part 85 = .ok (.iconst 1, 1) := by decide +kernel
theorem d_B_part_86 : decode c_B_part 86 = .ok (.isub, 1) := by decide +kernel
theorem d_B_part_87 : decode c_B_part 87 = .ok (.aaload, 1) := by decide +kernel
theorem d_B_part_88 : decode c_B_part 88 = .ok (.aload_n 0, 1) := by decide +kernel
theorem d_B_part_89 : decode c_B_part 89 = .ok (.getfield 53, 3) := by decide +kernel
theorem d_B_part_92 : decode c_B_part 92 = .ok (.invokevirtual 115, 3) := by decide +kernel
theorem d_B_part_95 : decode c_B_part 95 = .ok (.iload 12, 2) := by decide +kernel
theorem d_B_part_97 : decode c_B_part 97 = .ok (.ireturn, 1) := by decide +kernel
abbrev c_B_complete : ByteArray := prog_1_method_4_code
abbrev y_B_complete : MethodName := ⟨"BlobStore", "complete", "(I)I"⟩
theorem i_B_complete : bIs y_B_complete 3 := Or.inl ⟨_, _, t3_21⟩
theorem d_B_complete_0 : decode c_B_complete 0 = .ok (.aload_n 0, 1) := by decide +kernel
theorem d_B_complete_1 : decode c_B_complete 1 = .ok (.getfield 12, 3) := by decide +kernel
theorem d_B_complete_4 : decode c_B_complete 4 = .ok (.invokevirtual 68, 3) := by decide +kernel
theorem d_B_complete_7 : decode c_B_complete 7 = .ok (.aload_n 0, 1) := by decide +kernel
theorem d_B_complete_8 : decode c_B_complete 8 = .ok (.getfield 41, 3) := by decide +kernel
theorem d_B_complete_11 : decode c_B_complete 11 = .ok (.bipush 40, 2) := by decide +kernel
theorem d_B_complete_13 : decode c_B_complete 13 = .ok (.if_icmp .lt 13, 3) := by decide +kernel
theorem d_B_complete_16 : decode c_B_complete 16 = .ok (.new 75, 3) := by decide +kernel
theorem d_B_complete_19 : decode c_B_complete 19 = .ok (.dup, 1) := by decide +kernel
theorem d_B_complete_20 : decode c_B_complete 20 = .ok (.ldc 119, 2) := by decide +kernel
theorem d_B_complete_22 : decode c_B_complete 22 = .ok (.invokespecial 79, 3) := by decide +kernel
theorem d_B_complete_25 : decode c_B_complete 25 = .ok (.athrow, 1) := by decide +kernel
theorem d_B_complete_26 : decode c_B_complete 26 = .ok (.aload_n 0, 1) := by decide +kernel
theorem d_B_complete_27 : decode c_B_complete 27 = .ok (.iload_n 1, 1) := by decide +kernel
theorem d_B_complete_28 : decode c_B_complete 28 = .ok (.invokevirtual 94, 3) := by decide +kernel
theorem d_B_complete_31 : decode c_B_complete 31 = .ok (.astore_n 2, 1) := by decide +kernel
theorem d_B_complete_32 : decode c_B_complete 32 = .ok (.aload_n 0, 1) := by decide +kernel
theorem d_B_complete_33 : decode c_B_complete 33 = .ok (.getfield 12, 3) := by decide +kernel
theorem d_B_complete_36 : decode c_B_complete 36 = .ok (.invokevirtual 87, 3) := by decide +kernel
theorem d_B_complete_39 : decode c_B_complete 39 = .ok (.aload_n 0, 1) := by decide +kernel
theorem d_B_complete_40 : decode c_B_complete 40 = .ok (.getfield 37, 3) := by decide +kernel
theorem d_B_complete_43 : decode c_B_complete 43 = .ok (.aload_n 0, 1) := by decide +kernel
theorem d_B_complete_44 : decode c_B_complete 44 = .ok (.getfield 41, 3) := by decide +kernel
theorem d_B_complete_47 : decode c_B_complete 47 = .ok (.aaload, 1) := by decide +kernel
theorem d_B_complete_48 : decode c_B_complete 48 = .ok (.aload_n 2, 1) := by decide +kernel
theorem d_B_complete_49 : decode c_B_complete 49 = .ok (.invokevirtual 121, 3) := by decide +kernel
theorem d_B_complete_52 : decode c_B_complete 52 = .ok (.aload_n 0, 1) := by decide +kernel
theorem d_B_complete_53 : decode c_B_complete 53 = .ok (.dup, 1) := by decide +kernel
theorem d_B_complete_54 : decode c_B_complete 54 = .ok (.getfield 41, 3) := by decide +kernel
theorem d_B_complete_57 : decode c_B_complete 57 = .ok (.iconst 1, 1) := by decide +kernel
theorem d_B_complete_58 : decode c_B_complete 58 = .ok (.iadd, 1) := by decide +kernel
theorem d_B_complete_59 : decode c_B_complete 59 = .ok (.putfield 41, 3) := by decide +kernel
theorem d_B_complete_62 : decode c_B_complete 62 = .ok (.aload_n 2, 1) := by decide +kernel
theorem d_B_complete_63 : decode c_B_complete 63 = .ok (.iconst 0, 1) := by decide +kernel
theorem d_B_complete_64 : decode c_B_complete 64 = .ok (.putfield 125, 3) := by decide +kernel
theorem d_B_complete_67 : decode c_B_complete 67 = .ok (.aload_n 0, 1) := by decide +kernel
theorem d_B_complete_68 : decode c_B_complete 68 = .ok (.getfield 41, 3) := by decide +kernel
theorem d_B_complete_71 : decode c_B_complete 71 = .ok (.ireturn, 1) := by decide +kernel
abbrev c_B_abort : ByteArray := prog_1_method_5_code
abbrev y_B_abort : MethodName := ⟨"BlobStore", "abort", "(I)V"⟩
theorem i_B_abort : bIs y_B_abort 3 := Or.inl ⟨_, _, t3_34⟩
theorem d_B_abort_0 : decode c_B_abort 0 = .ok (.aload_n 0, 1) := by decide +kernel
theorem d_B_abort_1 : decode c_B_abort 1 = .ok (.getfield 12, 3) := by decide +kernel
theorem d_B_abort_4 : decode c_B_abort 4 = .ok (.invokevirtual 68, 3) := by decide +kernel
theorem d_B_abort_7 : decode c_B_abort 7 = .ok (.aload_n 0, 1) := by decide +kernel
theorem d_B_abort_8 : decode c_B_abort 8 = .ok (.iload_n 1, 1) := by decide +kernel
theorem d_B_abort_9 : decode c_B_abort 9 = .ok (.invokevirtual 94, 3) := by decide +kernel
theorem d_B_abort_12 : decode c_B_abort 12 = .ok (.astore_n 2, 1) := by decide +kernel
theorem d_B_abort_13 : decode c_B_abort 13 = .ok (.aload_n 0, 1) := by decide +kernel
theorem d_B_abort_14 : decode c_B_abort 14 = .ok (.getfield 12, 3) := by decide +kernel
theorem d_B_abort_17 : decode c_B_abort 17 = .ok (.invokevirtual 87, 3) := by decide +kernel
theorem d_B_abort_20 : decode c_B_abort 20 = .ok (.aload_n 2, 1) := by decide +kernel
theorem d_B_abort_21 : decode c_B_abort 21 = .ok (.iconst 0, 1) := by decide +kernel
theorem d_B_abort_22 : decode c_B_abort 22 = .ok (.putfield 125, 3) := by decide +kernel
theorem d_B_abort_25 : decode c_B_abort 25 = .ok (.return_, 1) := by decide +kernel
abbrev c_B_delete : ByteArray := prog_1_method_6_code
abbrev y_B_delete : MethodName := ⟨"BlobStore", "delete", "(I)Z"⟩
theorem i_B_delete : bIs y_B_delete 3 := Or.inl ⟨_, _, t3_41⟩
theorem d_B_delete_0 : decode c_B_delete 0 = .ok (.aload_n 0, 1) := by decide +kernel
theorem d_B_delete_1 : decode c_B_delete 1 = .ok (.getfield 12, 3) := by decide +kernel
theorem d_B_delete_4 : decode c_B_delete 4 = .ok (.invokevirtual 68, 3) := by decide +kernel
theorem d_B_delete_7 : decode c_B_delete 7 = .ok (.aload_n 0, 1) := by decide +kernel
theorem d_B_delete_8 : decode c_B_delete 8 = .ok (.iload_n 1, 1) := by decide +kernel
theorem d_B_delete_9 : decode c_B_delete 9 = .ok (.invokevirtual 129, 3) := by decide +kernel
theorem d_B_delete_12 : decode c_B_delete 12 = .ok (.astore_n 2, 1) := by decide +kernel
theorem d_B_delete_13 : decode c_B_delete 13 = .ok (.aload_n 2, 1) := by decide +kernel
theorem d_B_delete_14 : decode c_B_delete 14 = .ok (.ifnonnull 5, 3) := by decide +kernel
theorem d_B_delete_17 : decode c_B_delete 17 = .ok (.iconst 0, 1) := by decide +kernel
theorem d_B_delete_18 : decode c_B_delete 18 = .ok (.ireturn, 1) := by decide +kernel
theorem d_B_delete_19 : decode c_B_delete 19 = .ok (.aload_n 0, 1) := by decide +kernel
theorem d_B_delete_20 : decode c_B_delete 20 = .ok (.getfield 12, 3) := by decide +kernel
theorem d_B_delete_23 : decode c_B_delete 23 = .ok (.invokevirtual 87, 3) := by decide +kernel
theorem d_B_delete_26 : decode c_B_delete 26 = .ok (.aload_n 2, 1) := by decide +kernel
theorem d_B_delete_27 : decode c_B_delete 27 = .ok (.iconst 0, 1) := by decide +kernel
theorem d_B_delete_28 : decode c_B_delete 28 = .ok (.putfield 133, 3) := by decide +kernel
theorem d_B_delete_31 : decode c_B_delete 31 = .ok (.iconst 1, 1) := by decide +kernel
theorem d_B_delete_32 : decode c_B_delete 32 = .ok (.ireturn, 1) := by decide +kernel
abbrev c_B_collect : ByteArray := prog_1_method_7_code
abbrev y_B_collect : MethodName := ⟨"BlobStore", "collect", "()I"⟩
theorem i_B_collect : bIs y_B_collect 3 := Or.inl ⟨_, _, t3_48⟩
theorem d_B_collect_0 : decode c_B_collect 0 = .ok (.aload_n 0, 1) := by decide +kernel
theorem d_B_collect_1 : decode c_B_collect 1 = .ok (.getfield 12, 3) := by decide +kernel
theorem d_B_collect_4 : decode c_B_collect 4 = .ok (.invokevirtual 68, 3) := by decide +kernel
theorem d_B_collect_7 : decode c_B_collect 7 = .ok (.aload_n 0, 1) := by decide +kernel
theorem d_B_collect_8 : decode c_B_collect 8 = .ok (.invokevirtual 136, 3) := by decide +kernel
theorem d_B_collect_11 : decode c_B_collect 11 = .ok (.iconst 0, 1) := by decide +kernel
theorem d_B_collect_12 : decode c_B_collect 12 = .ok (.istore_n 1, 1) := by decide +kernel
theorem d_B_collect_13 : decode c_B_collect 13 = .ok (.iconst 0, 1) := by decide +kernel
theorem d_B_collect_14 : decode c_B_collect 14 = .ok (.istore_n 2, 1) := by decide +kernel
theorem d_B_collect_15 : decode c_B_collect 15 = .ok (.iload_n 2, 1) := by decide +kernel
theorem d_B_collect_16 : decode c_B_collect 16 = .ok (.bipush 48, 2) := by decide +kernel
theorem d_B_collect_18 : decode c_B_collect 18 = .ok (.if_icmp .ge 49, 3) := by decide +kernel
theorem d_B_collect_21 : decode c_B_collect 21 = .ok (.aload_n 0, 1) := by decide +kernel
theorem d_B_collect_22 : decode c_B_collect 22 = .ok (.getfield 25, 3) := by decide +kernel
theorem d_B_collect_25 : decode c_B_collect 25 = .ok (.iload_n 2, 1) := by decide +kernel
theorem d_B_collect_26 : decode c_B_collect 26 = .ok (.aaload, 1) := by decide +kernel
theorem d_B_collect_27 : decode c_B_collect 27 = .ok (.invokevirtual 139, 3) := by decide +kernel
theorem d_B_collect_30 : decode c_B_collect 30 = .ok (.ifCond .ne 31, 3) := by decide +kernel
theorem d_B_collect_33 : decode c_B_collect 33 = .ok (.aload_n 0, 1) := by decide +kernel
theorem d_B_collect_34 : decode c_B_collect 34 = .ok (.getfield 62, 3) := by decide +kernel
theorem d_B_collect_37 : decode c_B_collect 37 = .ok (.iload_n 2, 1) := by decide +kernel
theorem d_B_collect_38 : decode c_B_collect 38 = .ok (.iaload, 1) := by decide +kernel
theorem d_B_collect_39 : decode c_B_collect 39 = .ok (.ifCond .ne 22, 3) := by decide +kernel
theorem d_B_collect_42 : decode c_B_collect 42 = .ok (.aload_n 0, 1) := by decide +kernel
theorem d_B_collect_43 : decode c_B_collect 43 = .ok (.getfield 12, 3) := by decide +kernel
theorem d_B_collect_46 : decode c_B_collect 46 = .ok (.invokevirtual 87, 3) := by decide +kernel
theorem d_B_collect_49 : decode c_B_collect 49 = .ok (.aload_n 0, 1) := by decide +kernel
theorem d_B_collect_50 : decode c_B_collect 50 = .ok (.getfield 25, 3) := by decide +kernel
theorem d_B_collect_53 : decode c_B_collect 53 = .ok (.iload_n 2, 1) := by decide +kernel
theorem d_B_collect_54 : decode c_B_collect 54 = .ok (.aaload, 1) := by decide +kernel
theorem d_B_collect_55 : decode c_B_collect 55 = .ok (.invokevirtual 143, 3) := by decide +kernel
theorem d_B_collect_58 : decode c_B_collect 58 = .ok (.iinc 1 1, 3) := by decide +kernel
theorem d_B_collect_61 : decode c_B_collect 61 = .ok (.iinc 2 1, 3) := by decide +kernel
theorem d_B_collect_64 : decode c_B_collect 64 = .ok (.goto (-49), 3) := by decide +kernel
theorem d_B_collect_67 : decode c_B_collect 67 = .ok (.iload_n 1, 1) := by decide +kernel
theorem d_B_collect_68 : decode c_B_collect 68 = .ok (.ireturn, 1) := by decide +kernel
abbrev c_B_cutAfter : ByteArray := prog_1_method_8_code
abbrev y_B_cutAfter : MethodName := ⟨"BlobStore", "cutAfter", "(I)V"⟩
theorem i_B_cutAfter : bIs y_B_cutAfter 2 := Or.inl ⟨_, _, t3_59⟩
theorem d_B_cutAfter_0 : decode c_B_cutAfter 0 = .ok (.iload_n 1, 1) := by decide +kernel
theorem d_B_cutAfter_1 : decode c_B_cutAfter 1 = .ok (.ifCond .lt 10, 3) := by decide +kernel
theorem d_B_cutAfter_4 : decode c_B_cutAfter 4 = .ok (.iload_n 1, 1) := by decide +kernel
theorem d_B_cutAfter_5 : decode c_B_cutAfter 5 = .ok (.sipush 1000, 3) := by decide +kernel
theorem d_B_cutAfter_8 : decode c_B_cutAfter 8 = .ok (.if_icmp .le 13, 3) := by decide +kernel
theorem d_B_cutAfter_11 : decode c_B_cutAfter 11 = .ok (.new 82, 3) := by decide +kernel
theorem d_B_cutAfter_14 : decode c_B_cutAfter 14 = .ok (.dup, 1) := by decide +kernel
theorem d_B_cutAfter_15 : decode c_B_cutAfter 15 = .ok (.ldc 146, 2) := by decide +kernel
theorem d_B_cutAfter_17 : decode c_B_cutAfter 17 = .ok (.invokespecial 86, 3) := by decide +kernel
theorem d_B_cutAfter_20 : decode c_B_cutAfter 20 = .ok (.athrow, 1) := by decide +kernel
theorem d_B_cutAfter_21 : decode c_B_cutAfter 21 = .ok (.aload_n 0, 1) := by decide +kernel
theorem d_B_cutAfter_22 : decode c_B_cutAfter 22 = .ok (.getfield 12, 3) := by decide +kernel
theorem d_B_cutAfter_25 : decode c_B_cutAfter 25 = .ok (.iload_n 1, 1) := by decide +kernel
theorem d_B_cutAfter_26 : decode c_B_cutAfter 26 = .ok (.invokevirtual 148, 3) := by decide +kernel
theorem d_B_cutAfter_29 : decode c_B_cutAfter 29 = .ok (.return_, 1) := by decide +kernel
abbrev c_B_recover : ByteArray := prog_1_method_9_code
abbrev y_B_recover : MethodName := ⟨"BlobStore", "recover", "()Z"⟩
theorem i_B_recover : bIs y_B_recover 1 := Or.inl ⟨_, _, t1_180⟩
theorem d_B_recover_0 : decode c_B_recover 0 = .ok (.aload_n 0, 1) := by decide +kernel
theorem d_B_recover_1 : decode c_B_recover 1 = .ok (.getfield 12, 3) := by decide +kernel
theorem d_B_recover_4 : decode c_B_recover 4 = .ok (.invokevirtual 151, 3) := by decide +kernel
theorem d_B_recover_7 : decode c_B_recover 7 = .ok (.ireturn, 1) := by decide +kernel
abbrev c_B_latest : ByteArray := prog_1_method_10_code
abbrev y_B_latest : MethodName := ⟨"BlobStore", "latest", "(II)I"⟩
theorem i_B_latest : bIs y_B_latest 5 := Or.inl ⟨_, _, t1_188⟩
theorem d_B_latest_0 : decode c_B_latest 0 = .ok (.aload_n 0, 1) := by decide +kernel
theorem d_B_latest_1 : decode c_B_latest 1 = .ok (.getfield 41, 3) := by decide +kernel
theorem d_B_latest_4 : decode c_B_latest 4 = .ok (.istore_n 3, 1) := by decide +kernel
theorem d_B_latest_5 : decode c_B_latest 5 = .ok (.iload_n 3, 1) := by decide +kernel
theorem d_B_latest_6 : decode c_B_latest 6 = .ok (.iconst 1, 1) := by decide +kernel
theorem d_B_latest_7 : decode c_B_latest 7 = .ok (.if_icmp .lt 47, 3) := by decide +kernel
theorem d_B_latest_10 : decode c_B_latest 10 = .ok (.aload_n 0, 1) := by decide +kernel
theorem d_B_latest_11 : decode c_B_latest 11 = .ok (.getfield 37, 3) := by decide +kernel
theorem d_B_latest_14 : decode c_B_latest 14 = .ok (.iload_n 3, 1) := by decide +kernel
theorem d_B_latest_15 : decode c_B_latest 15 = .ok (.iconst 1, 1) := by decide +kernel
theorem d_B_latest_16 : decode c_B_latest 16 = .ok (.isub, 1) := by decide +kernel
theorem d_B_latest_17 : decode c_B_latest 17 = .ok (.aaload, 1) := by decide +kernel
theorem d_B_latest_18 : decode c_B_latest 18 = .ok (.astore 4, 2) := by decide +kernel
theorem d_B_latest_20 : decode c_B_latest 20 = .ok (.aload 4, 2) := by decide +kernel
theorem d_B_latest_22 : decode c_B_latest 22 = .ok (.getfield 133, 3) := by decide +kernel
theorem d_B_latest_25 : decode c_B_latest 25 = .ok (.ifCond .eq 23, 3) := by decide +kernel
theorem d_B_latest_28 : decode c_B_latest 28 = .ok (.aload 4, 2) := by decide +kernel
theorem d_B_latest_30 : decode c_B_latest 30 = .ok (.getfield 154, 3) := by decide +kernel
theorem d_B_latest_33 : decode c_B_latest 33 = .ok (.iload_n 1, 1) := by decide +kernel
theorem d_B_latest_34 : decode c_B_latest 34 = .ok (.if_icmp .ne 14, 3) := by decide +kernel
theorem d_B_latest_37 : decode c_B_latest 37 = .ok (.aload 4, 2) := by decide +kernel
theorem d_B_latest_39 : decode c_B_latest 39 = .ok (.getfield 157, 3) := by decide +kernel
theorem d_B_latest_42 : decode c_B_latest 42 = .ok (.iload_n 2, 1) := by decide +kernel
theorem d_B_latest_43 : decode c_B_latest 43 = .ok (.if_icmp .ne 5, 3) := by decide +kernel
theorem d_B_latest_46 : decode c_B_latest 46 = .ok (.iload_n 3, 1) := by decide +kernel
theorem d_B_latest_47 : decode c_B_latest 47 = .ok (.ireturn, 1) := by decide +kernel
theorem d_B_latest_48 : decode c_B_latest 48 = .ok (.iinc 3 (-1), 3) := by decide +kernel
theorem d_B_latest_51 : decode c_B_latest 51 = .ok (.goto (-46), 3) := by decide +kernel
theorem d_B_latest_54 : decode c_B_latest 54 = .ok (.iconst 0, 1) := by decide +kernel
theorem d_B_latest_55 : decode c_B_latest 55 = .ok (.ireturn, 1) := by decide +kernel
abbrev c_B_size : ByteArray := prog_1_method_11_code
abbrev y_B_size : MethodName := ⟨"BlobStore", "size", "(I)I"⟩
theorem i_B_size : bIs y_B_size 5 := Or.inl ⟨_, _, t1_192⟩
theorem d_B_size_0 : decode c_B_size 0 = .ok (.aload_n 0, 1) := by decide +kernel
theorem d_B_size_1 : decode c_B_size 1 = .ok (.iload_n 1, 1) := by decide +kernel
theorem d_B_size_2 : decode c_B_size 2 = .ok (.invokevirtual 129, 3) := by decide +kernel
theorem d_B_size_5 : decode c_B_size 5 = .ok (.astore_n 2, 1) := by decide +kernel
theorem d_B_size_6 : decode c_B_size 6 = .ok (.aload_n 2, 1) := by decide +kernel
theorem d_B_size_7 : decode c_B_size 7 = .ok (.ifnonnull 5, 3) := by decide +kernel
theorem d_B_size_10 : decode c_B_size 10 = .ok (.iconst (-1), 1) := by decide +kernel
theorem d_B_size_11 : decode c_B_size 11 = .ok (.ireturn, 1) := by decide +kernel
theorem d_B_size_12 : decode c_B_size 12 = .ok (.iconst 0, 1) := by decide +kernel
theorem d_B_size_13 : decode c_B_size 13 = .ok (.istore_n 3, 1) := by decide +kernel
theorem d_B_size_14 : decode c_B_size 14 = .ok (.iconst 0, 1) := by decide +kernel
theorem d_B_size_15 : decode c_B_size 15 = .ok (.istore 4, 2) := by decide +kernel
theorem d_B_size_17 : decode c_B_size 17 = .ok (.iload 4, 2) := by decide +kernel
theorem d_B_size_19 : decode c_B_size 19 = .ok (.aload_n 2, 1) := by decide +kernel
theorem d_B_size_20 : decode c_B_size 20 = .ok (.getfield 160, 3) := by decide +kernel
theorem d_B_size_23 : decode c_B_size 23 = .ok (.getfield 163, 3) := by decide +kernel
theorem d_B_size_26 : decode c_B_size 26 = .ok (.if_icmp .ge 30, 3) := by decide +kernel
theorem d_B_size_29 : decode c_B_size 29 = .ok (.iload_n 3, 1) := by decide +kernel
theorem d_B_size_30 : decode c_B_size 30 = .ok (.aload_n 0, 1) := by decide +kernel
theorem d_B_size_31 : decode c_B_size 31 = .ok (.getfield 25, 3) := by decide +kernel
theorem d_B_size_34 : decode c_B_size 34 = .ok (.aload_n 2, 1) := by decide +kernel
theorem d_B_size_35 : decode c_B_size 35 = .ok (.getfield 160, 3) := by decide +kernel
theorem d_B_size_38 : decode c_B_size 38 = .ok (.getfield 166, 3) := by decide +kernel
theorem d_B_size_41 : decode c_B_size 41 = .ok (.iload 4, 2) := by decide +kernel
theorem d_B_size_43 : decode c_B_size 43 = .ok (.iaload, 1) := by decide +kernel
theorem d_B_size_44 : decode c_B_size 44 = .ok (.aaload, 1) := by decide +kernel
theorem d_B_size_45 : decode c_B_size 45 = .ok (.getfield 168, 3) := by decide +kernel
theorem d_B_size_48 : decode c_B_size 48 = .ok (.iadd, 1) := by decide +kernel
theorem d_B_size_49 : decode c_B_size 49 = .ok (.istore_n 3, 1) := by decide +kernel
theorem d_B_size_50 : decode c_B_size 50 = .ok (.iinc 4 1, 3) := by decide +kernel
theorem d_B_size_53 : decode c_B_size 53 = .ok (.goto (-36), 3) := by decide +kernel
theorem d_B_size_56 : decode c_B_size 56 = .ok (.iload_n 3, 1) := by decide +kernel
theorem d_B_size_57 : decode c_B_size 57 = .ok (.ireturn, 1) := by decide +kernel
abbrev c_B_byteAt : ByteArray := prog_1_method_12_code
abbrev y_B_byteAt : MethodName := ⟨"BlobStore", "byteAt", "(II)I"⟩
theorem i_B_byteAt : bIs y_B_byteAt 7 := Or.inl ⟨_, _, t1_200⟩
theorem d_B_byteAt_0 : decode c_B_byteAt 0 = .ok (.aload_n 0, 1) := by decide +kernel
theorem d_B_byteAt_1 : decode c_B_byteAt 1 = .ok (.iload_n 1, 1) := by decide +kernel
theorem d_B_byteAt_2 : decode c_B_byteAt 2 = .ok (.invokevirtual 129, 3) := by decide +kernel
theorem d_B_byteAt_5 : decode c_B_byteAt 5 = .ok (.astore_n 3, 1) := by decide +kernel
theorem d_B_byteAt_6 : decode c_B_byteAt 6 = .ok (.aload_n 3, 1) := by decide +kernel
theorem d_B_byteAt_7 : decode c_B_byteAt 7 = .ok (.ifnull 7, 3) := by decide +kernel
theorem d_B_byteAt_10 : decode c_B_byteAt 10 = .ok (.iload_n 2, 1) := by decide +kernel
theorem d_B_byteAt_11 : decode c_B_byteAt 11 = .ok (.ifCond .ge 5, 3) := by decide +kernel
theorem d_B_byteAt_14 : decode c_B_byteAt 14 = .ok (.iconst (-1), 1) := by decide +kernel
theorem d_B_byteAt_15 : decode c_B_byteAt 15 = .ok (.ireturn, 1) := by decide +kernel
theorem d_B_byteAt_16 : decode c_B_byteAt 16 = .ok (.iload_n 2, 1) := by decide +kernel
theorem d_B_byteAt_17 : decode c_B_byteAt 17 = .ok (.istore 4, 2) := by decide +kernel
theorem d_B_byteAt_19 : decode c_B_byteAt 19 = .ok (.iconst 0, 1) := by decide +kernel
theorem d_B_byteAt_20 : decode c_B_byteAt 20 = .ok (.istore 5, 2) := by decide +kernel
theorem d_B_byteAt_22 : decode c_B_byteAt 22 = .ok (.iload 5, 2) := by decide +kernel
theorem d_B_byteAt_24 : decode c_B_byteAt 24 = .ok (.aload_n 3, 1) := by decide +kernel
theorem d_B_byteAt_25 : decode c_B_byteAt 25 = .ok (.getfield 160, 3) := by decide +kernel
theorem d_B_byteAt_28 : decode c_B_byteAt 28 = .ok (.getfield 163, 3) := by decide +kernel
theorem d_B_byteAt_31 : decode c_B_byteAt 31 = .ok (.if_icmp .ge 54, 3) := by decide +kernel
theorem d_B_byteAt_34 : decode c_B_byteAt 34 = .ok (.aload_n 0, 1) := by decide +kernel
theorem d_B_byteAt_35 : decode c_B_byteAt 35 = .ok (.getfield 25, 3) := by decide +kernel
theorem d_B_byteAt_38 : decode c_B_byteAt 38 = .ok (.aload_n 3, 1) := by decide +kernel
theorem d_B_byteAt_39 : decode c_B_byteAt 39 = .ok (.getfield 160, 3) := by decide +kernel
theorem d_B_byteAt_42 : decode c_B_byteAt 42 = .ok (.getfield 166, 3) := by decide +kernel
theorem d_B_byteAt_45 : decode c_B_byteAt 45 = .ok (.iload 5, 2) := by decide +kernel
theorem d_B_byteAt_47 : decode c_B_byteAt 47 = .ok (.iaload, 1) := by decide +kernel
theorem d_B_byteAt_48 : decode c_B_byteAt 48 = .ok (.aaload, 1) := by decide +kernel
theorem d_B_byteAt_49 : decode c_B_byteAt 49 = .ok (.astore 6, 2) := by decide +kernel
theorem d_B_byteAt_51 : decode c_B_byteAt 51 = .ok (.iload 4, 2) := by decide +kernel
theorem d_B_byteAt_53 : decode c_B_byteAt 53 = .ok (.aload 6, 2) := by decide +kernel
theorem d_B_byteAt_55 : decode c_B_byteAt 55 = .ok (.getfield 168, 3) := by decide +kernel
theorem d_B_byteAt_58 : decode c_B_byteAt 58 = .ok (.if_icmp .ge 11, 3) := by decide +kernel
theorem d_B_byteAt_61 : decode c_B_byteAt 61 = .ok (.aload 6, 2) := by decide +kernel
theorem d_B_byteAt_63 : decode c_B_byteAt 63 = .ok (.iload 4, 2) := by decide +kernel
theorem d_B_byteAt_65 : decode c_B_byteAt 65 = .ok (.invokevirtual 169, 3) := by decide +kernel
theorem d_B_byteAt_68 : decode c_B_byteAt 68 = .ok (.ireturn, 1) := by decide +kernel
theorem d_B_byteAt_69 : decode c_B_byteAt 69 = .ok (.iload 4, 2) := by decide +kernel
theorem d_B_byteAt_71 : decode c_B_byteAt 71 = .ok (.aload 6, 2) := by decide +kernel
theorem d_B_byteAt_73 : decode c_B_byteAt 73 = .ok (.getfield 168, 3) := by decide +kernel
theorem d_B_byteAt_76 : decode c_B_byteAt 76 = .ok (.isub, 1) := by decide +kernel
theorem d_B_byteAt_77 : decode c_B_byteAt 77 = .ok (.istore 4, 2) := by decide +kernel
theorem d_B_byteAt_79 : decode c_B_byteAt 79 = .ok (.iinc 5 1, 3) := by decide +kernel
theorem d_B_byteAt_82 : decode c_B_byteAt 82 = .ok (.goto (-60), 3) := by decide +kernel
theorem d_B_byteAt_85 : decode c_B_byteAt 85 = .ok (.iconst (-1), 1) := by decide +kernel
theorem d_B_byteAt_86 : decode c_B_byteAt 86 = .ok (.ireturn, 1) := by decide +kernel
abbrev c_B_address : ByteArray := prog_1_method_13_code
abbrev y_B_address : MethodName := ⟨"BlobStore", "address", "(II)I"⟩
theorem i_B_address : bIs y_B_address 3 := Or.inl ⟨_, _, t3_72⟩
theorem d_B_address_0 : decode c_B_address 0 = .ok (.aload_n 0, 1) := by decide +kernel
theorem d_B_address_1 : decode c_B_address 1 = .ok (.iload_n 1, 1) := by decide +kernel
theorem d_B_address_2 : decode c_B_address 2 = .ok (.invokevirtual 172, 3) := by decide +kernel
theorem d_B_address_5 : decode c_B_address 5 = .ok (.ifCond .eq 13, 3) := by decide +kernel
theorem d_B_address_8 : decode c_B_address 8 = .ok (.iload_n 2, 1) := by decide +kernel
theorem d_B_address_9 : decode c_B_address 9 = .ok (.ifCond .lt 9, 3) := by decide +kernel
theorem d_B_address_12 : decode c_B_address 12 = .ok (.iload_n 2, 1) := by decide +kernel
theorem d_B_address_13 : decode c_B_address 13 = .ok (.bipush 8, 2) := by decide +kernel
theorem d_B_address_15 : decode c_B_address 15 = .ok (.if_icmp .lt 13, 3) := by decide +kernel
theorem d_B_address_18 : decode c_B_address 18 = .ok (.new 176, 3) := by decide +kernel
theorem d_B_address_21 : decode c_B_address 21 = .ok (.dup, 1) := by decide +kernel
theorem d_B_address_22 : decode c_B_address 22 = .ok (.ldc 178, 2) := by decide +kernel
theorem d_B_address_24 : decode c_B_address 24 = .ok (.invokespecial 180, 3) := by decide +kernel
theorem d_B_address_27 : decode c_B_address 27 = .ok (.athrow, 1) := by decide +kernel
theorem d_B_address_28 : decode c_B_address 28 = .ok (.aload_n 0, 1) := by decide +kernel
theorem d_B_address_29 : decode c_B_address 29 = .ok (.getfield 25, 3) := by decide +kernel
theorem d_B_address_32 : decode c_B_address 32 = .ok (.iload_n 1, 1) := by decide +kernel
theorem d_B_address_33 : decode c_B_address 33 = .ok (.aaload, 1) := by decide +kernel
theorem d_B_address_34 : decode c_B_address 34 = .ok (.getfield 181, 3) := by decide +kernel
theorem d_B_address_37 : decode c_B_address 37 = .ok (.iload_n 2, 1) := by decide +kernel
theorem d_B_address_38 : decode c_B_address 38 = .ok (.iaload, 1) := by decide +kernel
theorem d_B_address_39 : decode c_B_address 39 = .ok (.ireturn, 1) := by decide +kernel
abbrev c_B_needed : ByteArray := prog_1_method_14_code
abbrev y_B_needed : MethodName := ⟨"BlobStore", "needed", "(I)I"⟩
theorem i_B_needed : bIs y_B_needed 2 := Or.inl ⟨_, _, t1_208⟩
theorem d_B_needed_0 : decode c_B_needed 0 = .ok (.aload_n 0, 1) := by decide +kernel
theorem d_B_needed_1 : decode c_B_needed 1 = .ok (.iload_n 1, 1) := by decide +kernel
theorem d_B_needed_2 : decode c_B_needed 2 = .ok (.invokevirtual 172, 3) := by decide +kernel
theorem d_B_needed_5 : decode c_B_needed 5 = .ok (.ifCond .ne 5, 3) := by decide +kernel
theorem d_B_needed_8 : decode c_B_needed 8 = .ok (.iconst (-1), 1) := by decide +kernel
theorem d_B_needed_9 : decode c_B_needed 9 = .ok (.ireturn, 1) := by decide +kernel
theorem d_B_needed_10 : decode c_B_needed 10 = .ok (.aload_n 0, 1) := by decide +kernel
theorem d_B_needed_11 : decode c_B_needed 11 = .ok (.invokevirtual 136, 3) := by decide +kernel
theorem d_B_needed_14 : decode c_B_needed 14 = .ok (.aload_n 0, 1) := by decide +kernel
theorem d_B_needed_15 : decode c_B_needed 15 = .ok (.getfield 62, 3) := by decide +kernel
theorem d_B_needed_18 : decode c_B_needed 18 = .ok (.iload_n 1, 1) := by decide +kernel
theorem d_B_needed_19 : decode c_B_needed 19 = .ok (.iaload, 1) := by decide +kernel
theorem d_B_needed_20 : decode c_B_needed 20 = .ok (.ireturn, 1) := by decide +kernel
abbrev c_B_slotOf : ByteArray := prog_1_method_15_code
abbrev y_B_slotOf : MethodName := ⟨"BlobStore", "slotOf", "(IJ)I"⟩
theorem i_B_slotOf : bIs y_B_slotOf 4 := Or.inl ⟨_, _, t1_236⟩
theorem d_B_slotOf_0 : decode c_B_slotOf 0 = .ok (.iload_n 1, 1) := by decide +kernel
theorem d_B_slotOf_1 : decode c_B_slotOf 1 = .ok (.iconst 1, 1) := by decide +kernel
theorem d_B_slotOf_2 : decode c_B_slotOf 2 = .ok (.if_icmp .lt 9, 3) := by decide +kernel
theorem d_B_slotOf_5 : decode c_B_slotOf 5 = .ok (.iload_n 1, 1) := by decide +kernel
theorem d_B_slotOf_6 : decode c_B_slotOf 6 = .ok (.bipush 8, 2) := by decide +kernel
theorem d_B_slotOf_8 : decode c_B_slotOf 8 = .ok (.if_icmp .le 5, 3) := by decide +kernel
theorem d_B_slotOf_11 : decode c_B_slotOf 11 = .ok (.iconst (-1), 1) := by decide +kernel
theorem d_B_slotOf_12 : decode c_B_slotOf 12 = .ok (.ireturn, 1) := by decide +kernel
theorem d_B_slotOf_13 : decode c_B_slotOf 13 = .ok (.aload_n 0, 1) := by decide +kernel
theorem d_B_slotOf_14 : decode c_B_slotOf 14 = .ok (.getfield 58, 3) := by decide +kernel
theorem d_B_slotOf_17 : decode c_B_slotOf 17 = .ok (.iload_n 1, 1) := by decide +kernel
theorem d_B_slotOf_18 : decode c_B_slotOf 18 = .ok (.lload_n 2, 1) := by decide +kernel
theorem d_B_slotOf_19 : decode c_B_slotOf 19 = .ok (.aload_n 0, 1) := by decide +kernel
theorem d_B_slotOf_20 : decode c_B_slotOf 20 = .ok (.getfield 19, 3) := by decide +kernel
theorem d_B_slotOf_23 : decode c_B_slotOf 23 = .ok (.invokevirtual 184, 3) := by decide +kernel
theorem d_B_slotOf_26 : decode c_B_slotOf 26 = .ok (.aload_n 0, 1) := by decide +kernel
theorem d_B_slotOf_27 : decode c_B_slotOf 27 = .ok (.aload_n 0, 1) := by decide +kernel
theorem d_B_slotOf_28 : decode c_B_slotOf 28 = .ok (.getfield 58, 3) := by decide +kernel
theorem d_B_slotOf_31 : decode c_B_slotOf 31 = .ok (.invokevirtual 188, 3) := by decide +kernel
theorem d_B_slotOf_34 : decode c_B_slotOf 34 = .ok (.ireturn, 1) := by decide +kernel
abbrev c_B_state : ByteArray := prog_1_method_16_code
abbrev y_B_state : MethodName := ⟨"BlobStore", "state", "(I)I"⟩
theorem i_B_state : bIs y_B_state 2 := Or.inl ⟨_, _, t2_38⟩
theorem d_B_state_0 : decode c_B_state 0 = .ok (.iload_n 1, 1) := by decide +kernel
theorem d_B_state_1 : decode c_B_state 1 = .ok (.tableswitch 143 0 7 #[47, 52, 57, 62, 67, 75, 91, 117], 47) := by decide +kernel
theorem d_B_state_48 : decode c_B_state 48 = .ok (.aload_n 0, 1) := by decide +kernel
theorem d_B_state_49 : decode c_B_state 49 = .ok (.invokevirtual 192, 3) := by decide +kernel
theorem d_B_state_52 : decode c_B_state 52 = .ok (.ireturn, 1) := by decide +kernel
theorem d_B_state_53 : decode c_B_state 53 = .ok (.aload_n 0, 1) := by decide +kernel
theorem d_B_state_54 : decode c_B_state 54 = .ok (.invokevirtual 195, 3) := by decide +kernel
theorem d_B_state_57 : decode c_B_state 57 = .ok (.ireturn, 1) := by decide +kernel
theorem d_B_state_58 : decode c_B_state 58 = .ok (.aload_n 0, 1) := by decide +kernel
theorem d_B_state_59 : decode c_B_state 59 = .ok (.invokevirtual 198, 3) := by decide +kernel
theorem d_B_state_62 : decode c_B_state 62 = .ok (.ireturn, 1) := by decide +kernel
theorem d_B_state_63 : decode c_B_state 63 = .ok (.aload_n 0, 1) := by decide +kernel
theorem d_B_state_64 : decode c_B_state 64 = .ok (.getfield 41, 3) := by decide +kernel
theorem d_B_state_67 : decode c_B_state 67 = .ok (.ireturn, 1) := by decide +kernel
theorem d_B_state_68 : decode c_B_state 68 = .ok (.aload_n 0, 1) := by decide +kernel
theorem d_B_state_69 : decode c_B_state 69 = .ok (.getfield 12, 3) := by decide +kernel
theorem d_B_state_72 : decode c_B_state 72 = .ok (.getfield 201, 3) := by decide +kernel
theorem d_B_state_75 : decode c_B_state 75 = .ok (.ireturn, 1) := by decide +kernel
theorem d_B_state_76 : decode c_B_state 76 = .ok (.aload_n 0, 1) := by decide +kernel
theorem d_B_state_77 : decode c_B_state 77 = .ok (.getfield 12, 3) := by decide +kernel
theorem d_B_state_80 : decode c_B_state 80 = .ok (.getfield 204, 3) := by decide +kernel
theorem d_B_state_83 : decode c_B_state 83 = .ok (.ifCond .eq 7, 3) := by decide +kernel
theorem d_B_state_86 : decode c_B_state 86 = .ok (.iconst 1, 1) := by decide +kernel
theorem d_B_state_87 : decode c_B_state 87 = .ok (.goto 4, 3) := by decide +kernel
theorem d_B_state_90 : decode c_B_state 90 = .ok (.iconst 0, 1) := by decide +kernel
theorem d_B_state_91 : decode c_B_state 91 = .ok (.ireturn, 1) := by decide +kernel
theorem d_B_state_92 : decode c_B_state 92 = .ok (.aload_n 0, 1) := by decide +kernel
theorem d_B_state_93 : decode c_B_state 93 = .ok (.getfield 41, 3) := by decide +kernel
theorem d_B_state_96 : decode c_B_state 96 = .ok (.ifCond .ne 7, 3) := by decide +kernel
theorem d_B_state_99 : decode c_B_state 99 = .ok (.iconst (-1), 1) := by decide +kernel
theorem d_B_state_100 : decode c_B_state 100 = .ok (.goto 17, 3) := by decide +kernel
theorem d_B_state_103 : decode c_B_state 103 = .ok (.aload_n 0, 1) := by decide +kernel
theorem d_B_state_104 : decode c_B_state 104 = .ok (.getfield 37, 3) := by decide +kernel
theorem d_B_state_107 : decode c_B_state 107 = .ok (.aload_n 0, 1) := by decide +kernel
theorem d_B_state_108 : decode c_B_state 108 = .ok (.getfield 41, 3) := by decide +kernel
theorem d_B_state_111 : decode c_B_state 111 = .ok (.iconst 1, 1) := by decide +kernel
theorem d_B_state_112 : decode c_B_state 112 = .ok (.isub, 1) := by decide +kernel
theorem d_B_state_113 : decode c_B_state 113 = .ok (.aaload, 1) := by decide +kernel
theorem d_B_state_114 : decode c_B_state 114 = .ok (.getfield 154, 3) := by decide +kernel
theorem d_B_state_117 : decode c_B_state 117 = .ok (.ireturn, 1) := by decide +kernel
theorem d_B_state_118 : decode c_B_state 118 = .ok (.aload_n 0, 1) := by decide +kernel
theorem d_B_state_119 : decode c_B_state 119 = .ok (.getfield 41, 3) := by decide +kernel
theorem d_B_state_122 : decode c_B_state 122 = .ok (.ifCond .ne 7, 3) := by decide +kernel
theorem d_B_state_125 : decode c_B_state 125 = .ok (.iconst (-1), 1) := by decide +kernel
theorem d_B_state_126 : decode c_B_state 126 = .ok (.goto 17, 3) := by decide +kernel
theorem d_B_state_129 : decode c_B_state 129 = .ok (.aload_n 0, 1) := by decide +kernel
theorem d_B_state_130 : decode c_B_state 130 = .ok (.getfield 37, 3) := by decide +kernel
theorem d_B_state_133 : decode c_B_state 133 = .ok (.aload_n 0, 1) := by decide +kernel
theorem d_B_state_134 : decode c_B_state 134 = .ok (.getfield 41, 3) := by decide +kernel
theorem d_B_state_137 : decode c_B_state 137 = .ok (.iconst 1, 1) := by decide +kernel
theorem d_B_state_138 : decode c_B_state 138 = .ok (.isub, 1) := by decide +kernel
theorem d_B_state_139 : decode c_B_state 139 = .ok (.aaload, 1) := by decide +kernel
theorem d_B_state_140 : decode c_B_state 140 = .ok (.getfield 157, 3) := by decide +kernel
theorem d_B_state_143 : decode c_B_state 143 = .ok (.ireturn, 1) := by decide +kernel
theorem d_B_state_144 : decode c_B_state 144 = .ok (.iconst (-1), 1) := by decide +kernel
theorem d_B_state_145 : decode c_B_state 145 = .ok (.ireturn, 1) := by decide +kernel
abbrev c_B_leastClosedSession : ByteArray := prog_1_method_17_code
abbrev y_B_leastClosedSession : MethodName := ⟨"BlobStore", "leastClosedSession", "()I"⟩
theorem i_B_leastClosedSession : bIs y_B_leastClosedSession 2 := Or.inl ⟨_, _, t2_138⟩
theorem d_B_leastClosedSession_0 : decode c_B_leastClosedSession 0 = .ok (.iconst 0, 1) := by decide +kernel
theorem d_B_leastClosedSession_1 : decode c_B_leastClosedSession 1 = .ok (.istore_n 1, 1) := by decide +kernel
theorem d_B_leastClosedSession_2 : decode c_B_leastClosedSession 2 = .ok (.iload_n 1, 1) := by decide +kernel
theorem d_B_leastClosedSession_3 : decode c_B_leastClosedSession 3 = .ok (.iconst 5, 1) := by decide +kernel
theorem d_B_leastClosedSession_4 : decode c_B_leastClosedSession 4 = .ok (.if_icmp .ge 23, 3) := by decide +kernel
theorem d_B_leastClosedSession_7 : decode c_B_leastClosedSession 7 = .ok (.aload_n 0, 1) := by decide +kernel
theorem d_B_leastClosedSession_8 : decode c_B_leastClosedSession 8 = .ok (.getfield 31, 3) := by decide +kernel
theorem d_B_leastClosedSession_11 : decode c_B_leastClosedSession 11 = .ok (.iload_n 1, 1) := by decide +kernel
theorem d_B_leastClosedSession_12 : decode c_B_leastClosedSession 12 = .ok (.aaload, 1) := by decide +kernel
theorem d_B_leastClosedSession_13 : decode c_B_leastClosedSession 13 = .ok (.getfield 125, 3) := by decide +kernel
theorem d_B_leastClosedSession_16 : decode c_B_leastClosedSession 16 = .ok (.ifCond .ne 5, 3) := by decide +kernel
theorem d_B_leastClosedSession_19 : decode c_B_leastClosedSession 19 = .ok (.iload_n 1, 1) := by decide +kernel
theorem d_B_leastClosedSession_20 : decode c_B_leastClosedSession 20 = .ok (.ireturn, 1) := by decide +kernel
theorem d_B_leastClosedSession_21 : decode c_B_leastClosedSession 21 = .ok (.iinc 1 1, 3) := by decide +kernel
theorem d_B_leastClosedSession_24 : decode c_B_leastClosedSession 24 = .ok (.goto (-22), 3) := by decide +kernel
theorem d_B_leastClosedSession_27 : decode c_B_leastClosedSession 27 = .ok (.iconst (-1), 1) := by decide +kernel
theorem d_B_leastClosedSession_28 : decode c_B_leastClosedSession 28 = .ok (.ireturn, 1) := by decide +kernel
abbrev c_B_openSession : ByteArray := prog_1_method_18_code
abbrev y_B_openSession : MethodName := ⟨"BlobStore", "openSession", "(I)LBlobStore$Session;"⟩
theorem i_B_openSession : bIs y_B_openSession 2 := Or.inl ⟨_, _, t2_193⟩
theorem d_B_openSession_0 : decode c_B_openSession 0 = .ok (.iload_n 1, 1) := by decide +kernel
theorem d_B_openSession_1 : decode c_B_openSession 1 = .ok (.ifCond .lt 20, 3) := by decide +kernel
theorem d_B_openSession_4 : decode c_B_openSession 4 = .ok (.iload_n 1, 1) := by decide +kernel
theorem d_B_openSession_5 : decode c_B_openSession 5 = .ok (.iconst 5, 1) := by decide +kernel
theorem d_B_openSession_6 : decode c_B_openSession 6 = .ok (.if_icmp .ge 15, 3) := by decide +kernel
theorem d_B_openSession_9 : decode c_B_openSession 9 = .ok (.aload_n 0, 1) := by decide +kernel
theorem d_B_openSession_10 : decode c_B_openSession 10 = .ok (.getfield 31, 3) := by decide +kernel
theorem d_B_openSession_13 : decode c_B_openSession 13 = .ok (.iload_n 1, 1) := by decide +kernel
theorem d_B_openSession_14 : decode c_B_openSession 14 = .ok (.aaload, 1) := by decide +kernel
theorem d_B_openSession_15 : decode c_B_openSession 15 = .ok (.getfield 125, 3) := by decide +kernel
theorem d_B_openSession_18 : decode c_B_openSession 18 = .ok (.ifCond .ne 13, 3) := by decide +kernel
theorem d_B_openSession_21 : decode c_B_openSession 21 = .ok (.new 82, 3) := by decide +kernel
theorem d_B_openSession_24 : decode c_B_openSession 24 = .ok (.dup, 1) := by decide +kernel
theorem d_B_openSession_25 : decode c_B_openSession 25 = .ok (.ldc 207, 2) := by decide +kernel
theorem d_B_openSession_27 : decode c_B_openSession 27 = .ok (.invokespecial 86, 3) := by decide +kernel
theorem d_B_openSession_30 : decode c_B_openSession 30 = .ok (.athrow, 1) := by decide +kernel
theorem d_B_openSession_31 : decode c_B_openSession 31 = .ok (.aload_n 0, 1) := by decide +kernel
theorem d_B_openSession_32 : decode c_B_openSession 32 = .ok (.getfield 31, 3) := by decide +kernel
theorem d_B_openSession_35 : decode c_B_openSession 35 = .ok (.iload_n 1, 1) := by decide +kernel
theorem d_B_openSession_36 : decode c_B_openSession 36 = .ok (.aaload, 1) := by decide +kernel
theorem d_B_openSession_37 : decode c_B_openSession 37 = .ok (.areturn, 1) := by decide +kernel
abbrev c_B_livingVersion : ByteArray := prog_1_method_19_code
abbrev y_B_livingVersion : MethodName := ⟨"BlobStore", "livingVersion", "(I)LBlobStore$Version;"⟩
theorem i_B_livingVersion : bIs y_B_livingVersion 2 := Or.inl ⟨_, _, t1_196⟩
theorem d_B_livingVersion_0 : decode c_B_livingVersion 0 = .ok (.iload_n 1, 1) := by decide +kernel
theorem d_B_livingVersion_1 : decode c_B_livingVersion 1 = .ok (.iconst 1, 1) := by decide +kernel
theorem d_B_livingVersion_2 : decode c_B_livingVersion 2 = .ok (.if_icmp .lt 25, 3) := by decide +kernel
theorem d_B_livingVersion_5 : decode c_B_livingVersion 5 = .ok (.iload_n 1, 1) := by decide +kernel
theorem d_B_livingVersion_6 : decode c_B_livingVersion 6 = .ok (.aload_n 0, 1) := by decide +kernel
theorem d_B_livingVersion_7 : decode c_B_livingVersion 7 = .ok (.getfield 41, 3) := by decide +kernel
theorem d_B_livingVersion_10 : decode c_B_livingVersion 10 = .ok (.if_icmp .gt 17, 3) := by decide +kernel
theorem d_B_livingVersion_13 : decode c_B_livingVersion 13 = .ok (.aload_n 0, 1) := by decide +kernel
theorem d_B_livingVersion_14 : decode c_B_livingVersion 14 = .ok (.getfield 37, 3) := by decide +kernel
theorem d_B_livingVersion_17 : decode c_B_livingVersion 17 = .ok (.iload_n 1, 1) := by decide +kernel
theorem d_B_livingVersion_18 : decode c_B_livingVersion 18 = .ok (.iconst 1, 1) := by decide +kernel
theorem d_B_livingVersion_19 : decode c_B_livingVersion 19 = .ok (.isub, 1) := by decide +kernel
theorem d_B_livingVersion_20 : decode c_B_livingVersion 20 = .ok (.aaload, 1) := by decide +kernel
theorem d_B_livingVersion_21 : decode c_B_livingVersion 21 = .ok (.getfield 133, 3) := by decide +kernel
theorem d_B_livingVersion_24 : decode c_B_livingVersion 24 = .ok (.ifCond .ne 5, 3) := by decide +kernel
theorem d_B_livingVersion_27 : decode c_B_livingVersion 27 = .ok (.aconst_null, 1) := by decide +kernel
theorem d_B_livingVersion_28 : decode c_B_livingVersion 28 = .ok (.areturn, 1) := by decide +kernel
theorem d_B_livingVersion_29 : decode c_B_livingVersion 29 = .ok (.aload_n 0, 1) := by decide +kernel
theorem d_B_livingVersion_30 : decode c_B_livingVersion 30 = .ok (.getfield 37, 3) := by decide +kernel
theorem d_B_livingVersion_33 : decode c_B_livingVersion 33 = .ok (.iload_n 1, 1) := by decide +kernel
theorem d_B_livingVersion_34 : decode c_B_livingVersion 34 = .ok (.iconst 1, 1) := by decide +kernel
theorem d_B_livingVersion_35 : decode c_B_livingVersion 35 = .ok (.isub, 1) := by decide +kernel
theorem d_B_livingVersion_36 : decode c_B_livingVersion 36 = .ok (.aaload, 1) := by decide +kernel
theorem d_B_livingVersion_37 : decode c_B_livingVersion 37 = .ok (.areturn, 1) := by decide +kernel
abbrev c_B_hasChunk : ByteArray := prog_1_method_20_code
abbrev y_B_hasChunk : MethodName := ⟨"BlobStore", "hasChunk", "(I)Z"⟩
theorem i_B_hasChunk : bIs y_B_hasChunk 2 := Or.inl ⟨_, _, t1_212⟩
theorem d_B_hasChunk_0 : decode c_B_hasChunk 0 = .ok (.iload_n 1, 1) := by decide +kernel
theorem d_B_hasChunk_1 : decode c_B_hasChunk 1 = .ok (.ifCond .lt 25, 3) := by decide +kernel
theorem d_B_hasChunk_4 : decode c_B_hasChunk 4 = .ok (.iload_n 1, 1) := by decide +kernel
theorem d_B_hasChunk_5 : decode c_B_hasChunk 5 = .ok (.bipush 48, 2) := by decide +kernel
theorem d_B_hasChunk_7 : decode c_B_hasChunk 7 = .ok (.if_icmp .ge 19, 3) := by decide +kernel
theorem d_B_hasChunk_10 : decode c_B_hasChunk 10 = .ok (.aload_n 0, 1) := by decide +kernel
theorem d_B_hasChunk_11 : decode c_B_hasChunk 11 = .ok (.getfield 25, 3) := by decide +kernel
theorem d_B_hasChunk_14 : decode c_B_hasChunk 14 = .ok (.iload_n 1, 1) := by decide +kernel
theorem d_B_hasChunk_15 : decode c_B_hasChunk 15 = .ok (.aaload, 1) := by decide +kernel
theorem d_B_hasChunk_16 : decode c_B_hasChunk 16 = .ok (.invokevirtual 139, 3) := by decide +kernel
theorem d_B_hasChunk_19 : decode c_B_hasChunk 19 = .ok (.ifCond .ne 7, 3) := by decide +kernel
theorem d_B_hasChunk_22 : decode c_B_hasChunk 22 = .ok (.iconst 1, 1) := by decide +kernel
theorem d_B_hasChunk_23 : decode c_B_hasChunk 23 = .ok (.goto 4, 3) := by decide +kernel
theorem d_B_hasChunk_26 : decode c_B_hasChunk 26 = .ok (.iconst 0, 1) := by decide +kernel
theorem d_B_hasChunk_27 : decode c_B_hasChunk 27 = .ok (.ireturn, 1) := by decide +kernel
abbrev c_B_slotWith : ByteArray := prog_1_method_21_code
abbrev y_B_slotWith : MethodName := ⟨"BlobStore", "slotWith", "(LBlobStore$Chunk;)I"⟩
theorem i_B_slotWith : bIs y_B_slotWith 3 := Or.inl ⟨_, _, t2_30⟩
theorem d_B_slotWith_0 : decode c_B_slotWith 0 = .ok (.iconst 0, 1) := by decide +kernel
theorem d_B_slotWith_1 : decode c_B_slotWith 1 = .ok (.istore_n 2, 1) := by decide +kernel
theorem d_B_slotWith_2 : decode c_B_slotWith 2 = .ok (.iload_n 2, 1) := by decide +kernel
theorem d_B_slotWith_3 : decode c_B_slotWith 3 = .ok (.bipush 48, 2) := by decide +kernel
theorem d_B_slotWith_5 : decode c_B_slotWith 5 = .ok (.if_icmp .ge 36, 3) := by decide +kernel
theorem d_B_slotWith_8 : decode c_B_slotWith 8 = .ok (.aload_n 0, 1) := by decide +kernel
theorem d_B_slotWith_9 : decode c_B_slotWith 9 = .ok (.getfield 25, 3) := by decide +kernel
theorem d_B_slotWith_12 : decode c_B_slotWith 12 = .ok (.iload_n 2, 1) := by decide +kernel
theorem d_B_slotWith_13 : decode c_B_slotWith 13 = .ok (.aaload, 1) := by decide +kernel
theorem d_B_slotWith_14 : decode c_B_slotWith 14 = .ok (.invokevirtual 139, 3) := by decide +kernel
theorem d_B_slotWith_17 : decode c_B_slotWith 17 = .ok (.ifCond .ne 18, 3) := by decide +kernel
theorem d_B_slotWith_20 : decode c_B_slotWith 20 = .ok (.aload_n 0, 1) := by decide +kernel
theorem d_B_slotWith_21 : decode c_B_slotWith 21 = .ok (.getfield 25, 3) := by decide +kernel
theorem d_B_slotWith_24 : decode c_B_slotWith 24 = .ok (.iload_n 2, 1) := by decide +kernel
theorem d_B_slotWith_25 : decode c_B_slotWith 25 = .ok (.aaload, 1) := by decide +kernel
theorem d_B_slotWith_26 : decode c_B_slotWith 26 = .ok (.aload_n 1, 1) := by decide +kernel
theorem d_B_slotWith_27 : decode c_B_slotWith 27 = .ok (.invokevirtual 209, 3) := by decide +kernel
theorem d_B_slotWith_30 : decode c_B_slotWith 30 = .ok (.ifCond .eq 5, 3) := by decide +kernel
theorem d_B_slotWith_33 : decode c_B_slotWith 33 = .ok (.iload_n 2, 1) := by decide +kernel
theorem d_B_slotWith_34 : decode c_B_slotWith 34 = .ok (.ireturn, 1) := by decide +kernel
theorem d_B_slotWith_35 : decode c_B_slotWith 35 = .ok (.iinc 2 1, 3) := by decide +kernel
theorem d_B_slotWith_38 : decode c_B_slotWith 38 = .ok (.goto (-36), 3) := by decide +kernel
theorem d_B_slotWith_41 : decode c_B_slotWith 41 = .ok (.iconst (-1), 1) := by decide +kernel
theorem d_B_slotWith_42 : decode c_B_slotWith 42 = .ok (.ireturn, 1) := by decide +kernel
abbrev c_B_leastFreeSlot : ByteArray := prog_1_method_22_code
abbrev y_B_leastFreeSlot : MethodName := ⟨"BlobStore", "leastFreeSlot", "(I)I"⟩
theorem i_B_leastFreeSlot : bIs y_B_leastFreeSlot 3 := Or.inl ⟨_, _, t2_214⟩
theorem d_B_leastFreeSlot_0 : decode c_B_leastFreeSlot 0 = .ok (.iload_n 1, 1) := by decide +kernel
theorem d_B_leastFreeSlot_1 : decode c_B_leastFreeSlot 1 = .ok (.istore_n 2, 1) := by decide +kernel
theorem d_B_leastFreeSlot_2 : decode c_B_leastFreeSlot 2 = .ok (.iload_n 2, 1) := by decide +kernel
theorem d_B_leastFreeSlot_3 : decode c_B_leastFreeSlot 3 = .ok (.bipush 48, 2) := by decide +kernel
theorem d_B_leastFreeSlot_5 : decode c_B_leastFreeSlot 5 = .ok (.if_icmp .ge 23, 3) := by decide +kernel
theorem d_B_leastFreeSlot_8 : decode c_B_leastFreeSlot 8 = .ok (.aload_n 0, 1) := by decide +kernel
theorem d_B_leastFreeSlot_9 : decode c_B_leastFreeSlot 9 = .ok (.getfield 25, 3) := by decide +kernel
theorem d_B_leastFreeSlot_12 : decode c_B_leastFreeSlot 12 = .ok (.iload_n 2, 1) := by decide +kernel
theorem d_B_leastFreeSlot_13 : decode c_B_leastFreeSlot 13 = .ok (.aaload, 1) := by decide +kernel
theorem d_B_leastFreeSlot_14 : decode c_B_leastFreeSlot 14 = .ok (.invokevirtual 139, 3) := by decide +kernel
theorem d_B_leastFreeSlot_17 : decode c_B_leastFreeSlot 17 = .ok (.ifCond .eq 5, 3) := by decide +kernel
theorem d_B_leastFreeSlot_20 : decode c_B_leastFreeSlot 20 = .ok (.iload_n 2, 1) := by decide +kernel
theorem d_B_leastFreeSlot_21 : decode c_B_leastFreeSlot 21 = .ok (.ireturn, 1) := by decide +kernel
theorem d_B_leastFreeSlot_22 : decode c_B_leastFreeSlot 22 = .ok (.iinc 2 1, 3) := by decide +kernel
theorem d_B_leastFreeSlot_25 : decode c_B_leastFreeSlot 25 = .ok (.goto (-23), 3) := by decide +kernel
theorem d_B_leastFreeSlot_28 : decode c_B_leastFreeSlot 28 = .ok (.iconst (-1), 1) := by decide +kernel
theorem d_B_leastFreeSlot_29 : decode c_B_leastFreeSlot 29 = .ok (.ireturn, 1) := by decide +kernel
abbrev c_B_cutIntoChunks : ByteArray := prog_1_method_23_code
abbrev y_B_cutIntoChunks : MethodName := ⟨"BlobStore", "cutIntoChunks", "(IJJJ)I"⟩
theorem i_B_cutIntoChunks : bIs y_B_cutIntoChunks 12 := Or.inl ⟨_, _, t2_199⟩
theorem d_B_cutIntoChunks_0 : decode c_B_cutIntoChunks 0 = .ok (.iload_n 1, 1) := by decide +kernel
theorem d_B_cutIntoChunks_1 : decode c_B_cutIntoChunks 1 = .ok (.bipush 8, 2) := by decide +kernel
theorem d_B_cutIntoChunks_3 : decode c_B_cutIntoChunks 3 = .ok (.iadd, 1) := by decide +kernel
theorem d_B_cutIntoChunks_4 : decode c_B_cutIntoChunks 4 = .ok (.iconst 1, 1) := by decide +kernel
theorem d_B_cutIntoChunks_5 : decode c_B_cutIntoChunks 5 = .ok (.isub, 1) := by decide +kernel
theorem d_B_cutIntoChunks_6 : decode c_B_cutIntoChunks 6 = .ok (.bipush 8, 2) := by decide +kernel
theorem d_B_cutIntoChunks_8 : decode c_B_cutIntoChunks 8 = .ok (.idiv, 1) := by decide +kernel
theorem d_B_cutIntoChunks_9 : decode c_B_cutIntoChunks 9 = .ok (.istore 8, 2) := by decide +kernel
theorem d_B_cutIntoChunks_11 : decode c_B_cutIntoChunks 11 = .ok (.iconst 0, 1) := by decide +kernel
theorem d_B_cutIntoChunks_12 : decode c_B_cutIntoChunks 12 = .ok (.istore 9, 2) := by decide +kernel
theorem d_B_cutIntoChunks_14 : decode c_B_cutIntoChunks 14 = .ok (.iload 9, 2) := by decide +kernel
theorem d_B_cutIntoChunks_16 : decode c_B_cutIntoChunks 16 = .ok (.iload 8, 2) := by decide +kernel
theorem d_B_cutIntoChunks_18 : decode c_B_cutIntoChunks 18 = .ok (.if_icmp .ge 61, 3) := by decide +kernel
theorem d_B_cutIntoChunks_21 : decode c_B_cutIntoChunks 21 = .ok (.iload 9, 2) := by decide +kernel
theorem d_B_cutIntoChunks_23 : decode c_B_cutIntoChunks 23 = .ok (.ifCond .ne 7, 3) := by decide +kernel
theorem d_B_cutIntoChunks_26 : decode c_B_cutIntoChunks 26 = .ok (.lload_n 2, 1) := by decide +kernel
theorem d_B_cutIntoChunks_27 : decode c_B_cutIntoChunks 27 = .ok (.goto 16, 3) := by decide +kernel
theorem d_B_cutIntoChunks_30 : decode c_B_cutIntoChunks 30 = .ok (.iload 9, 2) := by decide +kernel
theorem d_B_cutIntoChunks_32 : decode c_B_cutIntoChunks 32 = .ok (.iconst 1, 1) := by decide +kernel
theorem d_B_cutIntoChunks_33 : decode c_B_cutIntoChunks 33 = .ok (.if_icmp .ne 8, 3) := by decide +kernel
theorem d_B_cutIntoChunks_36 : decode c_B_cutIntoChunks 36 = .ok (.lload 4, 2) := by decide +kernel
theorem d_B_cutIntoChunks_38 : decode c_B_cutIntoChunks 38 = .ok (.goto 5, 3) := by decide +kernel
theorem d_B_cutIntoChunks_41 : decode c_B_cutIntoChunks 41 = .ok (.lload 6, 2) := by decide +kernel
theorem d_B_cutIntoChunks_43 : decode c_B_cutIntoChunks 43 = .ok (.lstore 10, 2) := by decide +kernel
theorem d_B_cutIntoChunks_45 : decode c_B_cutIntoChunks 45 = .ok (.aload_n 0, 1) := by decide +kernel
theorem d_B_cutIntoChunks_46 : decode c_B_cutIntoChunks 46 = .ok (.getfield 45, 3) := by decide +kernel
theorem d_B_cutIntoChunks_49 : decode c_B_cutIntoChunks 49 = .ok (.iload 9, 2) := by decide +kernel
theorem d_B_cutIntoChunks_51 : decode c_B_cutIntoChunks 51 = .ok (.aaload, 1) := by decide +kernel
theorem d_B_cutIntoChunks_52 : decode c_B_cutIntoChunks 52 = .ok (.bipush 8, 2) := by decide +kernel
theorem d_B_cutIntoChunks_54 : decode c_B_cutIntoChunks 54 = .ok (.iload_n 1, 1) := by decide +kernel
theorem d_B_cutIntoChunks_55 : decode c_B_cutIntoChunks 55 = .ok (.iload 9, 2) := by decide +kernel
theorem d_B_cutIntoChunks_57 : decode c_B_cutIntoChunks 57 = .ok (.bipush 8, 2) := by decide +kernel
theorem d_B_cutIntoChunks_59 : decode c_B_cutIntoChunks 59 = .ok (.imul, 1) := by decide +kernel
theorem d_B_cutIntoChunks_60 : decode c_B_cutIntoChunks 60 = .ok (.isub, 1) := by decide +kernel
theorem d_B_cutIntoChunks_61 : decode c_B_cutIntoChunks 61 = .ok (.invokestatic 213, 3) := by decide +kernel
theorem d_B_cutIntoChunks_64 : decode c_B_cutIntoChunks 64 = .ok (.lload 10, 2) := by decide +kernel
theorem d_B_cutIntoChunks_66 : decode c_B_cutIntoChunks 66 = .ok (.aload_n 0, 1) := by decide +kernel
theorem d_B_cutIntoChunks_67 : decode c_B_cutIntoChunks 67 = .ok (.getfield 19, 3) := by decide +kernel
theorem d_B_cutIntoChunks_70 : decode c_B_cutIntoChunks 70 = .ok (.invokevirtual 184, 3) := by decide +kernel
theorem d_B_cutIntoChunks_73 : decode c_B_cutIntoChunks 73 = .ok (.iinc 9 1, 3) := by decide +kernel
theorem d_B_cutIntoChunks_76 : decode c_B_cutIntoChunks 76 = .ok (.goto (-62), 3) := by decide +kernel
theorem d_B_cutIntoChunks_79 : decode c_B_cutIntoChunks 79 = .ok (.iload 8, 2) := by decide +kernel
theorem d_B_cutIntoChunks_81 : decode c_B_cutIntoChunks 81 = .ok (.ireturn, 1) := by decide +kernel
abbrev c_B_planSlots : ByteArray := prog_1_method_24_code
abbrev y_B_planSlots : MethodName := ⟨"BlobStore", "planSlots", "(I)V"⟩
theorem i_B_planSlots : bIs y_B_planSlots 5 := Or.inl ⟨_, _, t2_206⟩
theorem d_B_planSlots_0 : decode c_B_planSlots 0 = .ok (.iconst 0, 1) := by decide +kernel
theorem d_B_planSlots_1 : decode c_B_planSlots 1 = .ok (.istore_n 2, 1) := by decide +kernel
theorem d_B_planSlots_2 : decode c_B_planSlots 2 = .ok (.aload_n 0, 1) := by decide +kernel
theorem d_B_planSlots_3 : decode c_B_planSlots 3 = .ok (.getfield 53, 3) := by decide +kernel
theorem d_B_planSlots_6 : decode c_B_planSlots 6 = .ok (.iconst 0, 1) := by decide +kernel
theorem d_B_planSlots_7 : decode c_B_planSlots 7 = .ok (.putfield 163, 3) := by decide +kernel
theorem d_B_planSlots_10 : decode c_B_planSlots 10 = .ok (.iconst 0, 1) := by decide +kernel
theorem d_B_planSlots_11 : decode c_B_planSlots 11 = .ok (.istore_n 3, 1) := by decide +kernel
theorem d_B_planSlots_12 : decode c_B_planSlots 12 = .ok (.iload_n 3, 1) := by decide +kernel
theorem d_B_planSlots_13 : decode c_B_planSlots 13 = .ok (.iload_n 1, 1) := by decide +kernel
theorem d_B_planSlots_14 : decode c_B_planSlots 14 = .ok (.if_icmp .ge 57, 3) := by decide +kernel
theorem d_B_planSlots_17 : decode c_B_planSlots 17 = .ok (.aload_n 0, 1) := by decide +kernel
theorem d_B_planSlots_18 : decode c_B_planSlots 18 = .ok (.iload_n 3, 1) := by decide +kernel
theorem d_B_planSlots_19 : decode c_B_planSlots 19 = .ok (.invokevirtual 219, 3) := by decide +kernel
theorem d_B_planSlots_22 : decode c_B_planSlots 22 = .ok (.istore 4, 2) := by decide +kernel
theorem d_B_planSlots_24 : decode c_B_planSlots 24 = .ok (.iload 4, 2) := by decide +kernel
theorem d_B_planSlots_26 : decode c_B_planSlots 26 = .ok (.ifCond .ge 30, 3) := by decide +kernel
theorem d_B_planSlots_29 : decode c_B_planSlots 29 = .ok (.aload_n 0, 1) := by decide +kernel
theorem d_B_planSlots_30 : decode c_B_planSlots 30 = .ok (.iload_n 2, 1) := by decide +kernel
theorem d_B_planSlots_31 : decode c_B_planSlots 31 = .ok (.invokevirtual 222, 3) := by decide +kernel
theorem d_B_planSlots_34 : decode c_B_planSlots 34 = .ok (.istore 4, 2) := by decide +kernel
theorem d_B_planSlots_36 : decode c_B_planSlots 36 = .ok (.iload 4, 2) := by decide +kernel
theorem d_B_planSlots_38 : decode c_B_planSlots 38 = .ok (.ifCond .ge 13, 3) := by decide +kernel
theorem d_B_planSlots_41 : decode c_B_planSlots 41 = .ok (.new 225, 3) := by decide +kernel
theorem d_B_planSlots_44 : decode c_B_planSlots 44 = .ok (.dup, 1) := by decide +kernel
theorem d_B_planSlots_45 : decode c_B_planSlots 45 = .ok (.ldc 227, 2) := by decide +kernel
theorem d_B_planSlots_47 : decode c_B_planSlots 47 = .ok (.invokespecial 229, 3) := by decide +kernel
theorem d_B_planSlots_50 : decode c_B_planSlots 50 = .ok (.athrow, 1) := by decide +kernel
theorem d_B_planSlots_51 : decode c_B_planSlots 51 = .ok (.iload 4, 2) := by decide +kernel
theorem d_B_planSlots_53 : decode c_B_planSlots 53 = .ok (.iconst 1, 1) := by decide +kernel
theorem d_B_planSlots_54 : decode c_B_planSlots 54 = .ok (.iadd, 1) := by decide +kernel
theorem d_B_planSlots_55 : decode c_B_planSlots 55 = .ok (.istore_n 2, 1) := by decide +kernel
theorem d_B_planSlots_56 : decode c_B_planSlots 56 = .ok (.aload_n 0, 1) := by decide +kernel
theorem d_B_planSlots_57 : decode c_B_planSlots 57 = .ok (.getfield 53, 3) := by decide +kernel
theorem d_B_planSlots_60 : decode c_B_planSlots 60 = .ok (.iload 4, 2) := by decide +kernel
theorem d_B_planSlots_62 : decode c_B_planSlots 62 = .ok (.invokevirtual 230, 3) := by decide +kernel
theorem d_B_planSlots_65 : decode c_B_planSlots 65 = .ok (.iinc 3 1, 3) := by decide +kernel
theorem d_B_planSlots_68 : decode c_B_planSlots 68 = .ok (.goto (-56), 3) := by decide +kernel
theorem d_B_planSlots_71 : decode c_B_planSlots 71 = .ok (.return_, 1) := by decide +kernel
abbrev c_B_plannedSlot : ByteArray := prog_1_method_25_code
abbrev y_B_plannedSlot : MethodName := ⟨"BlobStore", "plannedSlot", "(I)I"⟩
theorem i_B_plannedSlot : bIs y_B_plannedSlot 3 := Or.inl ⟨_, _, t2_210⟩
theorem d_B_plannedSlot_0 : decode c_B_plannedSlot 0 = .ok (.iconst 0, 1) := by decide +kernel
theorem d_B_plannedSlot_1 : decode c_B_plannedSlot 1 = .ok (.istore_n 2, 1) := by decide +kernel
theorem d_B_plannedSlot_2 : decode c_B_plannedSlot 2 = .ok (.iload_n 2, 1) := by decide +kernel
theorem d_B_plannedSlot_3 : decode c_B_plannedSlot 3 = .ok (.iload_n 1, 1) := by decide +kernel
theorem d_B_plannedSlot_4 : decode c_B_plannedSlot 4 = .ok (.if_icmp .ge 37, 3) := by decide +kernel
theorem d_B_plannedSlot_7 : decode c_B_plannedSlot 7 = .ok (.aload_n 0, 1) := by decide +kernel
theorem d_B_plannedSlot_8 : decode c_B_plannedSlot 8 = .ok (.getfield 45, 3) := by decide +kernel
theorem d_B_plannedSlot_11 : decode c_B_plannedSlot 11 = .ok (.iload_n 2, 1) := by decide +kernel
theorem d_B_plannedSlot_12 : decode c_B_plannedSlot 12 = .ok (.aaload, 1) := by decide +kernel
theorem d_B_plannedSlot_13 : decode c_B_plannedSlot 13 = .ok (.aload_n 0, 1) := by decide +kernel
theorem d_B_plannedSlot_14 : decode c_B_plannedSlot 14 = .ok (.getfield 45, 3) := by decide +kernel
theorem d_B_plannedSlot_17 : decode c_B_plannedSlot 17 = .ok (.iload_n 1, 1) := by decide +kernel
theorem d_B_plannedSlot_18 : decode c_B_plannedSlot 18 = .ok (.aaload, 1) := by decide +kernel
theorem d_B_plannedSlot_19 : decode c_B_plannedSlot 19 = .ok (.invokevirtual 209, 3) := by decide +kernel
theorem d_B_plannedSlot_22 : decode c_B_plannedSlot 22 = .ok (.ifCond .eq 13, 3) := by decide +kernel
theorem d_B_plannedSlot_25 : decode c_B_plannedSlot 25 = .ok (.aload_n 0, 1) := by decide +kernel
theorem d_B_plannedSlot_26 : decode c_B_plannedSlot 26 = .ok (.getfield 53, 3) := by decide +kernel
theorem d_B_plannedSlot_29 : decode c_B_plannedSlot 29 = .ok (.getfield 166, 3) := by decide +kernel
theorem d_B_plannedSlot_32 : decode c_B_plannedSlot 32 = .ok (.iload_n 2, 1) := by decide +kernel
theorem d_B_plannedSlot_33 : decode c_B_plannedSlot 33 = .ok (.iaload, 1) := by decide +kernel
theorem d_B_plannedSlot_34 : decode c_B_plannedSlot 34 = .ok (.ireturn, 1) := by decide +kernel
theorem d_B_plannedSlot_35 : decode c_B_plannedSlot 35 = .ok (.iinc 2 1, 3) := by decide +kernel
theorem d_B_plannedSlot_38 : decode c_B_plannedSlot 38 = .ok (.goto (-36), 3) := by decide +kernel
theorem d_B_plannedSlot_41 : decode c_B_plannedSlot 41 = .ok (.aload_n 0, 1) := by decide +kernel
theorem d_B_plannedSlot_42 : decode c_B_plannedSlot 42 = .ok (.aload_n 0, 1) := by decide +kernel
theorem d_B_plannedSlot_43 : decode c_B_plannedSlot 43 = .ok (.getfield 45, 3) := by decide +kernel
theorem d_B_plannedSlot_46 : decode c_B_plannedSlot 46 = .ok (.iload_n 1, 1) := by decide +kernel
theorem d_B_plannedSlot_47 : decode c_B_plannedSlot 47 = .ok (.aaload, 1) := by decide +kernel
theorem d_B_plannedSlot_48 : decode c_B_plannedSlot 48 = .ok (.invokevirtual 188, 3) := by decide +kernel
theorem d_B_plannedSlot_51 : decode c_B_plannedSlot 51 = .ok (.ireturn, 1) := by decide +kernel
abbrev c_B_writeChunks : ByteArray := prog_1_method_26_code
abbrev y_B_writeChunks : MethodName := ⟨"BlobStore", "writeChunks", "(I)I"⟩
theorem i_B_writeChunks : bIs y_B_writeChunks 5 := Or.inl ⟨_, _, t2_238⟩
theorem d_B_writeChunks_0 : decode c_B_writeChunks 0 = .ok (.iconst 0, 1) := by decide +kernel
theorem d_B_writeChunks_1 : decode c_B_writeChunks 1 = .ok (.istore_n 2, 1) := by decide +kernel
theorem d_B_writeChunks_2 : decode c_B_writeChunks 2 = .ok (.iconst 0, 1) := by decide +kernel
theorem d_B_writeChunks_3 : decode c_B_writeChunks 3 = .ok (.istore_n 3, 1) := by decide +kernel
theorem d_B_writeChunks_4 : decode c_B_writeChunks 4 = .ok (.iload_n 3, 1) := by decide +kernel
theorem d_B_writeChunks_5 : decode c_B_writeChunks 5 = .ok (.iload_n 1, 1) := by decide +kernel
theorem d_B_writeChunks_6 : decode c_B_writeChunks 6 = .ok (.if_icmp .ge 54, 3) := by decide +kernel
theorem d_B_writeChunks_9 : decode c_B_writeChunks 9 = .ok (.aload_n 0, 1) := by decide +kernel
theorem d_B_writeChunks_10 : decode c_B_writeChunks 10 = .ok (.getfield 25, 3) := by decide +kernel
theorem d_B_writeChunks_13 : decode c_B_writeChunks 13 = .ok (.aload_n 0, 1) := by decide +kernel
theorem d_B_writeChunks_14 : decode c_B_writeChunks 14 = .ok (.getfield 53, 3) := by decide +kernel
theorem d_B_writeChunks_17 : decode c_B_writeChunks 17 = .ok (.getfield 166, 3) := by decide +kernel
theorem d_B_writeChunks_20 : decode c_B_writeChunks 20 = .ok (.iload_n 3, 1) := by decide +kernel
theorem d_B_writeChunks_21 : decode c_B_writeChunks 21 = .ok (.iaload, 1) := by decide +kernel
theorem d_B_writeChunks_22 : decode c_B_writeChunks 22 = .ok (.aaload, 1) := by decide +kernel
theorem d_B_writeChunks_23 : decode c_B_writeChunks 23 = .ok (.astore 4, 2) := by decide +kernel
theorem d_B_writeChunks_25 : decode c_B_writeChunks 25 = .ok (.aload 4, 2) := by decide +kernel
theorem d_B_writeChunks_27 : decode c_B_writeChunks 27 = .ok (.invokevirtual 139, 3) := by decide +kernel
theorem d_B_writeChunks_30 : decode c_B_writeChunks 30 = .ok (.ifCond .eq 24, 3) := by decide +kernel
theorem d_B_writeChunks_33 : decode c_B_writeChunks 33 = .ok (.aload_n 0, 1) := by decide +kernel
theorem d_B_writeChunks_34 : decode c_B_writeChunks 34 = .ok (.getfield 12, 3) := by decide +kernel
theorem d_B_writeChunks_37 : decode c_B_writeChunks 37 = .ok (.invokevirtual 87, 3) := by decide +kernel
theorem d_B_writeChunks_40 : decode c_B_writeChunks 40 = .ok (.aload 4, 2) := by decide +kernel
theorem d_B_writeChunks_42 : decode c_B_writeChunks 42 = .ok (.aload_n 0, 1) := by decide +kernel
theorem d_B_writeChunks_43 : decode c_B_writeChunks 43 = .ok (.getfield 45, 3) := by decide +kernel
theorem d_B_writeChunks_46 : decode c_B_writeChunks 46 = .ok (.iload_n 3, 1) := by decide +kernel
theorem d_B_writeChunks_47 : decode c_B_writeChunks 47 = .ok (.aaload, 1) := by decide +kernel
theorem d_B_writeChunks_48 : decode c_B_writeChunks 48 = .ok (.invokevirtual 233, 3) := by decide +kernel
theorem d_B_writeChunks_51 : decode c_B_writeChunks 51 = .ok (.iinc 2 1, 3) := by decide +kernel
theorem d_B_writeChunks_54 : decode c_B_writeChunks 54 = .ok (.iinc 3 1, 3) := by decide +kernel
theorem d_B_writeChunks_57 : decode c_B_writeChunks 57 = .ok (.goto (-53), 3) := by decide +kernel
theorem d_B_writeChunks_60 : decode c_B_writeChunks 60 = .ok (.iload_n 2, 1) := by decide +kernel
theorem d_B_writeChunks_61 : decode c_B_writeChunks 61 = .ok (.ireturn, 1) := by decide +kernel
abbrev c_B_countNeeds : ByteArray := prog_1_method_27_code
abbrev y_B_countNeeds : MethodName := ⟨"BlobStore", "countNeeds", "()V"⟩
theorem i_B_countNeeds : bIs y_B_countNeeds 2 := Or.inl ⟨_, _, t1_220⟩
theorem d_B_countNeeds_0 : decode c_B_countNeeds 0 = .ok (.aload_n 0, 1) := by decide +kernel
theorem d_B_countNeeds_1 : decode c_B_countNeeds 1 = .ok (.getfield 62, 3) := by decide +kernel
theorem d_B_countNeeds_4 : decode c_B_countNeeds 4 = .ok (.iconst 0, 1) := by decide +kernel
theorem d_B_countNeeds_5 : decode c_B_countNeeds 5 = .ok (.invokestatic 236, 3) := by decide +kernel
theorem d_B_countNeeds_8 : decode c_B_countNeeds 8 = .ok (.iconst 0, 1) := by decide +kernel
theorem d_B_countNeeds_9 : decode c_B_countNeeds 9 = .ok (.istore_n 1, 1) := by decide +kernel
theorem d_B_countNeeds_10 : decode c_B_countNeeds 10 = .ok (.iload_n 1, 1) := by decide +kernel
theorem d_B_countNeeds_11 : decode c_B_countNeeds 11 = .ok (.iconst 5, 1) := by decide +kernel
theorem d_B_countNeeds_12 : decode c_B_countNeeds 12 = .ok (.if_icmp .ge 34, 3) := by decide +kernel
theorem d_B_countNeeds_15 : decode c_B_countNeeds 15 = .ok (.aload_n 0, 1) := by decide +kernel
theorem d_B_countNeeds_16 : decode c_B_countNeeds 16 = .ok (.getfield 31, 3) := by decide +kernel
theorem d_B_countNeeds_19 : decode c_B_countNeeds 19 = .ok (.iload_n 1, 1) := by decide +kernel
theorem d_B_countNeeds_20 : decode c_B_countNeeds 20 = .ok (.aaload, 1) := by decide +kernel
theorem d_B_countNeeds_21 : decode c_B_countNeeds 21 = .ok (.getfield 125, 3) := by decide +kernel
theorem d_B_countNeeds_24 : decode c_B_countNeeds 24 = .ok (.ifCond .eq 16, 3) := by decide +kernel
theorem d_B_countNeeds_27 : decode c_B_countNeeds 27 = .ok (.aload_n 0, 1) := by decide +kernel
theorem d_B_countNeeds_28 : decode c_B_countNeeds 28 = .ok (.getfield 31, 3) := by decide +kernel
theorem d_B_countNeeds_31 : decode c_B_countNeeds 31 = .ok (.iload_n 1, 1) := by decide +kernel
theorem d_B_countNeeds_32 : decode c_B_countNeeds 32 = .ok (.aaload, 1) := by decide +kernel
theorem d_B_countNeeds_33 : decode c_B_countNeeds 33 = .ok (.aload_n 0, 1) := by decide +kernel
theorem d_B_countNeeds_34 : decode c_B_countNeeds 34 = .ok (.getfield 62, 3) := by decide +kernel
theorem d_B_countNeeds_37 : decode c_B_countNeeds 37 = .ok (.invokevirtual 241, 3) := by decide +kernel
theorem d_B_countNeeds_40 : decode c_B_countNeeds 40 = .ok (.iinc 1 1, 3) := by decide +kernel
theorem d_B_countNeeds_43 : decode c_B_countNeeds 43 = .ok (.goto (-33), 3) := by decide +kernel
theorem d_B_countNeeds_46 : decode c_B_countNeeds 46 = .ok (.iconst 0, 1) := by decide +kernel
theorem d_B_countNeeds_47 : decode c_B_countNeeds 47 = .ok (.istore_n 1, 1) := by decide +kernel
theorem d_B_countNeeds_48 : decode c_B_countNeeds 48 = .ok (.iload_n 1, 1) := by decide +kernel
theorem d_B_countNeeds_49 : decode c_B_countNeeds 49 = .ok (.aload_n 0, 1) := by decide +kernel
theorem d_B_countNeeds_50 : decode c_B_countNeeds 50 = .ok (.getfield 41, 3) := by decide +kernel
theorem d_B_countNeeds_53 : decode c_B_countNeeds 53 = .ok (.if_icmp .ge 37, 3) := by decide +kernel
theorem d_B_countNeeds_56 : decode c_B_countNeeds 56 = .ok (.aload_n 0, 1) := by decide +kernel
theorem d_B_countNeeds_57 : decode c_B_countNeeds 57 = .ok (.getfield 37, 3) := by decide +kernel
theorem d_B_countNeeds_60 : decode c_B_countNeeds 60 = .ok (.iload_n 1, 1) := by decide +kernel
theorem d_B_countNeeds_61 : decode c_B_countNeeds 61 = .ok (.aaload, 1) := by decide +kernel
theorem d_B_countNeeds_62 : decode c_B_countNeeds 62 = .ok (.getfield 133, 3) := by decide +kernel
theorem d_B_countNeeds_65 : decode c_B_countNeeds 65 = .ok (.ifCond .eq 19, 3) := by decide +kernel
theorem d_B_countNeeds_68 : decode c_B_countNeeds 68 = .ok (.aload_n 0, 1) := by decide +kernel
theorem d_B_countNeeds_69 : decode c_B_countNeeds 69 = .ok (.getfield 37, 3) := by decide +kernel
theorem d_B_countNeeds_72 : decode c_B_countNeeds 72 = .ok (.iload_n 1, 1) := by decide +kernel
theorem d_B_countNeeds_73 : decode c_B_countNeeds 73 = .ok (.aaload, 1) := by decide +kernel
theorem d_B_countNeeds_74 : decode c_B_countNeeds 74 = .ok (.getfield 160, 3) := by decide +kernel
theorem d_B_countNeeds_77 : decode c_B_countNeeds 77 = .ok (.aload_n 0, 1) := by decide +kernel
theorem d_B_countNeeds_78 : decode c_B_countNeeds 78 = .ok (.getfield 62, 3) := by decide +kernel
theorem d_B_countNeeds_81 : decode c_B_countNeeds 81 = .ok (.invokevirtual 245, 3) := by decide +kernel
theorem d_B_countNeeds_84 : decode c_B_countNeeds 84 = .ok (.iinc 1 1, 3) := by decide +kernel
theorem d_B_countNeeds_87 : decode c_B_countNeeds 87 = .ok (.goto (-39), 3) := by decide +kernel
theorem d_B_countNeeds_90 : decode c_B_countNeeds 90 = .ok (.return_, 1) := by decide +kernel
abbrev c_B_countChunks : ByteArray := prog_1_method_28_code
abbrev y_B_countChunks : MethodName := ⟨"BlobStore", "countChunks", "()I"⟩
theorem i_B_countChunks : bIs y_B_countChunks 3 := Or.inl ⟨_, _, t2_42⟩
theorem d_B_countChunks_0 : decode c_B_countChunks 0 = .ok (.iconst 0, 1) := by decide +kernel
theorem d_B_countChunks_1 : decode c_B_countChunks 1 = .ok (.istore_n 1, 1) := by decide +kernel
theorem d_B_countChunks_2 : decode c_B_countChunks 2 = .ok (.iconst 0, 1) := by decide +kernel
theorem d_B_countChunks_3 : decode c_B_countChunks 3 = .ok (.istore_n 2, 1) := by decide +kernel
theorem d_B_countChunks_4 : decode c_B_countChunks 4 = .ok (.iload_n 2, 1) := by decide +kernel
theorem d_B_countChunks_5 : decode c_B_countChunks 5 = .ok (.bipush 48, 2) := by decide +kernel
theorem d_B_countChunks_7 : decode c_B_countChunks 7 = .ok (.if_icmp .ge 29, 3) := by decide +kernel
theorem d_B_countChunks_10 : decode c_B_countChunks 10 = .ok (.iload_n 1, 1) := by decide +kernel
theorem d_B_countChunks_11 : decode c_B_countChunks 11 = .ok (.aload_n 0, 1) := by decide +kernel
theorem d_B_countChunks_12 : decode c_B_countChunks 12 = .ok (.getfield 25, 3) := by decide +kernel
theorem d_B_countChunks_15 : decode c_B_countChunks 15 = .ok (.iload_n 2, 1) := by decide +kernel
theorem d_B_countChunks_16 : decode c_B_countChunks 16 = .ok (.aaload, 1) := by decide +kernel
theorem d_B_countChunks_17 : decode c_B_countChunks 17 = .ok (.invokevirtual 139, 3) := by decide +kernel
theorem d_B_countChunks_20 : decode c_B_countChunks 20 = .ok (.ifCond .eq 7, 3) := by decide +kernel
theorem d_B_countChunks_23 : decode c_B_countChunks 23 = .ok (.iconst 0, 1) := by decide +kernel
theorem d_B_countChunks_24 : decode c_B_countChunks 24 = .ok (.goto 4, 3) := by decide +kernel
theorem d_B_countChunks_27 : decode c_B_countChunks 27 = .ok (.iconst 1, 1) := by decide +kernel
theorem d_B_countChunks_28 : decode c_B_countChunks 28 = .ok (.iadd, 1) := by decide +kernel
theorem d_B_countChunks_29 : decode c_B_countChunks 29 = .ok (.istore_n 1, 1) := by decide +kernel
theorem d_B_countChunks_30 : decode c_B_countChunks 30 = .ok (.iinc 2 1, 3) := by decide +kernel
theorem d_B_countChunks_33 : decode c_B_countChunks 33 = .ok (.goto (-29), 3) := by decide +kernel
theorem d_B_countChunks_36 : decode c_B_countChunks 36 = .ok (.iload_n 1, 1) := by decide +kernel
theorem d_B_countChunks_37 : decode c_B_countChunks 37 = .ok (.ireturn, 1) := by decide +kernel
abbrev c_B_countOpenSessions : ByteArray := prog_1_method_29_code
abbrev y_B_countOpenSessions : MethodName := ⟨"BlobStore", "countOpenSessions", "()I"⟩
theorem i_B_countOpenSessions : bIs y_B_countOpenSessions 3 := Or.inl ⟨_, _, t2_46⟩
theorem d_B_countOpenSessions_0 : decode c_B_countOpenSessions 0 = .ok (.iconst 0, 1) := by decide +kernel
theorem d_B_countOpenSessions_1 : decode c_B_countOpenSessions 1 = .ok (.istore_n 1, 1) := by decide +kernel
theorem d_B_countOpenSessions_2 : decode c_B_countOpenSessions 2 = .ok (.iconst 0, 1) := by decide +kernel
theorem d_B_countOpenSessions_3 : decode c_B_countOpenSessions 3 = .ok (.istore_n 2, 1) := by decide +kernel
theorem d_B_countOpenSessions_4 : decode c_B_countOpenSessions 4 = .ok (.iload_n 2, 1) := by decide +kernel
theorem d_B_countOpenSessions_5 : decode c_B_countOpenSessions 5 = .ok (.iconst 5, 1) := by decide +kernel
theorem d_B_countOpenSessions_6 : decode c_B_countOpenSessions 6 = .ok (.if_icmp .ge 29, 3) := by decide +kernel
theorem d_B_countOpenSessions_9 : decode c_B_countOpenSessions 9 = .ok (.iload_n 1, 1) := by decide +kernel
theorem d_B_countOpenSessions_10 : decode c_B_countOpenSessions 10 = .ok (.aload_n 0, 1) := by decide +kernel
theorem d_B_countOpenSessions_11 : decode c_B_countOpenSessions 11 = .ok (.getfield 31, 3) := by decide +kernel
theorem d_B_countOpenSessions_14 : decode c_B_countOpenSessions 14 = .ok (.iload_n 2, 1) := by decide +kernel
theorem d_B_countOpenSessions_15 : decode c_B_countOpenSessions 15 = .ok (.aaload, 1) := by decide +kernel
theorem d_B_countOpenSessions_16 : decode c_B_countOpenSessions 16 = .ok (.getfield 125, 3) := by decide +kernel
theorem d_B_countOpenSessions_19 : decode c_B_countOpenSessions 19 = .ok (.ifCond .eq 7, 3) := by decide +kernel
theorem d_B_countOpenSessions_22 : decode c_B_countOpenSessions 22 = .ok (.iconst 1, 1) := by decide +kernel
theorem d_B_countOpenSessions_23 : decode c_B_countOpenSessions 23 = .ok (.goto 4, 3) := by decide +kernel
theorem d_B_countOpenSessions_26 : decode c_B_countOpenSessions 26 = .ok (.iconst 0, 1) := by decide +kernel
theorem d_B_countOpenSessions_27 : decode c_B_countOpenSessions 27 = .ok (.iadd, 1) := by decide +kernel
theorem d_B_countOpenSessions_28 : decode c_B_countOpenSessions 28 = .ok (.istore_n 1, 1) := by decide +kernel
theorem d_B_countOpenSessions_29 : decode c_B_countOpenSessions 29 = .ok (.iinc 2 1, 3) := by decide +kernel
theorem d_B_countOpenSessions_32 : decode c_B_countOpenSessions 32 = .ok (.goto (-28), 3) := by decide +kernel
theorem d_B_countOpenSessions_35 : decode c_B_countOpenSessions 35 = .ok (.iload_n 1, 1) := by decide +kernel
theorem d_B_countOpenSessions_36 : decode c_B_countOpenSessions 36 = .ok (.ireturn, 1) := by decide +kernel
abbrev c_B_countLivingVersions : ByteArray := prog_1_method_30_code
abbrev y_B_countLivingVersions : MethodName := ⟨"BlobStore", "countLivingVersions", "()I"⟩
theorem i_B_countLivingVersions : bIs y_B_countLivingVersions 3 := Or.inl ⟨_, _, t2_50⟩
theorem d_B_countLivingVersions_0 : decode c_B_countLivingVersions 0 = .ok (.iconst 0, 1) := by decide +kernel
theorem d_B_countLivingVersions_1 : decode c_B_countLivingVersions 1 = .ok (.istore_n 1, 1) := by decide +kernel
theorem d_B_countLivingVersions_2 : decode c_B_countLivingVersions 2 = .ok (.iconst 0, 1) := by decide +kernel
theorem d_B_countLivingVersions_3 : decode c_B_countLivingVersions 3 = .ok (.istore_n 2, 1) := by decide +kernel
theorem d_B_countLivingVersions_4 : decode c_B_countLivingVersions 4 = .ok (.iload_n 2, 1) := by decide +kernel
theorem d_B_countLivingVersions_5 : decode c_B_countLivingVersions 5 = .ok (.aload_n 0, 1) := by decide +kernel
theorem d_B_countLivingVersions_6 : decode c_B_countLivingVersions 6 = .ok (.getfield 41, 3) := by decide +kernel
theorem d_B_countLivingVersions_9 : decode c_B_countLivingVersions 9 = .ok (.if_icmp .ge 29, 3) := by decide +kernel
theorem d_B_countLivingVersions_12 : decode c_B_countLivingVersions 12 = .ok (.iload_n 1, 1) := by decide +kernel
theorem d_B_countLivingVersions_13 : decode c_B_countLivingVersions 13 = .ok (.aload_n 0, 1) := by decide +kernel
theorem d_B_countLivingVersions_14 : decode c_B_countLivingVersions 14 = .ok (.getfield 37, 3) := by decide +kernel
theorem d_B_countLivingVersions_17 : decode c_B_countLivingVersions 17 = .ok (.iload_n 2, 1) := by decide +kernel
theorem d_B_countLivingVersions_18 : decode c_B_countLivingVersions 18 = .ok (.aaload, 1) := by decide +kernel
theorem d_B_countLivingVersions_19 : decode c_B_countLivingVersions 19 = .ok (.getfield 133, 3) := by decide +kernel
theorem d_B_countLivingVersions_22 : decode c_B_countLivingVersions 22 = .ok (.ifCond .eq 7, 3) := by decide +kernel
theorem d_B_countLivingVersions_25 : decode c_B_countLivingVersions 25 = .ok (.iconst 1, 1) := by decide +kernel
theorem d_B_countLivingVersions_26 : decode c_B_countLivingVersions 26 = .ok (.goto 4, 3) := by decide +kernel
theorem d_B_countLivingVersions_29 : decode c_B_countLivingVersions 29 = .ok (.iconst 0, 1) := by decide +kernel
theorem d_B_countLivingVersions_30 : decode c_B_countLivingVersions 30 = .ok (.iadd, 1) := by decide +kernel
theorem d_B_countLivingVersions_31 : decode c_B_countLivingVersions 31 = .ok (.istore_n 1, 1) := by decide +kernel
theorem d_B_countLivingVersions_32 : decode c_B_countLivingVersions 32 = .ok (.iinc 2 1, 3) := by decide +kernel
theorem d_B_countLivingVersions_35 : decode c_B_countLivingVersions 35 = .ok (.goto (-31), 3) := by decide +kernel
theorem d_B_countLivingVersions_38 : decode c_B_countLivingVersions 38 = .ok (.iload_n 1, 1) := by decide +kernel
theorem d_B_countLivingVersions_39 : decode c_B_countLivingVersions 39 = .ok (.ireturn, 1) := by decide +kernel
end
section
abbrev c_M_init : ByteArray := prog_9_method_1_code
abbrev y_M_init : MethodName := ⟨"BlobStoreModel", "<init>", "()V"⟩
theorem i_M_init : bIs y_M_init 3 := Or.inl ⟨_, _, t3_93⟩
theorem d_M_init_0 : decode c_M_init 0 = .ok (.aload_n 0, 1) := by decide +kernel
theorem d_M_init_1 : decode c_M_init 1 = .ok (.invokespecial 1, 3) := by decide +kernel
theorem d_M_init_4 : decode c_M_init 4 = .ok (.aload_n 0, 1) := by decide +kernel
theorem d_M_init_5 : decode c_M_init 5 = .ok (.bipush 48, 2) := by decide +kernel
theorem d_M_init_7 : decode c_M_init 7 = .ok (.newarray .int, 2) := by decide +kernel
theorem d_M_init_9 : decode c_M_init 9 = .ok (.putfield 7, 3) := by decide +kernel
theorem d_M_init_12 : decode c_M_init 12 = .ok (.aload_n 0, 1) := by decide +kernel
theorem d_M_init_13 : decode c_M_init 13 = .ok (.sipush 384, 3) := by decide +kernel
theorem d_M_init_16 : decode c_M_init 16 = .ok (.newarray .int, 2) := by decide +kernel
theorem d_M_init_18 : decode c_M_init 18 = .ok (.putfield 13, 3) := by decide +kernel
theorem d_M_init_21 : decode c_M_init 21 = .ok (.aload_n 0, 1) := by decide +kernel
theorem d_M_init_22 : decode c_M_init 22 = .ok (.iconst 5, 1) := by decide +kernel
theorem d_M_init_23 : decode c_M_init 23 = .ok (.newarray .boolean, 2) := by decide +kernel
theorem d_M_init_25 : decode c_M_init 25 = .ok (.putfield 16, 3) := by decide +kernel
theorem d_M_init_28 : decode c_M_init 28 = .ok (.aload_n 0, 1) := by decide +kernel
theorem d_M_init_29 : decode c_M_init 29 = .ok (.iconst 5, 1) := by decide +kernel
theorem d_M_init_30 : decode c_M_init 30 = .ok (.newarray .int, 2) := by decide +kernel
theorem d_M_init_32 : decode c_M_init 32 = .ok (.putfield 20, 3) := by decide +kernel
theorem d_M_init_35 : decode c_M_init 35 = .ok (.aload_n 0, 1) := by decide +kernel
theorem d_M_init_36 : decode c_M_init 36 = .ok (.iconst 5, 1) := by decide +kernel
theorem d_M_init_37 : decode c_M_init 37 = .ok (.newarray .int, 2) := by decide +kernel
theorem d_M_init_39 : decode c_M_init 39 = .ok (.putfield 23, 3) := by decide +kernel
theorem d_M_init_42 : decode c_M_init 42 = .ok (.aload_n 0, 1) := by decide +kernel
theorem d_M_init_43 : decode c_M_init 43 = .ok (.bipush 35, 2) := by decide +kernel
theorem d_M_init_45 : decode c_M_init 45 = .ok (.newarray .int, 2) := by decide +kernel
theorem d_M_init_47 : decode c_M_init 47 = .ok (.putfield 26, 3) := by decide +kernel
theorem d_M_init_50 : decode c_M_init 50 = .ok (.aload_n 0, 1) := by decide +kernel
theorem d_M_init_51 : decode c_M_init 51 = .ok (.bipush 105, 2) := by decide +kernel
theorem d_M_init_53 : decode c_M_init 53 = .ok (.newarray .int, 2) := by decide +kernel
theorem d_M_init_55 : decode c_M_init 55 = .ok (.putfield 29, 3) := by decide +kernel
theorem d_M_init_58 : decode c_M_init 58 = .ok (.aload_n 0, 1) := by decide +kernel
theorem d_M_init_59 : decode c_M_init 59 = .ok (.bipush 41, 2) := by decide +kernel
theorem d_M_init_61 : decode c_M_init 61 = .ok (.newarray .boolean, 2) := by decide +kernel
theorem d_M_init_63 : decode c_M_init 63 = .ok (.putfield 32, 3) := by decide +kernel
theorem d_M_init_66 : decode c_M_init 66 = .ok (.aload_n 0, 1) := by decide +kernel
theorem d_M_init_67 : decode c_M_init 67 = .ok (.bipush 41, 2) := by decide +kernel
theorem d_M_init_69 : decode c_M_init 69 = .ok (.newarray .int, 2) := by decide +kernel
theorem d_M_init_71 : decode c_M_init 71 = .ok (.putfield 35, 3) := by decide +kernel
theorem d_M_init_74 : decode c_M_init 74 = .ok (.aload_n 0, 1) := by decide +kernel
theorem d_M_init_75 : decode c_M_init 75 = .ok (.bipush 41, 2) := by decide +kernel
theorem d_M_init_77 : decode c_M_init 77 = .ok (.newarray .int, 2) := by decide +kernel
theorem d_M_init_79 : decode c_M_init 79 = .ok (.putfield 38, 3) := by decide +kernel
theorem d_M_init_82 : decode c_M_init 82 = .ok (.aload_n 0, 1) := by decide +kernel
theorem d_M_init_83 : decode c_M_init 83 = .ok (.bipush 41, 2) := by decide +kernel
theorem d_M_init_85 : decode c_M_init 85 = .ok (.newarray .int, 2) := by decide +kernel
theorem d_M_init_87 : decode c_M_init 87 = .ok (.putfield 41, 3) := by decide +kernel
theorem d_M_init_90 : decode c_M_init 90 = .ok (.aload_n 0, 1) := by decide +kernel
theorem d_M_init_91 : decode c_M_init 91 = .ok (.sipush 738, 3) := by decide +kernel
theorem d_M_init_94 : decode c_M_init 94 = .ok (.newarray .int, 2) := by decide +kernel
theorem d_M_init_96 : decode c_M_init 96 = .ok (.putfield 44, 3) := by decide +kernel
theorem d_M_init_99 : decode c_M_init 99 = .ok (.aload_n 0, 1) := by decide +kernel
theorem d_M_init_100 : decode c_M_init 100 = .ok (.iconst (-1), 1) := by decide +kernel
theorem d_M_init_101 : decode c_M_init 101 = .ok (.putfield 47, 3) := by decide +kernel
theorem d_M_init_104 : decode c_M_init 104 = .ok (.aload_n 0, 1) := by decide +kernel
theorem d_M_init_105 : decode c_M_init 105 = .ok (.bipush 72, 2) := by decide +kernel
theorem d_M_init_107 : decode c_M_init 107 = .ok (.newarray .int, 2) := by decide +kernel
theorem d_M_init_109 : decode c_M_init 109 = .ok (.putfield 51, 3) := by decide +kernel
theorem d_M_init_112 : decode c_M_init 112 = .ok (.aload_n 0, 1) := by decide +kernel
theorem d_M_init_113 : decode c_M_init 113 = .ok (.bipush 64, 2) := by decide +kernel
theorem d_M_init_115 : decode c_M_init 115 = .ok (.newarray .int, 2) := by decide +kernel
theorem d_M_init_117 : decode c_M_init 117 = .ok (.putfield 54, 3) := by decide +kernel
theorem d_M_init_120 : decode c_M_init 120 = .ok (.aload_n 0, 1) := by decide +kernel
theorem d_M_init_121 : decode c_M_init 121 = .ok (.bipush 8, 2) := by decide +kernel
theorem d_M_init_123 : decode c_M_init 123 = .ok (.newarray .int, 2) := by decide +kernel
theorem d_M_init_125 : decode c_M_init 125 = .ok (.putfield 57, 3) := by decide +kernel
theorem d_M_init_128 : decode c_M_init 128 = .ok (.aload_n 0, 1) := by decide +kernel
theorem d_M_init_129 : decode c_M_init 129 = .ok (.bipush 24, 2) := by decide +kernel
theorem d_M_init_131 : decode c_M_init 131 = .ok (.newarray .int, 2) := by decide +kernel
theorem d_M_init_133 : decode c_M_init 133 = .ok (.putfield 60, 3) := by decide +kernel
theorem d_M_init_136 : decode c_M_init 136 = .ok (.aload_n 0, 1) := by decide +kernel
theorem d_M_init_137 : decode c_M_init 137 = .ok (.bipush 8, 2) := by decide +kernel
theorem d_M_init_139 : decode c_M_init 139 = .ok (.newarray .long, 2) := by decide +kernel
theorem d_M_init_141 : decode c_M_init 141 = .ok (.putfield 63, 3) := by decide +kernel
theorem d_M_init_144 : decode c_M_init 144 = .ok (.iconst 0, 1) := by decide +kernel
theorem d_M_init_145 : decode c_M_init 145 = .ok (.istore_n 1, 1) := by decide +kernel
theorem d_M_init_146 : decode c_M_init 146 = .ok (.iconst 2, 1) := by decide +kernel
theorem d_M_init_147 : decode c_M_init 147 = .ok (.istore_n 2, 1) := by decide +kernel
theorem d_M_init_148 : decode c_M_init 148 = .ok (.iload_n 1, 1) := by decide +kernel
theorem d_M_init_149 : decode c_M_init 149 = .ok (.bipush 64, 2) := by decide +kernel
theorem d_M_init_151 : decode c_M_init 151 = .ok (.if_icmp .ge 55, 3) := by decide +kernel
theorem d_M_init_154 : decode c_M_init 154 = .ok (.iload_n 2, 1) := by decide +kernel
theorem d_M_init_155 : decode c_M_init 155 = .ok (.invokestatic 67, 3) := by decide +kernel
theorem d_M_init_158 : decode c_M_init 158 = .ok (.ifCond .ne 6, 3) := by decide +kernel
theorem d_M_init_161 : decode c_M_init 161 = .ok (.goto 39, 3) := by decide +kernel
theorem d_M_init_164 : decode c_M_init 164 = .ok (.aload_n 0, 1) := by decide +kernel
theorem d_M_init_165 : decode c_M_init 165 = .ok (.getfield 51, 3) := by decide +kernel
theorem d_M_init_168 : decode c_M_init 168 = .ok (.iload_n 1, 1) := by decide +kernel
theorem d_M_init_169 : decode c_M_init 169 = .ok (.aload_n 0, 1) := by decide +kernel
theorem d_M_init_170 : decode c_M_init 170 = .ok (.iload_n 2, 1) := by decide +kernel
theorem d_M_init_171 : decode c_M_init 171 = .ok (.iconst 3, 1) := by decide +kernel
theorem d_M_init_172 : decode c_M_init 172 = .ok (.invokevirtual 71, 3) := by decide +kernel
theorem d_M_init_175 : decode c_M_init 175 = .ok (.iastore, 1) := by decide +kernel
theorem d_M_init_176 : decode c_M_init 176 = .ok (.iload_n 1, 1) := by decide +kernel
theorem d_M_init_177 : decode c_M_init 177 = .ok (.bipush 8, 2) := by decide +kernel
theorem d_M_init_179 : decode c_M_init 179 = .ok (.if_icmp .ge 18, 3) := by decide +kernel
theorem d_M_init_182 : decode c_M_init 182 = .ok (.aload_n 0, 1) := by decide +kernel
theorem d_M_init_183 : decode c_M_init 183 = .ok (.getfield 51, 3) := by decide +kernel
theorem d_M_init_186 : decode c_M_init 186 = .ok (.bipush 64, 2) := by decide +kernel
theorem d_M_init_188 : decode c_M_init 188 = .ok (.iload_n 1, 1) := by decide +kernel
theorem d_M_init_189 : decode c_M_init 189 = .ok (.iadd, 1) := by decide +kernel
theorem d_M_init_190 : decode c_M_init 190 = .ok (.aload_n 0, 1) := by decide +kernel
theorem d_M_init_191 : decode c_M_init 191 = .ok (.iload_n 2, 1) := by decide +kernel
theorem d_M_init_192 : decode c_M_init 192 = .ok (.iconst 2, 1) := by decide +kernel
theorem d_M_init_193 : decode c_M_init 193 = .ok (.invokevirtual 71, 3) := by decide +kernel
theorem d_M_init_196 : decode c_M_init 196 = .ok (.iastore, 1) := by decide +kernel
theorem d_M_init_197 : decode c_M_init 197 = .ok (.iinc 1 1, 3) := by decide +kernel
theorem d_M_init_200 : decode c_M_init 200 = .ok (.iinc 2 1, 3) := by decide +kernel
theorem d_M_init_203 : decode c_M_init 203 = .ok (.goto (-55), 3) := by decide +kernel
theorem d_M_init_206 : decode c_M_init 206 = .ok (.return_, 1) := by decide +kernel
abbrev c_M_thrown : ByteArray := prog_9_method_2_code
abbrev y_M_thrown : MethodName := ⟨"BlobStoreModel", "thrown", "()I"⟩
theorem i_M_thrown : bIs y_M_thrown 1 := Or.inl ⟨_, _, t3_179⟩
theorem d_M_thrown_0 : decode c_M_thrown 0 = .ok (.aload_n 0, 1) := by decide +kernel
theorem d_M_thrown_1 : decode c_M_thrown 1 = .ok (.getfield 75, 3) := by decide +kernel
theorem d_M_thrown_4 : decode c_M_thrown 4 = .ok (.ireturn, 1) := by decide +kernel
abbrev c_M_says : ByteArray := prog_9_method_3_code
abbrev y_M_says : MethodName := ⟨"BlobStoreModel", "says", "(I)Z"⟩
theorem i_M_says : bIs y_M_says 2 := Or.inl ⟨_, _, t3_190⟩
theorem d_M_says_0 : decode c_M_says 0 = .ok (.aload_n 0, 1) := by decide +kernel
theorem d_M_says_1 : decode c_M_says 1 = .ok (.iload_n 1, 1) := by decide +kernel
theorem d_M_says_2 : decode c_M_says 2 = .ok (.putfield 75, 3) := by decide +kernel
theorem d_M_says_5 : decode c_M_says 5 = .ok (.iload_n 1, 1) := by decide +kernel
theorem d_M_says_6 : decode c_M_says 6 = .ok (.ifCond .ne 7, 3) := by decide +kernel
theorem d_M_says_9 : decode c_M_says 9 = .ok (.iconst 1, 1) := by decide +kernel
theorem d_M_says_10 : decode c_M_says 10 = .ok (.goto 4, 3) := by decide +kernel
theorem d_M_says_13 : decode c_M_says 13 = .ok (.iconst 0, 1) := by decide +kernel
theorem d_M_says_14 : decode c_M_says 14 = .ok (.ireturn, 1) := by decide +kernel
abbrev c_M_in : ByteArray := prog_9_method_4_code
abbrev y_M_in : MethodName := ⟨"BlobStoreModel", "in", "(III)Z"⟩
theorem i_M_in : bIs y_M_in 3 := Or.inl ⟨_, _, t3_186⟩
theorem d_M_in_0 : decode c_M_in 0 = .ok (.iload_n 0, 1) := by decide +kernel
theorem d_M_in_1 : decode c_M_in 1 = .ok (.iload_n 1, 1) := by decide +kernel
theorem d_M_in_2 : decode c_M_in 2 = .ok (.if_icmp .lt 12, 3) := by decide +kernel
theorem d_M_in_5 : decode c_M_in 5 = .ok (.iload_n 0, 1) := by decide +kernel
theorem d_M_in_6 : decode c_M_in 6 = .ok (.iload_n 2, 1) := by decide +kernel
theorem d_M_in_7 : decode c_M_in 7 = .ok (.if_icmp .gt 7, 3) := by decide +kernel
theorem d_M_in_10 : decode c_M_in 10 = .ok (.iconst 1, 1) := by decide +kernel
theorem d_M_in_11 : decode c_M_in 11 = .ok (.goto 4, 3) := by decide +kernel
theorem d_M_in_14 : decode c_M_in 14 = .ok (.iconst 0, 1) := by decide +kernel
theorem d_M_in_15 : decode c_M_in 15 = .ok (.ireturn, 1) := by decide +kernel
abbrev c_M_isPrime : ByteArray := prog_9_method_5_code
abbrev y_M_isPrime : MethodName := ⟨"BlobStoreModel", "isPrime", "(I)Z"⟩
theorem i_M_isPrime : bIs y_M_isPrime 2 := Or.inl ⟨_, _, t3_97⟩
theorem d_M_isPrime_0 : decode c_M_isPrime 0 = .ok (.iconst 2, 1) := by decide +kernel
theorem d_M_isPrime_1 : decode c_M_isPrime 1 = .ok (.istore_n 1, 1) := by decide +kernel
theorem d_M_isPrime_2 : decode c_M_isPrime 2 = .ok (.iload_n 1, 1) := by decide +kernel
theorem d_M_isPrime_3 : decode c_M_isPrime 3 = .ok (.iload_n 1, 1) := by decide +kernel
theorem d_M_isPrime_4 : decode c_M_isPrime 4 = .ok (.imul, 1) := by decide +kernel
theorem d_M_isPrime_5 : decode c_M_isPrime 5 = .ok (.iload_n 0, 1) := by decide +kernel
theorem d_M_isPrime_6 : decode c_M_isPrime 6 = .ok (.if_icmp .gt 17, 3) := by decide +kernel
theorem d_M_isPrime_9 : decode c_M_isPrime 9 = .ok (.iload_n 0, 1) := by decide +kernel
theorem d_M_isPrime_10 : decode c_M_isPrime 10 = .ok (.iload_n 1, 1) := by decide +kernel
theorem d_M_isPrime_11 : decode c_M_isPrime 11 = .ok (.irem, 1) := by decide +kernel
theorem d_M_isPrime_12 : decode c_M_isPrime 12 = .ok (.ifCond .ne 5, 3) := by decide +kernel
theorem d_M_isPrime_15 : decode c_M_isPrime 15 = .ok (.iconst 0, 1) := by decide +kernel
theorem d_M_isPrime_16 : decode c_M_isPrime 16 = .ok (.ireturn, 1) := by decide +kernel
theorem d_M_isPrime_17 : decode c_M_isPrime 17 = .ok (.iinc 1 1, 3) := by decide +kernel
theorem d_M_isPrime_20 : decode c_M_isPrime 20 = .ok (.goto (-18), 3) := by decide +kernel
theorem d_M_isPrime_23 : decode c_M_isPrime 23 = .ok (.iconst 1, 1) := by decide +kernel
theorem d_M_isPrime_24 : decode c_M_isPrime 24 = .ok (.ireturn, 1) := by decide +kernel
abbrev c_M_root : ByteArray := prog_9_method_6_code
abbrev y_M_root : MethodName := ⟨"BlobStoreModel", "root", "(II)I"⟩
theorem i_M_root : bIs y_M_root 6 := Or.inl ⟨_, _, t3_101⟩
theorem d_M_root_0 : decode c_M_root 0 = .ok (.lconst 0, 1) := by decide +kernel
theorem d_M_root_1 : decode c_M_root 1 = .ok (.lstore_n 3, 1) := by decide +kernel
theorem d_M_root_2 : decode c_M_root 2 = .ok (.bipush 35, 2) := by decide +kernel
theorem d_M_root_4 : decode c_M_root 4 = .ok (.istore 5, 2) := by decide +kernel
theorem d_M_root_6 : decode c_M_root 6 = .ok (.iload 5, 2) := by decide +kernel
theorem d_M_root_8 : decode c_M_root 8 = .ok (.ifCond .lt 31, 3) := by decide +kernel
theorem d_M_root_11 : decode c_M_root 11 = .ok (.aload_n 0, 1) := by decide +kernel
theorem d_M_root_12 : decode c_M_root 12 = .ok (.lload_n 3, 1) := by decide +kernel
theorem d_M_root_13 : decode c_M_root 13 = .ok (.lconst 1, 1) := by decide +kernel
theorem d_M_root_14 : decode c_M_root 14 = .ok (.iload 5, 2) := by decide +kernel
theorem d_M_root_16 : decode c_M_root 16 = .ok (.lshl, 1) := by decide +kernel
theorem d_M_root_17 : decode c_M_root 17 = .ok (.lor, 1) := by decide +kernel
theorem d_M_root_18 : decode c_M_root 18 = .ok (.iload_n 1, 1) := by decide +kernel
theorem d_M_root_19 : decode c_M_root 19 = .ok (.iload_n 2, 1) := by decide +kernel
theorem d_M_root_20 : decode c_M_root 20 = .ok (.invokevirtual 78, 3) := by decide +kernel
theorem d_M_root_23 : decode c_M_root 23 = .ok (.ifCond .ne 10, 3) := by decide +kernel
theorem d_M_root_26 : decode c_M_root 26 = .ok (.lload_n 3, 1) := by decide +kernel
theorem d_M_root_27 : decode c_M_root 27 = .ok (.lconst 1, 1) := by decide +kernel
theorem d_M_root_28 : decode c_M_root 28 = .ok (.iload 5, 2) := by decide +kernel
theorem d_M_root_30 : decode c_M_root 30 = .ok (.lshl, 1) := by decide +kernel
theorem d_M_root_31 : decode c_M_root 31 = .ok (.lor, 1) := by decide +kernel
theorem d_M_root_32 : decode c_M_root 32 = .ok (.lstore_n 3, 1) := by decide +kernel
theorem d_M_root_33 : decode c_M_root 33 = .ok (.iinc 5 (-1), 3) := by decide +kernel
theorem d_M_root_36 : decode c_M_root 36 = .ok (.goto (-30), 3) := by decide +kernel
theorem d_M_root_39 : decode c_M_root 39 = .ok (.lload_n 3, 1) := by decide +kernel
theorem d_M_root_40 : decode c_M_root 40 = .ok (.l2i, 1) := by decide +kernel
theorem d_M_root_41 : decode c_M_root 41 = .ok (.ireturn, 1) := by decide +kernel
abbrev c_M_isAbove : ByteArray := prog_9_method_7_code
abbrev y_M_isAbove : MethodName := ⟨"BlobStoreModel", "isAbove", "(JII)Z"⟩
theorem i_M_isAbove : bIs y_M_isAbove 15 := Or.inl ⟨_, _, t3_105⟩
theorem d_M_isAbove_0 : decode c_M_isAbove 0 = .ok (.lload_n 1, 1) := by decide +kernel
theorem d_M_isAbove_1 : decode c_M_isAbove 1 = .ok (.ldc2_w 82, 3) := by decide +kernel
theorem d_M_isAbove_4 : decode c_M_isAbove 4 = .ok (.land, 1) := by decide +kernel
theorem d_M_isAbove_5 : decode c_M_isAbove 5 = .ok (.lstore 5, 2) := by decide +kernel
theorem d_M_isAbove_7 : decode c_M_isAbove 7 = .ok (.lload_n 1, 1) := by decide +kernel
theorem d_M_isAbove_8 : decode c_M_isAbove 8 = .ok (.bipush 20, 2) := by decide +kernel
theorem d_M_isAbove_10 : decode c_M_isAbove 10 = .ok (.lshr, 1) := by decide +kernel
theorem d_M_isAbove_11 : decode c_M_isAbove 11 = .ok (.lstore 7, 2) := by decide +kernel
theorem d_M_isAbove_13 : decode c_M_isAbove 13 = .ok (.iconst 0, 1) := by decide +kernel
theorem d_M_isAbove_14 : decode c_M_isAbove 14 = .ok (.istore 9, 2) := by decide +kernel
theorem d_M_isAbove_16 : decode c_M_isAbove 16 = .ok (.iload 9, 2) := by decide +kernel
theorem d_M_isAbove_18 : decode c_M_isAbove 18 = .ok (.bipush 8, 2) := by decide +kernel
theorem d_M_isAbove_20 : decode c_M_isAbove 20 = .ok (.if_icmp .ge 26, 3) := by decide +kernel
theorem d_M_isAbove_23 : decode c_M_isAbove 23 = .ok (.aload_n 0, 1) := by decide +kernel
theorem d_M_isAbove_24 : decode c_M_isAbove 24 = .ok (.getfield 63, 3) := by decide +kernel
theorem d_M_isAbove_27 : decode c_M_isAbove 27 = .ok (.iload 9, 2) := by decide +kernel
theorem d_M_isAbove_29 : decode c_M_isAbove 29 = .ok (.iload 9, 2) := by decide +kernel
theorem d_M_isAbove_31 : decode c_M_isAbove 31 = .ok (.ifCond .ne 7, 3) := by decide +kernel
theorem d_M_isAbove_34 : decode c_M_isAbove 34 = .ok (.lconst 1, 1) := by decide +kernel
theorem d_M_isAbove_35 : decode c_M_isAbove 35 = .ok (.goto 4, 3) := by decide +kernel
theorem d_M_isAbove_38 : decode c_M_isAbove 38 = .ok (.lconst 0, 1) := by decide +kernel
theorem d_M_isAbove_39 : decode c_M_isAbove 39 = .ok (.lastore, 1) := by decide +kernel
theorem d_M_isAbove_40 : decode c_M_isAbove 40 = .ok (.iinc 9 1, 3) := by decide +kernel
theorem d_M_isAbove_43 : decode c_M_isAbove 43 = .ok (.goto (-27), 3) := by decide +kernel
theorem d_M_isAbove_46 : decode c_M_isAbove 46 = .ok (.iconst 0, 1) := by decide +kernel
theorem d_M_isAbove_47 : decode c_M_isAbove 47 = .ok (.istore 9, 2) := by decide +kernel
theorem d_M_isAbove_49 : decode c_M_isAbove 49 = .ok (.iload 9, 2) := by decide +kernel
theorem d_M_isAbove_51 : decode c_M_isAbove 51 = .ok (.iload 4, 2) := by decide +kernel
theorem d_M_isAbove_53 : decode c_M_isAbove 53 = .ok (.if_icmp .ge 119, 3) := by decide +kernel
theorem d_M_isAbove_56 : decode c_M_isAbove 56 = .ok (.bipush 7, 2) := by decide +kernel
theorem d_M_isAbove_58 : decode c_M_isAbove 58 = .ok (.istore 10, 2) := by decide +kernel
theorem d_M_isAbove_60 : decode c_M_isAbove 60 = .ok (.iload 10, 2) := by decide +kernel
theorem d_M_isAbove_62 : decode c_M_isAbove 62 = .ok (.ifCond .lt 48, 3) := by decide +kernel
theorem d_M_isAbove_65 : decode c_M_isAbove 65 = .ok (.aload_n 0, 1) := by decide +kernel
theorem d_M_isAbove_66 : decode c_M_isAbove 66 = .ok (.getfield 63, 3) := by decide +kernel
theorem d_M_isAbove_69 : decode c_M_isAbove 69 = .ok (.iload 10, 2) := by decide +kernel
theorem d_M_isAbove_71 : decode c_M_isAbove 71 = .ok (.aload_n 0, 1) := by decide +kernel
theorem d_M_isAbove_72 : decode c_M_isAbove 72 = .ok (.getfield 63, 3) := by decide +kernel
theorem d_M_isAbove_75 : decode c_M_isAbove 75 = .ok (.iload 10, 2) := by decide +kernel
theorem d_M_isAbove_77 : decode c_M_isAbove 77 = .ok (.laload, 1) := by decide +kernel
theorem d_M_isAbove_78 : decode c_M_isAbove 78 = .ok (.lload 5, 2) := by decide +kernel
theorem d_M_isAbove_80 : decode c_M_isAbove 80 = .ok (.lmul, 1) := by decide +kernel
theorem d_M_isAbove_81 : decode c_M_isAbove 81 = .ok (.iload 10, 2) := by decide +kernel
theorem d_M_isAbove_83 : decode c_M_isAbove 83 = .ok (.ifCond .le 18, 3) := by decide +kernel
theorem d_M_isAbove_86 : decode c_M_isAbove 86 = .ok (.aload_n 0, 1) := by decide +kernel
theorem d_M_isAbove_87 : decode c_M_isAbove 87 = .ok (.getfield 63, 3) := by decide +kernel
theorem d_M_isAbove_90 : decode c_M_isAbove 90 = .ok (.iload 10, 2) := by decide +kernel
theorem d_M_isAbove_92 : decode c_M_isAbove 92 = .ok (.iconst 1, 1) := by decide +kernel
theorem d_M_isAbove_93 : decode c_M_isAbove 93 = .ok (.isub, 1) := by decide +kernel
theorem d_M_isAbove_94 : decode c_M_isAbove 94 = .ok (.laload, 1) := by decide +kernel
theorem d_M_isAbove_95 : decode c_M_isAbove 95 = .ok (.lload 7, 2) := by decide +kernel
theorem d_M_isAbove_97 : decode c_M_isAbove 97 = .ok (.lmul, 1) := by decide +kernel
theorem d_M_isAbove_98 : decode c_M_isAbove 98 = .ok (.goto 4, 3) := by decide +kernel
theorem d_M_isAbove_101 : decode c_M_isAbove 101 = .ok (.lconst 0, 1) := by decide +kernel
theorem d_M_isAbove_102 : decode c_M_isAbove 102 = .ok (.ladd, 1) := by decide +kernel
theorem d_M_isAbove_103 : decode c_M_isAbove 103 = .ok (.lastore, 1) := by decide +kernel
theorem d_M_isAbove_104 : decode c_M_isAbove 104 = .ok (.iinc 10 (-1), 3) := by decide +kernel
theorem d_M_isAbove_107 : decode c_M_isAbove 107 = .ok (.goto (-47), 3) := by decide +kernel
theorem d_M_isAbove_110 : decode c_M_isAbove 110 = .ok (.iconst 0, 1) := by decide +kernel
theorem d_M_isAbove_111 : decode c_M_isAbove 111 = .ok (.istore 10, 2) := by decide +kernel
theorem d_M_isAbove_113 : decode c_M_isAbove 113 = .ok (.iload 10, 2) := by decide +kernel
theorem d_M_isAbove_115 : decode c_M_isAbove 115 = .ok (.bipush 7, 2) := by decide +kernel
theorem d_M_isAbove_117 : decode c_M_isAbove 117 = .ok (.if_icmp .ge 49, 3) := by decide +kernel
theorem d_M_isAbove_120 : decode c_M_isAbove 120 = .ok (.aload_n 0, 1) := by decide +kernel
theorem d_M_isAbove_121 : decode c_M_isAbove 121 = .ok (.getfield 63, 3) := by decide +kernel
theorem d_M_isAbove_124 : decode c_M_isAbove 124 = .ok (.iload 10, 2) := by decide +kernel
theorem d_M_isAbove_126 : decode c_M_isAbove 126 = .ok (.iconst 1, 1) := by decide +kernel
theorem d_M_isAbove_127 : decode c_M_isAbove 127 = .ok (.iadd, 1) := by decide +kernel
theorem d_M_isAbove_128 : decode c_M_isAbove 128 = .ok (.dup2, 1) := by decide +kernel
theorem d_M_isAbove_129 : decode c_M_isAbove 129 = .ok (.laload, 1) := by decide +kernel
theorem d_M_isAbove_130 : decode c_M_isAbove 130 = .ok (.aload_n 0, 1) := by decide +kernel
theorem d_M_isAbove_131 : decode c_M_isAbove 131 = .ok (.getfield 63, 3) := by decide +kernel
theorem d_M_isAbove_134 : decode c_M_isAbove 134 = .ok (.iload 10, 2) := by decide +kernel
theorem d_M_isAbove_136 : decode c_M_isAbove 136 = .ok (.laload, 1) := by decide +kernel
theorem d_M_isAbove_137 : decode c_M_isAbove 137 = .ok (.bipush 20, 2) := by decide +kernel
theorem d_M_isAbove_139 : decode c_M_isAbove 139 = .ok (.lshr, 1) := by decide +kernel
theorem d_M_isAbove_140 : decode c_M_isAbove 140 = .ok (.ladd, 1) := by decide +kernel
theorem d_M_isAbove_141 : decode c_M_isAbove 141 = .ok (.lastore, 1) := by decide +kernel
theorem d_M_isAbove_142 : decode c_M_isAbove 142 = .ok (.aload_n 0, 1) := by decide +kernel
theorem d_M_isAbove_143 : decode c_M_isAbove 143 = .ok (.getfield 63, 3) := by decide +kernel
theorem d_M_isAbove_146 : decode c_M_isAbove 146 = .ok (.iload 10, 2) := by decide +kernel
theorem d_M_isAbove_148 : decode c_M_isAbove 148 = .ok (.aload_n 0, 1) := by decide +kernel
theorem d_M_isAbove_149 : decode c_M_isAbove 149 = .ok (.getfield 63, 3) := by decide +kernel
theorem d_M_isAbove_152 : decode c_M_isAbove 152 = .ok (.iload 10, 2) := by decide +kernel
theorem d_M_isAbove_154 : decode c_M_isAbove 154 = .ok (.laload, 1) := by decide +kernel
theorem d_M_isAbove_155 : decode c_M_isAbove 155 = .ok (.ldc2_w 82, 3) := by decide +kernel
theorem d_M_isAbove_158 : decode c_M_isAbove 158 = .ok (.land, 1) := by decide +kernel
theorem d_M_isAbove_159 : decode c_M_isAbove 159 = .ok (.lastore, 1) := by decide +kernel
theorem d_M_isAbove_160 : decode c_M_isAbove 160 = .ok (.iinc 10 1, 3) := by decide +kernel
theorem d_M_isAbove_163 : decode c_M_isAbove 163 = .ok (.goto (-50), 3) := by decide +kernel
theorem d_M_isAbove_166 : decode c_M_isAbove 166 = .ok (.iinc 9 1, 3) := by decide +kernel
theorem d_M_isAbove_169 : decode c_M_isAbove 169 = .ok (.goto (-120), 3) := by decide +kernel
theorem d_M_isAbove_172 : decode c_M_isAbove 172 = .ok (.bipush 32, 2) := by decide +kernel
theorem d_M_isAbove_174 : decode c_M_isAbove 174 = .ok (.iload 4, 2) := by decide +kernel
theorem d_M_isAbove_176 : decode c_M_isAbove 176 = .ok (.imul, 1) := by decide +kernel
theorem d_M_isAbove_177 : decode c_M_isAbove 177 = .ok (.bipush 20, 2) := by decide +kernel
theorem d_M_isAbove_179 : decode c_M_isAbove 179 = .ok (.idiv, 1) := by decide +kernel
theorem d_M_isAbove_180 : decode c_M_isAbove 180 = .ok (.istore 9, 2) := by decide +kernel
theorem d_M_isAbove_182 : decode c_M_isAbove 182 = .ok (.iload_n 3, 1) := by decide +kernel
theorem d_M_isAbove_183 : decode c_M_isAbove 183 = .ok (.i2l, 1) := by decide +kernel
theorem d_M_isAbove_184 : decode c_M_isAbove 184 = .ok (.bipush 32, 2) := by decide +kernel
theorem d_M_isAbove_186 : decode c_M_isAbove 186 = .ok (.iload 4, 2) := by decide +kernel
theorem d_M_isAbove_188 : decode c_M_isAbove 188 = .ok (.imul, 1) := by decide +kernel
theorem d_M_isAbove_189 : decode c_M_isAbove 189 = .ok (.bipush 20, 2) := by decide +kernel
theorem d_M_isAbove_191 : decode c_M_isAbove 191 = .ok (.irem, 1) := by decide +kernel
theorem d_M_isAbove_192 : decode c_M_isAbove 192 = .ok (.lshl, 1) := by decide +kernel
theorem d_M_isAbove_193 : decode c_M_isAbove 193 = .ok (.lstore 10, 2) := by decide +kernel
theorem d_M_isAbove_195 : decode c_M_isAbove 195 = .ok (.bipush 7, 2) := by decide +kernel
theorem d_M_isAbove_197 : decode c_M_isAbove 197 = .ok (.istore 12, 2) := by decide +kernel
theorem d_M_isAbove_199 : decode c_M_isAbove 199 = .ok (.iload 12, 2) := by decide +kernel
theorem d_M_isAbove_201 : decode c_M_isAbove 201 = .ok (.ifCond .lt 77, 3) := by decide +kernel
theorem d_M_isAbove_204 : decode c_M_isAbove 204 = .ok (.iload 12, 2) := by decide +kernel
theorem d_M_isAbove_206 : decode c_M_isAbove 206 = .ok (.iload 9, 2) := by decide +kernel
theorem d_M_isAbove_208 : decode c_M_isAbove 208 = .ok (.if_icmp .ne 12, 3) := by decide +kernel
theorem d_M_isAbove_211 : decode c_M_isAbove 211 = .ok (.lload 10, 2) := by decide +kernel
theorem d_M_isAbove_213 : decode c_M_isAbove 213 = .ok (.ldc2_w 82, 3) := by decide +kernel
theorem d_M_isAbove_216 : decode c_M_isAbove 216 = .ok (.land, 1) := by decide +kernel
theorem d_M_isAbove_217 : decode c_M_isAbove 217 = .ok (.goto 21, 3) := by decide +kernel
theorem d_M_isAbove_220 : decode c_M_isAbove 220 = .ok (.iload 12, 2) := by decide +kernel
theorem d_M_isAbove_222 : decode c_M_isAbove 222 = .ok (.iload 9, 2) := by decide +kernel
theorem d_M_isAbove_224 : decode c_M_isAbove 224 = .ok (.iconst 1, 1) := by decide +kernel
theorem d_M_isAbove_225 : decode c_M_isAbove 225 = .ok (.iadd, 1) := by decide +kernel
theorem d_M_isAbove_226 : decode c_M_isAbove 226 = .ok (.if_icmp .ne 11, 3) := by decide +kernel
theorem d_M_isAbove_229 : decode c_M_isAbove 229 = .ok (.lload 10, 2) := by decide +kernel
theorem d_M_isAbove_231 : decode c_M_isAbove 231 = .ok (.bipush 20, 2) := by decide +kernel
theorem d_M_isAbove_233 : decode c_M_isAbove 233 = .ok (.lshr, 1) := by decide +kernel
theorem d_M_isAbove_234 : decode c_M_isAbove 234 = .ok (.goto 4, 3) := by decide +kernel
theorem d_M_isAbove_237 : decode c_M_isAbove 237 = .ok (.lconst 0, 1) := by decide +kernel
theorem d_M_isAbove_238 : decode c_M_isAbove 238 = .ok (.lstore 13, 2) := by decide +kernel
theorem d_M_isAbove_240 : decode c_M_isAbove 240 = .ok (.aload_n 0, 1) := by decide +kernel
theorem d_M_isAbove_241 : decode c_M_isAbove 241 = .ok (.getfield 63, 3) := by decide +kernel
theorem d_M_isAbove_244 : decode c_M_isAbove 244 = .ok (.iload 12, 2) := by decide +kernel
theorem d_M_isAbove_246 : decode c_M_isAbove 246 = .ok (.laload, 1) := by decide +kernel
theorem d_M_isAbove_247 : decode c_M_isAbove 247 = .ok (.lload 13, 2) := by decide +kernel
theorem d_M_isAbove_249 : decode c_M_isAbove 249 = .ok (.lcmp, 1) := by decide +kernel
theorem d_M_isAbove_250 : decode c_M_isAbove 250 = .ok (.ifCond .eq 22, 3) := by decide +kernel
theorem d_M_isAbove_253 : decode c_M_isAbove 253 = .ok (.aload_n 0, 1) := by decide +kernel
theorem d_M_isAbove_254 : decode c_M_isAbove 254 = .ok (.getfield 63, 3) := by decide +kernel
theorem d_M_isAbove_257 : decode c_M_isAbove 257 = .ok (.iload 12, 2) := by decide +kernel
theorem d_M_isAbove_259 : decode c_M_isAbove 259 = .ok (.laload, 1) := by decide +kernel
theorem d_M_isAbove_260 : decode c_M_isAbove 260 = .ok (.lload 13, 2) := by decide +kernel
theorem d_M_isAbove_262 : decode c_M_isAbove 262 = .ok (.lcmp, 1) := by decide +kernel
theorem d_M_isAbove_263 : decode c_M_isAbove 263 = .ok (.ifCond .le 7, 3) := by decide +kernel
theorem d_M_isAbove_266 : decode c_M_isAbove 266 = .ok (.iconst 1, 1) := by decide +kernel
theorem d_M_isAbove_267 : decode c_M_isAbove 267 = .ok (.goto 4, 3) := by decide +kernel
theorem d_M_isAbove_270 : decode c_M_isAbove 270 = .ok (.iconst 0, 1) := by decide +kernel
theorem d_M_isAbove_271 : decode c_M_isAbove 271 = .ok (.ireturn, 1) := by decide +kernel
theorem d_M_isAbove_272 : decode c_M_isAbove 272 = .ok (.iinc 12 (-1), 3) := by decide +kernel
theorem d_M_isAbove_275 : decode c_M_isAbove 275 = .ok (.goto (-76), 3) := by decide +kernel
theorem d_M_isAbove_278 : decode c_M_isAbove 278 = .ok (.iconst 0, 1) := by decide +kernel
theorem d_M_isAbove_279 : decode c_M_isAbove 279 = .ok (.ireturn, 1) := by decide +kernel
abbrev c_M_turn : ByteArray := prog_9_method_8_code
abbrev y_M_turn : MethodName := ⟨"BlobStoreModel", "turn", "(II)I"⟩
theorem i_M_turn : bIs y_M_turn 2 := Or.inl ⟨_, _, t4_57⟩
theorem d_M_turn_0 : decode c_M_turn 0 = .ok (.iload_n 0, 1) := by decide +kernel
theorem d_M_turn_1 : decode c_M_turn 1 = .ok (.iload_n 1, 1) := by decide +kernel
theorem d_M_turn_2 : decode c_M_turn 2 = .ok (.iushr, 1) := by decide +kernel
theorem d_M_turn_3 : decode c_M_turn 3 = .ok (.iload_n 0, 1) := by decide +kernel
theorem d_M_turn_4 : decode c_M_turn 4 = .ok (.bipush 32, 2) := by decide +kernel
theorem d_M_turn_6 : decode c_M_turn 6 = .ok (.iload_n 1, 1) := by decide +kernel
theorem d_M_turn_7 : decode c_M_turn 7 = .ok (.isub, 1) := by decide +kernel
theorem d_M_turn_8 : decode c_M_turn 8 = .ok (.ishl, 1) := by decide +kernel
theorem d_M_turn_9 : decode c_M_turn 9 = .ok (.ior, 1) := by decide +kernel
theorem d_M_turn_10 : decode c_M_turn 10 = .ok (.ireturn, 1) := by decide +kernel
abbrev c_M_addressOf : ByteArray := prog_9_method_9_code
abbrev y_M_addressOf : MethodName := ⟨"BlobStoreModel", "addressOf", "(I)V"⟩
theorem i_M_addressOf : bIs y_M_addressOf 9 := Or.inl ⟨_, _, t4_54⟩
theorem d_M_addressOf_0 : decode c_M_addressOf 0 = .ok (.aload_n 0, 1) := by decide +kernel
theorem d_M_addressOf_1 : decode c_M_addressOf 1 = .ok (.getfield 7, 3) := by decide +kernel
theorem d_M_addressOf_4 : decode c_M_addressOf 4 = .ok (.iload_n 1, 1) := by decide +kernel
theorem d_M_addressOf_5 : decode c_M_addressOf 5 = .ok (.iaload, 1) := by decide +kernel
theorem d_M_addressOf_6 : decode c_M_addressOf 6 = .ok (.istore_n 2, 1) := by decide +kernel
theorem d_M_addressOf_7 : decode c_M_addressOf 7 = .ok (.iconst 0, 1) := by decide +kernel
theorem d_M_addressOf_8 : decode c_M_addressOf 8 = .ok (.istore_n 3, 1) := by decide +kernel
theorem d_M_addressOf_9 : decode c_M_addressOf 9 = .ok (.iload_n 3, 1) := by decide +kernel
theorem d_M_addressOf_10 : decode c_M_addressOf 10 = .ok (.bipush 16, 2) := by decide +kernel
theorem d_M_addressOf_12 : decode c_M_addressOf 12 = .ok (.if_icmp .ge 16, 3) := by decide +kernel
theorem d_M_addressOf_15 : decode c_M_addressOf 15 = .ok (.aload_n 0, 1) := by decide +kernel
theorem d_M_addressOf_16 : decode c_M_addressOf 16 = .ok (.getfield 54, 3) := by decide +kernel
theorem d_M_addressOf_19 : decode c_M_addressOf 19 = .ok (.iload_n 3, 1) := by decide +kernel
theorem d_M_addressOf_20 : decode c_M_addressOf 20 = .ok (.iconst 0, 1) := by decide +kernel
theorem d_M_addressOf_21 : decode c_M_addressOf 21 = .ok (.iastore, 1) := by decide +kernel
theorem d_M_addressOf_22 : decode c_M_addressOf 22 = .ok (.iinc 3 1, 3) := by decide +kernel
theorem d_M_addressOf_25 : decode c_M_addressOf 25 = .ok (.goto (-16), 3) := by decide +kernel
theorem d_M_addressOf_28 : decode c_M_addressOf 28 = .ok (.iconst 0, 1) := by decide +kernel
theorem d_M_addressOf_29 : decode c_M_addressOf 29 = .ok (.istore_n 3, 1) := by decide +kernel
theorem d_M_addressOf_30 : decode c_M_addressOf 30 = .ok (.iload_n 3, 1) := by decide +kernel
theorem d_M_addressOf_31 : decode c_M_addressOf 31 = .ok (.iload_n 2, 1) := by decide +kernel
theorem d_M_addressOf_32 : decode c_M_addressOf 32 = .ok (.if_icmp .ge 41, 3) := by decide +kernel
theorem d_M_addressOf_35 : decode c_M_addressOf 35 = .ok (.aload_n 0, 1) := by decide +kernel
theorem d_M_addressOf_36 : decode c_M_addressOf 36 = .ok (.getfield 54, 3) := by decide +kernel
theorem d_M_addressOf_39 : decode c_M_addressOf 39 = .ok (.iload_n 3, 1) := by decide +kernel
theorem d_M_addressOf_40 : decode c_M_addressOf 40 = .ok (.iconst 4, 1) := by decide +kernel
theorem d_M_addressOf_41 : decode c_M_addressOf 41 = .ok (.idiv, 1) := by decide +kernel
theorem d_M_addressOf_42 : decode c_M_addressOf 42 = .ok (.dup2, 1) := by decide +kernel
theorem d_M_addressOf_43 : decode c_M_addressOf 43 = .ok (.iaload, 1) := by decide +kernel
theorem d_M_addressOf_44 : decode c_M_addressOf 44 = .ok (.aload_n 0, 1) := by decide +kernel
theorem d_M_addressOf_45 : decode c_M_addressOf 45 = .ok (.getfield 13, 3) := by decide +kernel
theorem d_M_addressOf_48 : decode c_M_addressOf 48 = .ok (.bipush 8, 2) := by decide +kernel
theorem d_M_addressOf_50 : decode c_M_addressOf 50 = .ok (.iload_n 1, 1) := by decide +kernel
theorem d_M_addressOf_51 : decode c_M_addressOf 51 = .ok (.imul, 1) := by decide +kernel
theorem d_M_addressOf_52 : decode c_M_addressOf 52 = .ok (.iload_n 3, 1) := by decide +kernel
theorem d_M_addressOf_53 : decode c_M_addressOf 53 = .ok (.iadd, 1) := by decide +kernel
theorem d_M_addressOf_54 : decode c_M_addressOf 54 = .ok (.iaload, 1) := by decide +kernel
theorem d_M_addressOf_55 : decode c_M_addressOf 55 = .ok (.bipush 24, 2) := by decide +kernel
theorem d_M_addressOf_57 : decode c_M_addressOf 57 = .ok (.bipush 8, 2) := by decide +kernel
theorem d_M_addressOf_59 : decode c_M_addressOf 59 = .ok (.iload_n 3, 1) := by decide +kernel
theorem d_M_addressOf_60 : decode c_M_addressOf 60 = .ok (.iconst 4, 1) := by decide +kernel
theorem d_M_addressOf_61 : decode c_M_addressOf 61 = .ok (.irem, 1) := by decide +kernel
theorem d_M_addressOf_62 : decode c_M_addressOf 62 = .ok (.imul, 1) := by decide +kernel
theorem d_M_addressOf_63 : decode c_M_addressOf 63 = .ok (.isub, 1) := by decide +kernel
theorem d_M_addressOf_64 : decode c_M_addressOf 64 = .ok (.ishl, 1) := by decide +kernel
theorem d_M_addressOf_65 : decode c_M_addressOf 65 = .ok (.ior, 1) := by decide +kernel
theorem d_M_addressOf_66 : decode c_M_addressOf 66 = .ok (.iastore, 1) := by decide +kernel
theorem d_M_addressOf_67 : decode c_M_addressOf 67 = .ok (.iinc 3 1, 3) := by decide +kernel
theorem d_M_addressOf_70 : decode c_M_addressOf 70 = .ok (.goto (-40), 3) := by decide +kernel
theorem d_M_addressOf_73 : decode c_M_addressOf 73 = .ok (.aload_n 0, 1) := by decide +kernel
theorem d_M_addressOf_74 : decode c_M_addressOf 74 = .ok (.getfield 54, 3) := by decide +kernel
theorem d_M_addressOf_77 : decode c_M_addressOf 77 = .ok (.iload_n 2, 1) := by decide +kernel
theorem d_M_addressOf_78 : decode c_M_addressOf 78 = .ok (.iconst 4, 1) := by decide +kernel
theorem d_M_addressOf_79 : decode c_M_addressOf 79 = .ok (.idiv, 1) := by decide +kernel
theorem d_M_addressOf_80 : decode c_M_addressOf 80 = .ok (.dup2, 1) := by decide +kernel
theorem d_M_addressOf_81 : decode c_M_addressOf 81 = .ok (.iaload, 1) := by decide +kernel
theorem d_M_addressOf_82 : decode c_M_addressOf 82 = .ok (.sipush 128, 3) := by decide +kernel
theorem d_M_addressOf_85 : decode c_M_addressOf 85 = .ok (.bipush 24, 2) := by decide +kernel
theorem d_M_addressOf_87 : decode c_M_addressOf 87 = .ok (.bipush 8, 2) := by decide +kernel
theorem d_M_addressOf_89 : decode c_M_addressOf 89 = .ok (.iload_n 2, 1) := by decide +kernel
theorem d_M_addressOf_90 : decode c_M_addressOf 90 = .ok (.iconst 4, 1) := by decide +kernel
theorem d_M_addressOf_91 : decode c_M_addressOf 91 = .ok (.irem, 1) := by decide +kernel
theorem d_M_addressOf_92 : decode c_M_addressOf 92 = .ok (.imul, 1) := by decide +kernel
theorem d_M_addressOf_93 : decode c_M_addressOf 93 = .ok (.isub, 1) := by decide +kernel
theorem d_M_addressOf_94 : decode c_M_addressOf 94 = .ok (.ishl, 1) := by decide +kernel
theorem d_M_addressOf_95 : decode c_M_addressOf 95 = .ok (.ior, 1) := by decide +kernel
theorem d_M_addressOf_96 : decode c_M_addressOf 96 = .ok (.iastore, 1) := by decide +kernel
theorem d_M_addressOf_97 : decode c_M_addressOf 97 = .ok (.aload_n 0, 1) := by decide +kernel
theorem d_M_addressOf_98 : decode c_M_addressOf 98 = .ok (.getfield 54, 3) := by decide +kernel
theorem d_M_addressOf_101 : decode c_M_addressOf 101 = .ok (.bipush 15, 2) := by decide +kernel
theorem d_M_addressOf_103 : decode c_M_addressOf 103 = .ok (.bipush 8, 2) := by decide +kernel
theorem d_M_addressOf_105 : decode c_M_addressOf 105 = .ok (.iload_n 2, 1) := by decide +kernel
theorem d_M_addressOf_106 : decode c_M_addressOf 106 = .ok (.imul, 1) := by decide +kernel
theorem d_M_addressOf_107 : decode c_M_addressOf 107 = .ok (.iastore, 1) := by decide +kernel
theorem d_M_addressOf_108 : decode c_M_addressOf 108 = .ok (.bipush 16, 2) := by decide +kernel
theorem d_M_addressOf_110 : decode c_M_addressOf 110 = .ok (.istore_n 3, 1) := by decide +kernel
theorem d_M_addressOf_111 : decode c_M_addressOf 111 = .ok (.iload_n 3, 1) := by decide +kernel
theorem d_M_addressOf_112 : decode c_M_addressOf 112 = .ok (.bipush 64, 2) := by decide +kernel
theorem d_M_addressOf_114 : decode c_M_addressOf 114 = .ok (.if_icmp .ge 98, 3) := by decide +kernel
theorem d_M_addressOf_117 : decode c_M_addressOf 117 = .ok (.aload_n 0, 1) := by decide +kernel
theorem d_M_addressOf_118 : decode c_M_addressOf 118 = .ok (.getfield 54, 3) := by decide +kernel
theorem d_M_addressOf_121 : decode c_M_addressOf 121 = .ok (.iload_n 3, 1) := by decide +kernel
theorem d_M_addressOf_122 : decode c_M_addressOf 122 = .ok (.bipush 15, 2) := by decide +kernel
theorem d_M_addressOf_124 : decode c_M_addressOf 124 = .ok (.isub, 1) := by decide +kernel
theorem d_M_addressOf_125 : decode c_M_addressOf 125 = .ok (.iaload, 1) := by decide +kernel
theorem d_M_addressOf_126 : decode c_M_addressOf 126 = .ok (.istore 4, 2) := by decide +kernel
theorem d_M_addressOf_128 : decode c_M_addressOf 128 = .ok (.aload_n 0, 1) := by decide +kernel
theorem d_M_addressOf_129 : decode c_M_addressOf 129 = .ok (.getfield 54, 3) := by decide +kernel
theorem d_M_addressOf_132 : decode c_M_addressOf 132 = .ok (.iload_n 3, 1) := by decide +kernel
theorem d_M_addressOf_133 : decode c_M_addressOf 133 = .ok (.iconst 2, 1) := by decide +kernel
theorem d_M_addressOf_134 : decode c_M_addressOf 134 = .ok (.isub, 1) := by decide +kernel
theorem d_M_addressOf_135 : decode c_M_addressOf 135 = .ok (.iaload, 1) := by decide +kernel
theorem d_M_addressOf_136 : decode c_M_addressOf 136 = .ok (.istore 5, 2) := by decide +kernel
theorem d_M_addressOf_138 : decode c_M_addressOf 138 = .ok (.aload_n 0, 1) := by decide +kernel
theorem d_M_addressOf_139 : decode c_M_addressOf 139 = .ok (.getfield 54, 3) := by decide +kernel
theorem d_M_addressOf_142 : decode c_M_addressOf 142 = .ok (.iload_n 3, 1) := by decide +kernel
theorem d_M_addressOf_143 : decode c_M_addressOf 143 = .ok (.aload_n 0, 1) := by decide +kernel
theorem d_M_addressOf_144 : decode c_M_addressOf 144 = .ok (.getfield 54, 3) := by decide +kernel
theorem d_M_addressOf_147 : decode c_M_addressOf 147 = .ok (.iload_n 3, 1) := by decide +kernel
theorem d_M_addressOf_148 : decode c_M_addressOf 148 = .ok (.bipush 16, 2) := by decide +kernel
theorem d_M_addressOf_150 : decode c_M_addressOf 150 = .ok (.isub, 1) := by decide +kernel
theorem d_M_addressOf_151 : decode c_M_addressOf 151 = .ok (.iaload, 1) := by decide +kernel
theorem d_M_addressOf_152 : decode c_M_addressOf 152 = .ok (.iload 4, 2) := by decide +kernel
theorem d_M_addressOf_154 : decode c_M_addressOf 154 = .ok (.bipush 7, 2) := by decide +kernel
theorem d_M_addressOf_156 : decode c_M_addressOf 156 = .ok (.invokestatic 84, 3) := by decide +kernel
theorem d_M_addressOf_159 : decode c_M_addressOf 159 = .ok (.iload 4, 2) := by decide +kernel
theorem d_M_addressOf_161 : decode c_M_addressOf 161 = .ok (.bipush 18, 2) := by decide +kernel
theorem d_M_addressOf_163 : decode c_M_addressOf 163 = .ok (.invokestatic 84, 3) := by decide +kernel
theorem d_M_addressOf_166 : decode c_M_addressOf 166 = .ok (.ixor, 1) := by decide +kernel
theorem d_M_addressOf_167 : decode c_M_addressOf 167 = .ok (.iload 4, 2) := by decide +kernel
theorem d_M_addressOf_169 : decode c_M_addressOf 169 = .ok (.iconst 3, 1) := by decide +kernel
theorem d_M_addressOf_170 : decode c_M_addressOf 170 = .ok (.iushr, 1) := by decide +kernel
theorem d_M_addressOf_171 : decode c_M_addressOf 171 = .ok (.ixor, 1) := by decide +kernel
theorem d_M_addressOf_172 : decode c_M_addressOf 172 = .ok (.iadd, 1) := by decide +kernel
theorem d_M_addressOf_173 : decode c_M_addressOf 173 = .ok (.aload_n 0, 1) := by decide +kernel
theorem d_M_addressOf_174 : decode c_M_addressOf 174 = .ok (.getfield 54, 3) := by decide +kernel
theorem d_M_addressOf_177 : decode c_M_addressOf 177 = .ok (.iload_n 3, 1) := by decide +kernel
theorem d_M_addressOf_178 : decode c_M_addressOf 178 = .ok (.bipush 7, 2) := by decide +kernel
theorem d_M_addressOf_180 : decode c_M_addressOf 180 = .ok (.isub, 1) := by decide +kernel
theorem d_M_addressOf_181 : decode c_M_addressOf 181 = .ok (.iaload, 1) := by decide +kernel
theorem d_M_addressOf_182 : decode c_M_addressOf 182 = .ok (.iadd, 1) := by decide +kernel
theorem d_M_addressOf_183 : decode c_M_addressOf 183 = .ok (.iload 5, 2) := by decide +kernel
theorem d_M_addressOf_185 : decode c_M_addressOf 185 = .ok (.bipush 17, 2) := by decide +kernel
theorem d_M_addressOf_187 : decode c_M_addressOf 187 = .ok (.invokestatic 84, 3) := by decide +kernel
theorem d_M_addressOf_190 : decode c_M_addressOf 190 = .ok (.iload 5, 2) := by decide +kernel
theorem d_M_addressOf_192 : decode c_M_addressOf 192 = .ok (.bipush 19, 2) := by decide +kernel
theorem d_M_addressOf_194 : decode c_M_addressOf 194 = .ok (.invokestatic 84, 3) := by decide +kernel
theorem d_M_addressOf_197 : decode c_M_addressOf 197 = .ok (.ixor, 1) := by decide +kernel
theorem d_M_addressOf_198 : decode c_M_addressOf 198 = .ok (.iload 5, 2) := by decide +kernel
theorem d_M_addressOf_200 : decode c_M_addressOf 200 = .ok (.bipush 10, 2) := by decide +kernel
theorem d_M_addressOf_202 : decode c_M_addressOf 202 = .ok (.iushr, 1) := by decide +kernel
theorem d_M_addressOf_203 : decode c_M_addressOf 203 = .ok (.ixor, 1) := by decide +kernel
theorem d_M_addressOf_204 : decode c_M_addressOf 204 = .ok (.iadd, 1) := by decide +kernel
theorem d_M_addressOf_205 : decode c_M_addressOf 205 = .ok (.iastore, 1) := by decide +kernel
theorem d_M_addressOf_206 : decode c_M_addressOf 206 = .ok (.iinc 3 1, 3) := by decide +kernel
theorem d_M_addressOf_209 : decode c_M_addressOf 209 = .ok (.goto (-98), 3) := by decide +kernel
theorem d_M_addressOf_212 : decode c_M_addressOf 212 = .ok (.iconst 0, 1) := by decide +kernel
theorem d_M_addressOf_213 : decode c_M_addressOf 213 = .ok (.istore_n 3, 1) := by decide +kernel
theorem d_M_addressOf_214 : decode c_M_addressOf 214 = .ok (.iload_n 3, 1) := by decide +kernel
theorem d_M_addressOf_215 : decode c_M_addressOf 215 = .ok (.bipush 8, 2) := by decide +kernel
theorem d_M_addressOf_217 : decode c_M_addressOf 217 = .ok (.if_icmp .ge 24, 3) := by decide +kernel
theorem d_M_addressOf_220 : decode c_M_addressOf 220 = .ok (.aload_n 0, 1) := by decide +kernel
theorem d_M_addressOf_221 : decode c_M_addressOf 221 = .ok (.getfield 57, 3) := by decide +kernel
theorem d_M_addressOf_224 : decode c_M_addressOf 224 = .ok (.iload_n 3, 1) := by decide +kernel
theorem d_M_addressOf_225 : decode c_M_addressOf 225 = .ok (.aload_n 0, 1) := by decide +kernel
theorem d_M_addressOf_226 : decode c_M_addressOf 226 = .ok (.getfield 51, 3) := by decide +kernel
theorem d_M_addressOf_229 : decode c_M_addressOf 229 = .ok (.bipush 64, 2) := by decide +kernel
theorem d_M_addressOf_231 : decode c_M_addressOf 231 = .ok (.iload_n 3, 1) := by decide +kernel
theorem d_M_addressOf_232 : decode c_M_addressOf 232 = .ok (.iadd, 1) := by decide +kernel
theorem d_M_addressOf_233 : decode c_M_addressOf 233 = .ok (.iaload, 1) := by decide +kernel
theorem d_M_addressOf_234 : decode c_M_addressOf 234 = .ok (.iastore, 1) := by decide +kernel
theorem d_M_addressOf_235 : decode c_M_addressOf 235 = .ok (.iinc 3 1, 3) := by decide +kernel
theorem d_M_addressOf_238 : decode c_M_addressOf 238 = .ok (.goto (-24), 3) := by decide +kernel
theorem d_M_addressOf_241 : decode c_M_addressOf 241 = .ok (.iconst 0, 1) := by decide +kernel
theorem d_M_addressOf_242 : decode c_M_addressOf 242 = .ok (.istore_n 3, 1) := by decide +kernel
theorem d_M_addressOf_243 : decode c_M_addressOf 243 = .ok (.iload_n 3, 1) := by decide +kernel
theorem d_M_addressOf_244 : decode c_M_addressOf 244 = .ok (.bipush 64, 2) := by decide +kernel
theorem d_M_addressOf_246 : decode c_M_addressOf 246 = .ok (.if_icmp .ge 206, 3) := by decide +kernel
theorem d_M_addressOf_249 : decode c_M_addressOf 249 = .ok (.aload_n 0, 1) := by decide +kernel
theorem d_M_addressOf_250 : decode c_M_addressOf 250 = .ok (.getfield 57, 3) := by decide +kernel
theorem d_M_addressOf_253 : decode c_M_addressOf 253 = .ok (.iconst 4, 1) := by decide +kernel
theorem d_M_addressOf_254 : decode c_M_addressOf 254 = .ok (.iaload, 1) := by decide +kernel
theorem d_M_addressOf_255 : decode c_M_addressOf 255 = .ok (.istore 4, 2) := by decide +kernel
theorem d_M_addressOf_257 : decode c_M_addressOf 257 = .ok (.aload_n 0, 1) := by decide +kernel
theorem d_M_addressOf_258 : decode c_M_addressOf 258 = .ok (.getfield 57, 3) := by decide +kernel
theorem d_M_addressOf_261 : decode c_M_addressOf 261 = .ok (.iconst 0, 1) := by decide +kernel
theorem d_M_addressOf_262 : decode c_M_addressOf 262 = .ok (.iaload, 1) := by decide +kernel
theorem d_M_addressOf_263 : decode c_M_addressOf 263 = .ok (.istore 5, 2) := by decide +kernel
theorem d_M_addressOf_265 : decode c_M_addressOf 265 = .ok (.aload_n 0, 1) := by decide +kernel
theorem d_M_addressOf_266 : decode c_M_addressOf 266 = .ok (.getfield 57, 3) := by decide +kernel
theorem d_M_addressOf_269 : decode c_M_addressOf 269 = .ok (.bipush 7, 2) := by decide +kernel
theorem d_M_addressOf_271 : decode c_M_addressOf 271 = .ok (.iaload, 1) := by decide +kernel
theorem d_M_addressOf_272 : decode c_M_addressOf 272 = .ok (.iload 4, 2) := by decide +kernel
theorem d_M_addressOf_274 : decode c_M_addressOf 274 = .ok (.bipush 6, 2) := by decide +kernel
theorem d_M_addressOf_276 : decode c_M_addressOf 276 = .ok (.invokestatic 84, 3) := by decide +kernel
theorem d_M_addressOf_279 : decode c_M_addressOf 279 = .ok (.iload 4, 2) := by decide +kernel
theorem d_M_addressOf_281 : decode c_M_addressOf 281 = .ok (.bipush 11, 2) := by decide +kernel
theorem d_M_addressOf_283 : decode c_M_addressOf 283 = .ok (.invokestatic 84, 3) := by decide +kernel
theorem d_M_addressOf_286 : decode c_M_addressOf 286 = .ok (.ixor, 1) := by decide +kernel
theorem d_M_addressOf_287 : decode c_M_addressOf 287 = .ok (.iload 4, 2) := by decide +kernel
theorem d_M_addressOf_289 : decode c_M_addressOf 289 = .ok (.bipush 25, 2) := by decide +kernel
theorem d_M_addressOf_291 : decode c_M_addressOf 291 = .ok (.invokestatic 84, 3) := by decide +kernel
theorem d_M_addressOf_294 : decode c_M_addressOf 294 = .ok (.ixor, 1) := by decide +kernel
theorem d_M_addressOf_295 : decode c_M_addressOf 295 = .ok (.iadd, 1) := by decide +kernel
theorem d_M_addressOf_296 : decode c_M_addressOf 296 = .ok (.iload 4, 2) := by decide +kernel
theorem d_M_addressOf_298 : decode c_M_addressOf 298 = .ok (.aload_n 0, 1) := by decide +kernel
theorem d_M_addressOf_299 : decode c_M_addressOf 299 = .ok (.getfield 57, 3) := by decide +kernel
theorem d_M_addressOf_302 : decode c_M_addressOf 302 = .ok (.iconst 5, 1) := by decide +kernel
theorem d_M_addressOf_303 : decode c_M_addressOf 303 = .ok (.iaload, 1) := by decide +kernel
theorem d_M_addressOf_304 : decode c_M_addressOf 304 = .ok (.iand, 1) := by decide +kernel
theorem d_M_addressOf_305 : decode c_M_addressOf 305 = .ok (.iload 4, 2) := by decide +kernel
theorem d_M_addressOf_307 : decode c_M_addressOf 307 = .ok (.iconst (-1), 1) := by decide +kernel
theorem d_M_addressOf_308 : decode c_M_addressOf 308 = .ok (.ixor, 1) := by decide +kernel
theorem d_M_addressOf_309 : decode c_M_addressOf 309 = .ok (.aload_n 0, 1) := by decide +kernel
theorem d_M_addressOf_310 : decode c_M_addressOf 310 = .ok (.getfield 57, 3) := by decide +kernel
theorem d_M_addressOf_313 : decode c_M_addressOf 313 = .ok (.bipush 6, 2) := by decide +kernel
theorem d_M_addressOf_315 : decode c_M_addressOf 315 = .ok (.iaload, 1) := by decide +kernel
theorem d_M_addressOf_316 : decode c_M_addressOf 316 = .ok (.iand, 1) := by decide +kernel
theorem d_M_addressOf_317 : decode c_M_addressOf 317 = .ok (.ixor, 1) := by decide +kernel
theorem d_M_addressOf_318 : decode c_M_addressOf 318 = .ok (.iadd, 1) := by decide +kernel
theorem d_M_addressOf_319 : decode c_M_addressOf 319 = .ok (.aload_n 0, 1) := by decide +kernel
theorem d_M_addressOf_320 : decode c_M_addressOf 320 = .ok (.getfield 51, 3) := by decide +kernel
theorem d_M_addressOf_323 : decode c_M_addressOf 323 = .ok (.iload_n 3, 1) := by decide +kernel
theorem d_M_addressOf_324 : decode c_M_addressOf 324 = .ok (.iaload, 1) := by decide +kernel
theorem d_M_addressOf_325 : decode c_M_addressOf 325 = .ok (.iadd, 1) := by decide +kernel
theorem d_M_addressOf_326 : decode c_M_addressOf 326 = .ok (.aload_n 0, 1) := by decide +kernel
theorem d_M_addressOf_327 : decode c_M_addressOf 327 = .ok (.getfield 54, 3) := by decide +kernel
theorem d_M_addressOf_330 : decode c_M_addressOf 330 = .ok (.iload_n 3, 1) := by decide +kernel
theorem d_M_addressOf_331 : decode c_M_addressOf 331 = .ok (.iaload, 1) := by decide +kernel
theorem d_M_addressOf_332 : decode c_M_addressOf 332 = .ok (.iadd, 1) := by decide +kernel
theorem d_M_addressOf_333 : decode c_M_addressOf 333 = .ok (.istore 6, 2) := by decide +kernel
theorem d_M_addressOf_335 : decode c_M_addressOf 335 = .ok (.iload 5, 2) := by decide +kernel
theorem d_M_addressOf_337 : decode c_M_addressOf 337 = .ok (.iconst 2, 1) := by decide +kernel
theorem d_M_addressOf_338 : decode c_M_addressOf 338 = .ok (.invokestatic 84, 3) := by decide +kernel
theorem d_M_addressOf_341 : decode c_M_addressOf 341 = .ok (.iload 5, 2) := by decide +kernel
theorem d_M_addressOf_343 : decode c_M_addressOf 343 = .ok (.bipush 13, 2) := by decide +kernel
theorem d_M_addressOf_345 : decode c_M_addressOf 345 = .ok (.invokestatic 84, 3) := by decide +kernel
theorem d_M_addressOf_348 : decode c_M_addressOf 348 = .ok (.ixor, 1) := by decide +kernel
theorem d_M_addressOf_349 : decode c_M_addressOf 349 = .ok (.iload 5, 2) := by decide +kernel
theorem d_M_addressOf_351 : decode c_M_addressOf 351 = .ok (.bipush 22, 2) := by decide +kernel
theorem d_M_addressOf_353 : decode c_M_addressOf 353 = .ok (.invokestatic 84, 3) := by decide +kernel
theorem d_M_addressOf_356 : decode c_M_addressOf 356 = .ok (.ixor, 1) := by decide +kernel
theorem d_M_addressOf_357 : decode c_M_addressOf 357 = .ok (.iload 5, 2) := by decide +kernel
theorem d_M_addressOf_359 : decode c_M_addressOf 359 = .ok (.aload_n 0, 1) := by decide +kernel
theorem d_M_addressOf_360 : decode c_M_addressOf 360 = .ok (.getfield 57, 3) := by decide +kernel
theorem d_M_addressOf_363 : decode c_M_addressOf 363 = .ok (.iconst 1, 1) := by decide +kernel
theorem d_M_addressOf_364 : decode c_M_addressOf 364 = .ok (.iaload, 1) := by decide +kernel
theorem d_M_addressOf_365 : decode c_M_addressOf 365 = .ok (.iand, 1) := by decide +kernel
theorem d_M_addressOf_366 : decode c_M_addressOf 366 = .ok (.iload 5, 2) := by decide +kernel
theorem d_M_addressOf_368 : decode c_M_addressOf 368 = .ok (.aload_n 0, 1) := by decide +kernel
theorem d_M_addressOf_369 : decode c_M_addressOf 369 = .ok (.getfield 57, 3) := by decide +kernel
theorem d_M_addressOf_372 : decode c_M_addressOf 372 = .ok (.iconst 2, 1) := by decide +kernel
theorem d_M_addressOf_373 : decode c_M_addressOf 373 = .ok (.iaload, 1) := by decide +kernel
theorem d_M_addressOf_374 : decode c_M_addressOf 374 = .ok (.iand, 1) := by decide +kernel
theorem d_M_addressOf_375 : decode c_M_addressOf 375 = .ok (.ixor, 1) := by decide +kernel
theorem d_M_addressOf_376 : decode c_M_addressOf 376 = .ok (.aload_n 0, 1) := by decide +kernel
theorem d_M_addressOf_377 : decode c_M_addressOf 377 = .ok (.getfield 57, 3) := by decide +kernel
theorem d_M_addressOf_380 : decode c_M_addressOf 380 = .ok (.iconst 1, 1) := by decide +kernel
theorem d_M_addressOf_381 : decode c_M_addressOf 381 = .ok (.iaload, 1) := by decide +kernel
theorem d_M_addressOf_382 : decode c_M_addressOf 382 = .ok (.aload_n 0, 1) := by decide +kernel
theorem d_M_addressOf_383 : decode c_M_addressOf 383 = .ok (.getfield 57, 3) := by decide +kernel
theorem d_M_addressOf_386 : decode c_M_addressOf 386 = .ok (.iconst 2, 1) := by decide +kernel
theorem d_M_addressOf_387 : decode c_M_addressOf 387 = .ok (.iaload, 1) := by decide +kernel
theorem d_M_addressOf_388 : decode c_M_addressOf 388 = .ok (.iand, 1) := by decide +kernel
theorem d_M_addressOf_389 : decode c_M_addressOf 389 = .ok (.ixor, 1) := by decide +kernel
theorem d_M_addressOf_390 : decode c_M_addressOf 390 = .ok (.iadd, 1) := by decide +kernel
theorem d_M_addressOf_391 : decode c_M_addressOf 391 = .ok (.istore 7, 2) := by decide +kernel
theorem d_M_addressOf_393 : decode c_M_addressOf 393 = .ok (.bipush 7, 2) := by decide +kernel
theorem d_M_addressOf_395 : decode c_M_addressOf 395 = .ok (.istore 8, 2) := by decide +kernel
theorem d_M_addressOf_397 : decode c_M_addressOf 397 = .ok (.iload 8, 2) := by decide +kernel
theorem d_M_addressOf_399 : decode c_M_addressOf 399 = .ok (.ifCond .le 25, 3) := by decide +kernel
theorem d_M_addressOf_402 : decode c_M_addressOf 402 = .ok (.aload_n 0, 1) := by decide +kernel
theorem d_M_addressOf_403 : decode c_M_addressOf 403 = .ok (.getfield 57, 3) := by decide +kernel
theorem d_M_addressOf_406 : decode c_M_addressOf 406 = .ok (.iload 8, 2) := by decide +kernel
theorem d_M_addressOf_408 : decode c_M_addressOf 408 = .ok (.aload_n 0, 1) := by decide +kernel
theorem d_M_addressOf_409 : decode c_M_addressOf 409 = .ok (.getfield 57, 3) := by decide +kernel
theorem d_M_addressOf_412 : decode c_M_addressOf 412 = .ok (.iload 8, 2) := by decide +kernel
theorem d_M_addressOf_414 : decode c_M_addressOf 414 = .ok (.iconst 1, 1) := by decide +kernel
theorem d_M_addressOf_415 : decode c_M_addressOf 415 = .ok (.isub, 1) := by decide +kernel
theorem d_M_addressOf_416 : decode c_M_addressOf 416 = .ok (.iaload, 1) := by decide +kernel
theorem d_M_addressOf_417 : decode c_M_addressOf 417 = .ok (.iastore, 1) := by decide +kernel
theorem d_M_addressOf_418 : decode c_M_addressOf 418 = .ok (.iinc 8 (-1), 3) := by decide +kernel
theorem d_M_addressOf_421 : decode c_M_addressOf 421 = .ok (.goto (-24), 3) := by decide +kernel
theorem d_M_addressOf_424 : decode c_M_addressOf 424 = .ok (.aload_n 0, 1) := by decide +kernel
theorem d_M_addressOf_425 : decode c_M_addressOf 425 = .ok (.getfield 57, 3) := by decide +kernel
theorem d_M_addressOf_428 : decode c_M_addressOf 428 = .ok (.iconst 4, 1) := by decide +kernel
theorem d_M_addressOf_429 : decode c_M_addressOf 429 = .ok (.dup2, 1) := by decide +kernel
theorem d_M_addressOf_430 : decode c_M_addressOf 430 = .ok (.iaload, 1) := by decide +kernel
theorem d_M_addressOf_431 : decode c_M_addressOf 431 = .ok (.iload 6, 2) := by decide +kernel
theorem d_M_addressOf_433 : decode c_M_addressOf 433 = .ok (.iadd, 1) := by decide +kernel
theorem d_M_addressOf_434 : decode c_M_addressOf 434 = .ok (.iastore, 1) := by decide +kernel
theorem d_M_addressOf_435 : decode c_M_addressOf 435 = .ok (.aload_n 0, 1) := by decide +kernel
theorem d_M_addressOf_436 : decode c_M_addressOf 436 = .ok (.getfield 57, 3) := by decide +kernel
theorem d_M_addressOf_439 : decode c_M_addressOf 439 = .ok (.iconst 0, 1) := by decide +kernel
theorem d_M_addressOf_440 : decode c_M_addressOf 440 = .ok (.iload 6, 2) := by decide +kernel
theorem d_M_addressOf_442 : decode c_M_addressOf 442 = .ok (.iload 7, 2) := by decide +kernel
theorem d_M_addressOf_444 : decode c_M_addressOf 444 = .ok (.iadd, 1) := by decide +kernel
theorem d_M_addressOf_445 : decode c_M_addressOf 445 = .ok (.iastore, 1) := by decide +kernel
theorem d_M_addressOf_446 : decode c_M_addressOf 446 = .ok (.iinc 3 1, 3) := by decide +kernel
theorem d_M_addressOf_449 : decode c_M_addressOf 449 = .ok (.goto (-206), 3) := by decide +kernel
theorem d_M_addressOf_452 : decode c_M_addressOf 452 = .ok (.iconst 0, 1) := by decide +kernel
theorem d_M_addressOf_453 : decode c_M_addressOf 453 = .ok (.istore_n 3, 1) := by decide +kernel
theorem d_M_addressOf_454 : decode c_M_addressOf 454 = .ok (.iload_n 3, 1) := by decide +kernel
theorem d_M_addressOf_455 : decode c_M_addressOf 455 = .ok (.bipush 8, 2) := by decide +kernel
theorem d_M_addressOf_457 : decode c_M_addressOf 457 = .ok (.if_icmp .ge 27, 3) := by decide +kernel
theorem d_M_addressOf_460 : decode c_M_addressOf 460 = .ok (.aload_n 0, 1) := by decide +kernel
theorem d_M_addressOf_461 : decode c_M_addressOf 461 = .ok (.getfield 57, 3) := by decide +kernel
theorem d_M_addressOf_464 : decode c_M_addressOf 464 = .ok (.iload_n 3, 1) := by decide +kernel
theorem d_M_addressOf_465 : decode c_M_addressOf 465 = .ok (.dup2, 1) := by decide +kernel
theorem d_M_addressOf_466 : decode c_M_addressOf 466 = .ok (.iaload, 1) := by decide +kernel
theorem d_M_addressOf_467 : decode c_M_addressOf 467 = .ok (.aload_n 0, 1) := by decide +kernel
theorem d_M_addressOf_468 : decode c_M_addressOf 468 = .ok (.getfield 51, 3) := by decide +kernel
theorem d_M_addressOf_471 : decode c_M_addressOf 471 = .ok (.bipush 64, 2) := by decide +kernel
theorem d_M_addressOf_473 : decode c_M_addressOf 473 = .ok (.iload_n 3, 1) := by decide +kernel
theorem d_M_addressOf_474 : decode c_M_addressOf 474 = .ok (.iadd, 1) := by decide +kernel
theorem d_M_addressOf_475 : decode c_M_addressOf 475 = .ok (.iaload, 1) := by decide +kernel
theorem d_M_addressOf_476 : decode c_M_addressOf 476 = .ok (.iadd, 1) := by decide +kernel
theorem d_M_addressOf_477 : decode c_M_addressOf 477 = .ok (.iastore, 1) := by decide +kernel
theorem d_M_addressOf_478 : decode c_M_addressOf 478 = .ok (.iinc 3 1, 3) := by decide +kernel
theorem d_M_addressOf_481 : decode c_M_addressOf 481 = .ok (.goto (-27), 3) := by decide +kernel
theorem d_M_addressOf_484 : decode c_M_addressOf 484 = .ok (.return_, 1) := by decide +kernel
abbrev c_M_writes : ByteArray := prog_9_method_10_code
abbrev y_M_writes : MethodName := ⟨"BlobStoreModel", "writes", "(I)Z"⟩
theorem i_M_writes : bIs y_M_writes 2 := Or.inl ⟨_, _, t3_194⟩
theorem d_M_writes_0 : decode c_M_writes 0 = .ok (.aload_n 0, 1) := by decide +kernel
theorem d_M_writes_1 : decode c_M_writes 1 = .ok (.getfield 47, 3) := by decide +kernel
theorem d_M_writes_4 : decode c_M_writes 4 = .ok (.ifCond .ne 20, 3) := by decide +kernel
theorem d_M_writes_7 : decode c_M_writes 7 = .ok (.aload_n 0, 1) := by decide +kernel
theorem d_M_writes_8 : decode c_M_writes 8 = .ok (.iconst (-1), 1) := by decide +kernel
theorem d_M_writes_9 : decode c_M_writes 9 = .ok (.putfield 47, 3) := by decide +kernel
theorem d_M_writes_12 : decode c_M_writes 12 = .ok (.aload_n 0, 1) := by decide +kernel
theorem d_M_writes_13 : decode c_M_writes 13 = .ok (.iconst 1, 1) := by decide +kernel
theorem d_M_writes_14 : decode c_M_writes 14 = .ok (.putfield 87, 3) := by decide +kernel
theorem d_M_writes_17 : decode c_M_writes 17 = .ok (.aload_n 0, 1) := by decide +kernel
theorem d_M_writes_18 : decode c_M_writes 18 = .ok (.iload_n 1, 1) := by decide +kernel
theorem d_M_writes_19 : decode c_M_writes 19 = .ok (.putfield 75, 3) := by decide +kernel
theorem d_M_writes_22 : decode c_M_writes 22 = .ok (.iconst 0, 1) := by decide +kernel
theorem d_M_writes_23 : decode c_M_writes 23 = .ok (.ireturn, 1) := by decide +kernel
theorem d_M_writes_24 : decode c_M_writes 24 = .ok (.aload_n 0, 1) := by decide +kernel
theorem d_M_writes_25 : decode c_M_writes 25 = .ok (.dup, 1) := by decide +kernel
theorem d_M_writes_26 : decode c_M_writes 26 = .ok (.getfield 47, 3) := by decide +kernel
theorem d_M_writes_29 : decode c_M_writes 29 = .ok (.aload_n 0, 1) := by decide +kernel
theorem d_M_writes_30 : decode c_M_writes 30 = .ok (.getfield 47, 3) := by decide +kernel
theorem d_M_writes_33 : decode c_M_writes 33 = .ok (.ifCond .le 7, 3) := by decide +kernel
theorem d_M_writes_36 : decode c_M_writes 36 = .ok (.iconst 1, 1) := by decide +kernel
theorem d_M_writes_37 : decode c_M_writes 37 = .ok (.goto 4, 3) := by decide +kernel
theorem d_M_writes_40 : decode c_M_writes 40 = .ok (.iconst 0, 1) := by decide +kernel
theorem d_M_writes_41 : decode c_M_writes 41 = .ok (.isub, 1) := by decide +kernel
theorem d_M_writes_42 : decode c_M_writes 42 = .ok (.putfield 47, 3) := by decide +kernel
theorem d_M_writes_45 : decode c_M_writes 45 = .ok (.aload_n 0, 1) := by decide +kernel
theorem d_M_writes_46 : decode c_M_writes 46 = .ok (.dup, 1) := by decide +kernel
theorem d_M_writes_47 : decode c_M_writes 47 = .ok (.getfield 91, 3) := by decide +kernel
theorem d_M_writes_50 : decode c_M_writes 50 = .ok (.iconst 1, 1) := by decide +kernel
theorem d_M_writes_51 : decode c_M_writes 51 = .ok (.iadd, 1) := by decide +kernel
theorem d_M_writes_52 : decode c_M_writes 52 = .ok (.putfield 91, 3) := by decide +kernel
theorem d_M_writes_55 : decode c_M_writes 55 = .ok (.iconst 1, 1) := by decide +kernel
theorem d_M_writes_56 : decode c_M_writes 56 = .ok (.ireturn, 1) := by decide +kernel
abbrev c_M_isThere : ByteArray := prog_9_method_11_code
abbrev y_M_isThere : MethodName := ⟨"BlobStoreModel", "isThere", "(III)Z"⟩
theorem i_M_isThere : bIs y_M_isThere 5 := Or.inl ⟨_, _, t3_222⟩
theorem d_M_isThere_0 : decode c_M_isThere 0 = .ok (.aload_n 0, 1) := by decide +kernel
theorem d_M_isThere_1 : decode c_M_isThere 1 = .ok (.getfield 7, 3) := by decide +kernel
theorem d_M_isThere_4 : decode c_M_isThere 4 = .ok (.iload_n 1, 1) := by decide +kernel
theorem d_M_isThere_5 : decode c_M_isThere 5 = .ok (.iaload, 1) := by decide +kernel
theorem d_M_isThere_6 : decode c_M_isThere 6 = .ok (.iload_n 3, 1) := by decide +kernel
theorem d_M_isThere_7 : decode c_M_isThere 7 = .ok (.if_icmp .eq 5, 3) := by decide +kernel
theorem d_M_isThere_10 : decode c_M_isThere 10 = .ok (.iconst 0, 1) := by decide +kernel
theorem d_M_isThere_11 : decode c_M_isThere 11 = .ok (.ireturn, 1) := by decide +kernel
theorem d_M_isThere_12 : decode c_M_isThere 12 = .ok (.iconst 0, 1) := by decide +kernel
theorem d_M_isThere_13 : decode c_M_isThere 13 = .ok (.istore 4, 2) := by decide +kernel
theorem d_M_isThere_15 : decode c_M_isThere 15 = .ok (.iload 4, 2) := by decide +kernel
theorem d_M_isThere_17 : decode c_M_isThere 17 = .ok (.iload_n 3, 1) := by decide +kernel
theorem d_M_isThere_18 : decode c_M_isThere 18 = .ok (.if_icmp .ge 35, 3) := by decide +kernel
theorem d_M_isThere_21 : decode c_M_isThere 21 = .ok (.aload_n 0, 1) := by decide +kernel
theorem d_M_isThere_22 : decode c_M_isThere 22 = .ok (.getfield 13, 3) := by decide +kernel
theorem d_M_isThere_25 : decode c_M_isThere 25 = .ok (.bipush 8, 2) := by decide +kernel
theorem d_M_isThere_27 : decode c_M_isThere 27 = .ok (.iload_n 1, 1) := by decide +kernel
theorem d_M_isThere_28 : decode c_M_isThere 28 = .ok (.imul, 1) := by decide +kernel
theorem d_M_isThere_29 : decode c_M_isThere 29 = .ok (.iload 4, 2) := by decide +kernel
theorem d_M_isThere_31 : decode c_M_isThere 31 = .ok (.iadd, 1) := by decide +kernel
theorem d_M_isThere_32 : decode c_M_isThere 32 = .ok (.iaload, 1) := by decide +kernel
theorem d_M_isThere_33 : decode c_M_isThere 33 = .ok (.aload_n 0, 1) := by decide +kernel
theorem d_M_isThere_34 : decode c_M_isThere 34 = .ok (.getfield 60, 3) := by decide +kernel
theorem d_M_isThere_37 : decode c_M_isThere 37 = .ok (.iload_n 2, 1) := by decide +kernel
theorem d_M_isThere_38 : decode c_M_isThere 38 = .ok (.iload 4, 2) := by decide +kernel
theorem d_M_isThere_40 : decode c_M_isThere 40 = .ok (.iadd, 1) := by decide +kernel
theorem d_M_isThere_41 : decode c_M_isThere 41 = .ok (.iaload, 1) := by decide +kernel
theorem d_M_isThere_42 : decode c_M_isThere 42 = .ok (.if_icmp .eq 5, 3) := by decide +kernel
theorem d_M_isThere_45 : decode c_M_isThere 45 = .ok (.iconst 0, 1) := by decide +kernel
theorem d_M_isThere_46 : decode c_M_isThere 46 = .ok (.ireturn, 1) := by decide +kernel
theorem d_M_isThere_47 : decode c_M_isThere 47 = .ok (.iinc 4 1, 3) := by decide +kernel
theorem d_M_isThere_50 : decode c_M_isThere 50 = .ok (.goto (-35), 3) := by decide +kernel
theorem d_M_isThere_53 : decode c_M_isThere 53 = .ok (.iconst 1, 1) := by decide +kernel
theorem d_M_isThere_54 : decode c_M_isThere 54 = .ok (.ireturn, 1) := by decide +kernel
abbrev c_M_find : ByteArray := prog_9_method_12_code
abbrev y_M_find : MethodName := ⟨"BlobStoreModel", "find", "(II)I"⟩
theorem i_M_find : bIs y_M_find 4 := Or.inl ⟨_, _, t3_218⟩
theorem d_M_find_0 : decode c_M_find 0 = .ok (.iconst 0, 1) := by decide +kernel
theorem d_M_find_1 : decode c_M_find 1 = .ok (.istore_n 3, 1) := by decide +kernel
theorem d_M_find_2 : decode c_M_find 2 = .ok (.iload_n 3, 1) := by decide +kernel
theorem d_M_find_3 : decode c_M_find 3 = .ok (.bipush 48, 2) := by decide +kernel
theorem d_M_find_5 : decode c_M_find 5 = .ok (.if_icmp .ge 21, 3) := by decide +kernel
theorem d_M_find_8 : decode c_M_find 8 = .ok (.aload_n 0, 1) := by decide +kernel
theorem d_M_find_9 : decode c_M_find 9 = .ok (.iload_n 3, 1) := by decide +kernel
theorem d_M_find_10 : decode c_M_find 10 = .ok (.iload_n 1, 1) := by decide +kernel
theorem d_M_find_11 : decode c_M_find 11 = .ok (.iload_n 2, 1) := by decide +kernel
theorem d_M_find_12 : decode c_M_find 12 = .ok (.invokevirtual 94, 3) := by decide +kernel
theorem d_M_find_15 : decode c_M_find 15 = .ok (.ifCond .eq 5, 3) := by decide +kernel
theorem d_M_find_18 : decode c_M_find 18 = .ok (.iload_n 3, 1) := by decide +kernel
theorem d_M_find_19 : decode c_M_find 19 = .ok (.ireturn, 1) := by decide +kernel
theorem d_M_find_20 : decode c_M_find 20 = .ok (.iinc 3 1, 3) := by decide +kernel
theorem d_M_find_23 : decode c_M_find 23 = .ok (.goto (-21), 3) := by decide +kernel
theorem d_M_find_26 : decode c_M_find 26 = .ok (.iconst (-1), 1) := by decide +kernel
theorem d_M_find_27 : decode c_M_find 27 = .ok (.ireturn, 1) := by decide +kernel
abbrev c_M_chunkSize : ByteArray := prog_9_method_13_code
abbrev y_M_chunkSize : MethodName := ⟨"BlobStoreModel", "chunkSize", "(II)I"⟩
theorem i_M_chunkSize : bIs y_M_chunkSize 2 := Or.inl ⟨_, _, t3_214⟩
theorem d_M_chunkSize_0 : decode c_M_chunkSize 0 = .ok (.iload_n 0, 1) := by decide +kernel
theorem d_M_chunkSize_1 : decode c_M_chunkSize 1 = .ok (.iload_n 1, 1) := by decide +kernel
theorem d_M_chunkSize_2 : decode c_M_chunkSize 2 = .ok (.isub, 1) := by decide +kernel
theorem d_M_chunkSize_3 : decode c_M_chunkSize 3 = .ok (.bipush 8, 2) := by decide +kernel
theorem d_M_chunkSize_5 : decode c_M_chunkSize 5 = .ok (.if_icmp .ge 9, 3) := by decide +kernel
theorem d_M_chunkSize_8 : decode c_M_chunkSize 8 = .ok (.iload_n 0, 1) := by decide +kernel
theorem d_M_chunkSize_9 : decode c_M_chunkSize 9 = .ok (.iload_n 1, 1) := by decide +kernel
theorem d_M_chunkSize_10 : decode c_M_chunkSize 10 = .ok (.isub, 1) := by decide +kernel
theorem d_M_chunkSize_11 : decode c_M_chunkSize 11 = .ok (.goto 5, 3) := by decide +kernel
theorem d_M_chunkSize_14 : decode c_M_chunkSize 14 = .ok (.bipush 8, 2) := by decide +kernel
theorem d_M_chunkSize_16 : decode c_M_chunkSize 16 = .ok (.ireturn, 1) := by decide +kernel
abbrev c_M_isAlike : ByteArray := prog_9_method_14_code
abbrev y_M_isAlike : MethodName := ⟨"BlobStoreModel", "isAlike", "(III)Z"⟩
theorem i_M_isAlike : bIs y_M_isAlike 5 := Or.inl ⟨_, _, t3_226⟩
theorem d_M_isAlike_0 : decode c_M_isAlike 0 = .ok (.iconst 0, 1) := by decide +kernel
theorem d_M_isAlike_1 : decode c_M_isAlike 1 = .ok (.istore 4, 2) := by decide +kernel
theorem d_M_isAlike_3 : decode c_M_isAlike 3 = .ok (.iload 4, 2) := by decide +kernel
theorem d_M_isAlike_5 : decode c_M_isAlike 5 = .ok (.iload_n 3, 1) := by decide +kernel
theorem d_M_isAlike_6 : decode c_M_isAlike 6 = .ok (.if_icmp .ge 32, 3) := by decide +kernel
theorem d_M_isAlike_9 : decode c_M_isAlike 9 = .ok (.aload_n 0, 1) := by decide +kernel
theorem d_M_isAlike_10 : decode c_M_isAlike 10 = .ok (.getfield 60, 3) := by decide +kernel
theorem d_M_isAlike_13 : decode c_M_isAlike 13 = .ok (.iload_n 1, 1) := by decide +kernel
theorem d_M_isAlike_14 : decode c_M_isAlike 14 = .ok (.iload 4, 2) := by decide +kernel
theorem d_M_isAlike_16 : decode c_M_isAlike 16 = .ok (.iadd, 1) := by decide +kernel
theorem d_M_isAlike_17 : decode c_M_isAlike 17 = .ok (.iaload, 1) := by decide +kernel
theorem d_M_isAlike_18 : decode c_M_isAlike 18 = .ok (.aload_n 0, 1) := by decide +kernel
theorem d_M_isAlike_19 : decode c_M_isAlike 19 = .ok (.getfield 60, 3) := by decide +kernel
theorem d_M_isAlike_22 : decode c_M_isAlike 22 = .ok (.iload_n 2, 1) := by decide +kernel
theorem d_M_isAlike_23 : decode c_M_isAlike 23 = .ok (.iload 4, 2) := by decide +kernel
theorem d_M_isAlike_25 : decode c_M_isAlike 25 = .ok (.iadd, 1) := by decide +kernel
theorem d_M_isAlike_26 : decode c_M_isAlike 26 = .ok (.iaload, 1) := by decide +kernel
theorem d_M_isAlike_27 : decode c_M_isAlike 27 = .ok (.if_icmp .eq 5, 3) := by decide +kernel
theorem d_M_isAlike_30 : decode c_M_isAlike 30 = .ok (.iconst 0, 1) := by decide +kernel
theorem d_M_isAlike_31 : decode c_M_isAlike 31 = .ok (.ireturn, 1) := by decide +kernel
theorem d_M_isAlike_32 : decode c_M_isAlike 32 = .ok (.iinc 4 1, 3) := by decide +kernel
theorem d_M_isAlike_35 : decode c_M_isAlike 35 = .ok (.goto (-32), 3) := by decide +kernel
theorem d_M_isAlike_38 : decode c_M_isAlike 38 = .ok (.iconst 1, 1) := by decide +kernel
theorem d_M_isAlike_39 : decode c_M_isAlike 39 = .ok (.ireturn, 1) := by decide +kernel
abbrev c_M_missing : ByteArray := prog_9_method_15_code
abbrev y_M_missing : MethodName := ⟨"BlobStoreModel", "missing", "(I)I"⟩
theorem i_M_missing : bIs y_M_missing 7 := Or.inl ⟨_, _, t3_211⟩
theorem d_M_missing_0 : decode c_M_missing 0 = .ok (.iconst 0, 1) := by decide +kernel
theorem d_M_missing_1 : decode c_M_missing 1 = .ok (.istore_n 2, 1) := by decide +kernel
theorem d_M_missing_2 : decode c_M_missing 2 = .ok (.iconst 0, 1) := by decide +kernel
theorem d_M_missing_3 : decode c_M_missing 3 = .ok (.istore_n 3, 1) := by decide +kernel
theorem d_M_missing_4 : decode c_M_missing 4 = .ok (.iload_n 3, 1) := by decide +kernel
theorem d_M_missing_5 : decode c_M_missing 5 = .ok (.iload_n 1, 1) := by decide +kernel
theorem d_M_missing_6 : decode c_M_missing 6 = .ok (.if_icmp .ge 92, 3) := by decide +kernel
theorem d_M_missing_9 : decode c_M_missing 9 = .ok (.iload_n 1, 1) := by decide +kernel
theorem d_M_missing_10 : decode c_M_missing 10 = .ok (.iload_n 3, 1) := by decide +kernel
theorem d_M_missing_11 : decode c_M_missing 11 = .ok (.invokestatic 98, 3) := by decide +kernel
theorem d_M_missing_14 : decode c_M_missing 14 = .ok (.istore 4, 2) := by decide +kernel
theorem d_M_missing_16 : decode c_M_missing 16 = .ok (.aload_n 0, 1) := by decide +kernel
theorem d_M_missing_17 : decode c_M_missing 17 = .ok (.iload_n 3, 1) := by decide +kernel
theorem d_M_missing_18 : decode c_M_missing 18 = .ok (.iload 4, 2) := by decide +kernel
theorem d_M_missing_20 : decode c_M_missing 20 = .ok (.invokevirtual 101, 3) := by decide +kernel
theorem d_M_missing_23 : decode c_M_missing 23 = .ok (.ifCond .ge 7, 3) := by decide +kernel
theorem d_M_missing_26 : decode c_M_missing 26 = .ok (.iconst 1, 1) := by decide +kernel
theorem d_M_missing_27 : decode c_M_missing 27 = .ok (.goto 4, 3) := by decide +kernel
theorem d_M_missing_30 : decode c_M_missing 30 = .ok (.iconst 0, 1) := by decide +kernel
theorem d_M_missing_31 : decode c_M_missing 31 = .ok (.istore 5, 2) := by decide +kernel
theorem d_M_missing_33 : decode c_M_missing 33 = .ok (.iconst 0, 1) := by decide +kernel
theorem d_M_missing_34 : decode c_M_missing 34 = .ok (.istore 6, 2) := by decide +kernel
theorem d_M_missing_36 : decode c_M_missing 36 = .ok (.iload 6, 2) := by decide +kernel
theorem d_M_missing_38 : decode c_M_missing 38 = .ok (.iload_n 3, 1) := by decide +kernel
theorem d_M_missing_39 : decode c_M_missing 39 = .ok (.if_icmp .ge 40, 3) := by decide +kernel
theorem d_M_missing_42 : decode c_M_missing 42 = .ok (.iload 5, 2) := by decide +kernel
theorem d_M_missing_44 : decode c_M_missing 44 = .ok (.ifCond .eq 35, 3) := by decide +kernel
theorem d_M_missing_47 : decode c_M_missing 47 = .ok (.iload 4, 2) := by decide +kernel
theorem d_M_missing_49 : decode c_M_missing 49 = .ok (.bipush 8, 2) := by decide +kernel
theorem d_M_missing_51 : decode c_M_missing 51 = .ok (.if_icmp .lt 15, 3) := by decide +kernel
theorem d_M_missing_54 : decode c_M_missing 54 = .ok (.aload_n 0, 1) := by decide +kernel
theorem d_M_missing_55 : decode c_M_missing 55 = .ok (.iload_n 3, 1) := by decide +kernel
theorem d_M_missing_56 : decode c_M_missing 56 = .ok (.iload 6, 2) := by decide +kernel
theorem d_M_missing_58 : decode c_M_missing 58 = .ok (.bipush 8, 2) := by decide +kernel
theorem d_M_missing_60 : decode c_M_missing 60 = .ok (.invokevirtual 104, 3) := by decide +kernel
theorem d_M_missing_63 : decode c_M_missing 63 = .ok (.ifCond .ne 7, 3) := by decide +kernel
theorem d_M_missing_66 : decode c_M_missing 66 = .ok (.iconst 1, 1) := by decide +kernel
theorem d_M_missing_67 : decode c_M_missing 67 = .ok (.goto 4, 3) := by decide +kernel
theorem d_M_missing_70 : decode c_M_missing 70 = .ok (.iconst 0, 1) := by decide +kernel
theorem d_M_missing_71 : decode c_M_missing 71 = .ok (.istore 5, 2) := by decide +kernel
theorem d_M_missing_73 : decode c_M_missing 73 = .ok (.iinc 6 8, 3) := by decide +kernel
theorem d_M_missing_76 : decode c_M_missing 76 = .ok (.goto (-40), 3) := by decide +kernel
theorem d_M_missing_79 : decode c_M_missing 79 = .ok (.iload_n 2, 1) := by decide +kernel
theorem d_M_missing_80 : decode c_M_missing 80 = .ok (.iload 5, 2) := by decide +kernel
theorem d_M_missing_82 : decode c_M_missing 82 = .ok (.ifCond .eq 7, 3) := by decide +kernel
theorem d_M_missing_85 : decode c_M_missing 85 = .ok (.iconst 1, 1) := by decide +kernel
theorem d_M_missing_86 : decode c_M_missing 86 = .ok (.goto 4, 3) := by decide +kernel
theorem d_M_missing_89 : decode c_M_missing 89 = .ok (.iconst 0, 1) := by decide +kernel
theorem d_M_missing_90 : decode c_M_missing 90 = .ok (.iadd, 1) := by decide +kernel
theorem d_M_missing_91 : decode c_M_missing 91 = .ok (.istore_n 2, 1) := by decide +kernel
theorem d_M_missing_92 : decode c_M_missing 92 = .ok (.iinc 3 8, 3) := by decide +kernel
theorem d_M_missing_95 : decode c_M_missing 95 = .ok (.goto (-91), 3) := by decide +kernel
theorem d_M_missing_98 : decode c_M_missing 98 = .ok (.iload_n 2, 1) := by decide +kernel
theorem d_M_missing_99 : decode c_M_missing 99 = .ok (.ireturn, 1) := by decide +kernel
abbrev c_M_freeSlots : ByteArray := prog_9_method_16_code
abbrev y_M_freeSlots : MethodName := ⟨"BlobStoreModel", "freeSlots", "()I"⟩
theorem i_M_freeSlots : bIs y_M_freeSlots 3 := Or.inl ⟨_, _, t3_230⟩
theorem d_M_freeSlots_0 : decode c_M_freeSlots 0 = .ok (.iconst 0, 1) := by decide +kernel
theorem d_M_freeSlots_1 : decode c_M_freeSlots 1 = .ok (.istore_n 1, 1) := by decide +kernel
theorem d_M_freeSlots_2 : decode c_M_freeSlots 2 = .ok (.iconst 0, 1) := by decide +kernel
theorem d_M_freeSlots_3 : decode c_M_freeSlots 3 = .ok (.istore_n 2, 1) := by decide +kernel
theorem d_M_freeSlots_4 : decode c_M_freeSlots 4 = .ok (.iload_n 2, 1) := by decide +kernel
theorem d_M_freeSlots_5 : decode c_M_freeSlots 5 = .ok (.bipush 48, 2) := by decide +kernel
theorem d_M_freeSlots_7 : decode c_M_freeSlots 7 = .ok (.if_icmp .ge 26, 3) := by decide +kernel
theorem d_M_freeSlots_10 : decode c_M_freeSlots 10 = .ok (.iload_n 1, 1) := by decide +kernel
theorem d_M_freeSlots_11 : decode c_M_freeSlots 11 = .ok (.aload_n 0, 1) := by decide +kernel
theorem d_M_freeSlots_12 : decode c_M_freeSlots 12 = .ok (.getfield 7, 3) := by decide +kernel
theorem d_M_freeSlots_15 : decode c_M_freeSlots 15 = .ok (.iload_n 2, 1) := by decide +kernel
theorem d_M_freeSlots_16 : decode c_M_freeSlots 16 = .ok (.iaload, 1) := by decide +kernel
theorem d_M_freeSlots_17 : decode c_M_freeSlots 17 = .ok (.ifCond .ne 7, 3) := by decide +kernel
theorem d_M_freeSlots_20 : decode c_M_freeSlots 20 = .ok (.iconst 1, 1) := by decide +kernel
theorem d_M_freeSlots_21 : decode c_M_freeSlots 21 = .ok (.goto 4, 3) := by decide +kernel
theorem d_M_freeSlots_24 : decode c_M_freeSlots 24 = .ok (.iconst 0, 1) := by decide +kernel
theorem d_M_freeSlots_25 : decode c_M_freeSlots 25 = .ok (.iadd, 1) := by decide +kernel
theorem d_M_freeSlots_26 : decode c_M_freeSlots 26 = .ok (.istore_n 1, 1) := by decide +kernel
theorem d_M_freeSlots_27 : decode c_M_freeSlots 27 = .ok (.iinc 2 1, 3) := by decide +kernel
theorem d_M_freeSlots_30 : decode c_M_freeSlots 30 = .ok (.goto (-26), 3) := by decide +kernel
theorem d_M_freeSlots_33 : decode c_M_freeSlots 33 = .ok (.iload_n 1, 1) := by decide +kernel
theorem d_M_freeSlots_34 : decode c_M_freeSlots 34 = .ok (.ireturn, 1) := by decide +kernel
abbrev c_M_firstFree : ByteArray := prog_9_method_17_code
abbrev y_M_firstFree : MethodName := ⟨"BlobStoreModel", "firstFree", "()I"⟩
theorem i_M_firstFree : bIs y_M_firstFree 2 := Or.inl ⟨_, _, t3_234⟩
theorem d_M_firstFree_0 : decode c_M_firstFree 0 = .ok (.iconst 0, 1) := by decide +kernel
theorem d_M_firstFree_1 : decode c_M_firstFree 1 = .ok (.istore_n 1, 1) := by decide +kernel
theorem d_M_firstFree_2 : decode c_M_firstFree 2 = .ok (.aload_n 0, 1) := by decide +kernel
theorem d_M_firstFree_3 : decode c_M_firstFree 3 = .ok (.getfield 7, 3) := by decide +kernel
theorem d_M_firstFree_6 : decode c_M_firstFree 6 = .ok (.iload_n 1, 1) := by decide +kernel
theorem d_M_firstFree_7 : decode c_M_firstFree 7 = .ok (.iaload, 1) := by decide +kernel
theorem d_M_firstFree_8 : decode c_M_firstFree 8 = .ok (.ifCond .le 9, 3) := by decide +kernel
theorem d_M_firstFree_11 : decode c_M_firstFree 11 = .ok (.iinc 1 1, 3) := by decide +kernel
theorem d_M_firstFree_14 : decode c_M_firstFree 14 = .ok (.goto (-12), 3) := by decide +kernel
theorem d_M_firstFree_17 : decode c_M_firstFree 17 = .ok (.iload_n 1, 1) := by decide +kernel
theorem d_M_firstFree_18 : decode c_M_firstFree 18 = .ok (.ireturn, 1) := by decide +kernel
abbrev c_M_lay : ByteArray := prog_9_method_18_code
abbrev y_M_lay : MethodName := ⟨"BlobStoreModel", "lay", "(JJJ)V"⟩
theorem i_M_lay : bIs y_M_lay 8 := Or.inl ⟨_, _, t3_206⟩
theorem d_M_lay_0 : decode c_M_lay 0 = .ok (.iconst 0, 1) := by decide +kernel
theorem d_M_lay_1 : decode c_M_lay 1 = .ok (.istore 7, 2) := by decide +kernel
theorem d_M_lay_3 : decode c_M_lay 3 = .ok (.iload 7, 2) := by decide +kernel
theorem d_M_lay_5 : decode c_M_lay 5 = .ok (.bipush 24, 2) := by decide +kernel
theorem d_M_lay_7 : decode c_M_lay 7 = .ok (.if_icmp .ge 57, 3) := by decide +kernel
theorem d_M_lay_10 : decode c_M_lay 10 = .ok (.aload_n 0, 1) := by decide +kernel
theorem d_M_lay_11 : decode c_M_lay 11 = .ok (.getfield 60, 3) := by decide +kernel
theorem d_M_lay_14 : decode c_M_lay 14 = .ok (.iload 7, 2) := by decide +kernel
theorem d_M_lay_16 : decode c_M_lay 16 = .ok (.iload 7, 2) := by decide +kernel
theorem d_M_lay_18 : decode c_M_lay 18 = .ok (.bipush 8, 2) := by decide +kernel
theorem d_M_lay_20 : decode c_M_lay 20 = .ok (.if_icmp .ge 7, 3) := by decide +kernel
theorem d_M_lay_23 : decode c_M_lay 23 = .ok (.lload_n 1, 1) := by decide +kernel
theorem d_M_lay_24 : decode c_M_lay 24 = .ok (.goto 16, 3) := by decide +kernel
theorem d_M_lay_27 : decode c_M_lay 27 = .ok (.iload 7, 2) := by decide +kernel
theorem d_M_lay_29 : decode c_M_lay 29 = .ok (.bipush 16, 2) := by decide +kernel
theorem d_M_lay_31 : decode c_M_lay 31 = .ok (.if_icmp .ge 7, 3) := by decide +kernel
theorem d_M_lay_34 : decode c_M_lay 34 = .ok (.lload_n 3, 1) := by decide +kernel
theorem d_M_lay_35 : decode c_M_lay 35 = .ok (.goto 5, 3) := by decide +kernel
theorem d_M_lay_38 : decode c_M_lay 38 = .ok (.lload 5, 2) := by decide +kernel
theorem d_M_lay_40 : decode c_M_lay 40 = .ok (.bipush 56, 2) := by decide +kernel
theorem d_M_lay_42 : decode c_M_lay 42 = .ok (.bipush 8, 2) := by decide +kernel
theorem d_M_lay_44 : decode c_M_lay 44 = .ok (.iload 7, 2) := by decide +kernel
theorem d_M_lay_46 : decode c_M_lay 46 = .ok (.bipush 8, 2) := by decide +kernel
theorem d_M_lay_48 : decode c_M_lay 48 = .ok (.irem, 1) := by decide +kernel
theorem d_M_lay_49 : decode c_M_lay 49 = .ok (.imul, 1) := by decide +kernel
theorem d_M_lay_50 : decode c_M_lay 50 = .ok (.isub, 1) := by decide +kernel
theorem d_M_lay_51 : decode c_M_lay 51 = .ok (.lshr, 1) := by decide +kernel
theorem d_M_lay_52 : decode c_M_lay 52 = .ok (.ldc2_w 107, 3) := by decide +kernel
theorem d_M_lay_55 : decode c_M_lay 55 = .ok (.land, 1) := by decide +kernel
theorem d_M_lay_56 : decode c_M_lay 56 = .ok (.l2i, 1) := by decide +kernel
theorem d_M_lay_57 : decode c_M_lay 57 = .ok (.iastore, 1) := by decide +kernel
theorem d_M_lay_58 : decode c_M_lay 58 = .ok (.iinc 7 1, 3) := by decide +kernel
theorem d_M_lay_61 : decode c_M_lay 61 = .ok (.goto (-58), 3) := by decide +kernel
theorem d_M_lay_64 : decode c_M_lay 64 = .ok (.return_, 1) := by decide +kernel
abbrev c_M_isOpen : ByteArray := prog_9_method_19_code
abbrev y_M_isOpen : MethodName := ⟨"BlobStoreModel", "isOpen", "(I)Z"⟩
theorem i_M_isOpen : bIs y_M_isOpen 2 := Or.inl ⟨_, _, t3_202⟩
theorem d_M_isOpen_0 : decode c_M_isOpen 0 = .ok (.iload_n 1, 1) := by decide +kernel
theorem d_M_isOpen_1 : decode c_M_isOpen 1 = .ok (.iconst 0, 1) := by decide +kernel
theorem d_M_isOpen_2 : decode c_M_isOpen 2 = .ok (.iconst 4, 1) := by decide +kernel
theorem d_M_isOpen_3 : decode c_M_isOpen 3 = .ok (.invokestatic 109, 3) := by decide +kernel
theorem d_M_isOpen_6 : decode c_M_isOpen 6 = .ok (.ifCond .eq 16, 3) := by decide +kernel
theorem d_M_isOpen_9 : decode c_M_isOpen 9 = .ok (.aload_n 0, 1) := by decide +kernel
theorem d_M_isOpen_10 : decode c_M_isOpen 10 = .ok (.getfield 16, 3) := by decide +kernel
theorem d_M_isOpen_13 : decode c_M_isOpen 13 = .ok (.iload_n 1, 1) := by decide +kernel
theorem d_M_isOpen_14 : decode c_M_isOpen 14 = .ok (.baload, 1) := by decide +kernel
theorem d_M_isOpen_15 : decode c_M_isOpen 15 = .ok (.ifCond .eq 7, 3) := by decide +kernel
theorem d_M_isOpen_18 : decode c_M_isOpen 18 = .ok (.iconst 1, 1) := by decide +kernel
theorem d_M_isOpen_19 : decode c_M_isOpen 19 = .ok (.goto 4, 3) := by decide +kernel
theorem d_M_isOpen_22 : decode c_M_isOpen 22 = .ok (.iconst 0, 1) := by decide +kernel
theorem d_M_isOpen_23 : decode c_M_isOpen 23 = .ok (.ireturn, 1) := by decide +kernel
abbrev c_M_begin : ByteArray := prog_9_method_20_code
abbrev y_M_begin : MethodName := ⟨"BlobStoreModel", "begin", "(II)I"⟩
theorem i_M_begin : bIs y_M_begin 5 := Or.inl ⟨_, _, t3_183⟩
theorem d_M_begin_0 : decode c_M_begin 0 = .ok (.iconst 0, 1) := by decide +kernel
theorem d_M_begin_1 : decode c_M_begin 1 = .ok (.istore_n 3, 1) := by decide +kernel
theorem d_M_begin_2 : decode c_M_begin 2 = .ok (.iload_n 3, 1) := by decide +kernel
theorem d_M_begin_3 : decode c_M_begin 3 = .ok (.iconst 5, 1) := by decide +kernel
theorem d_M_begin_4 : decode c_M_begin 4 = .ok (.if_icmp .ge 18, 3) := by decide +kernel
theorem d_M_begin_7 : decode c_M_begin 7 = .ok (.aload_n 0, 1) := by decide +kernel
theorem d_M_begin_8 : decode c_M_begin 8 = .ok (.getfield 16, 3) := by decide +kernel
theorem d_M_begin_11 : decode c_M_begin 11 = .ok (.iload_n 3, 1) := by decide +kernel
theorem d_M_begin_12 : decode c_M_begin 12 = .ok (.baload, 1) := by decide +kernel
theorem d_M_begin_13 : decode c_M_begin 13 = .ok (.ifCond .eq 9, 3) := by decide +kernel
theorem d_M_begin_16 : decode c_M_begin 16 = .ok (.iinc 3 1, 3) := by decide +kernel
theorem d_M_begin_19 : decode c_M_begin 19 = .ok (.goto (-17), 3) := by decide +kernel
theorem d_M_begin_22 : decode c_M_begin 22 = .ok (.aload_n 0, 1) := by decide +kernel
theorem d_M_begin_23 : decode c_M_begin 23 = .ok (.aload_n 0, 1) := by decide +kernel
theorem d_M_begin_24 : decode c_M_begin 24 = .ok (.getfield 87, 3) := by decide +kernel
theorem d_M_begin_27 : decode c_M_begin 27 = .ok (.ifCond .ne 8, 3) := by decide +kernel
theorem d_M_begin_30 : decode c_M_begin 30 = .ok (.iload_n 3, 1) := by decide +kernel
theorem d_M_begin_31 : decode c_M_begin 31 = .ok (.iconst 5, 1) := by decide +kernel
theorem d_M_begin_32 : decode c_M_begin 32 = .ok (.if_icmp .ne 7, 3) := by decide +kernel
theorem d_M_begin_35 : decode c_M_begin 35 = .ok (.iconst 1, 1) := by decide +kernel
theorem d_M_begin_36 : decode c_M_begin 36 = .ok (.goto 27, 3) := by decide +kernel
theorem d_M_begin_39 : decode c_M_begin 39 = .ok (.iload_n 1, 1) := by decide +kernel
theorem d_M_begin_40 : decode c_M_begin 40 = .ok (.iconst 0, 1) := by decide +kernel
theorem d_M_begin_41 : decode c_M_begin 41 = .ok (.iconst 3, 1) := by decide +kernel
theorem d_M_begin_42 : decode c_M_begin 42 = .ok (.invokestatic 109, 3) := by decide +kernel
theorem d_M_begin_45 : decode c_M_begin 45 = .ok (.ifCond .eq 13, 3) := by decide +kernel
theorem d_M_begin_48 : decode c_M_begin 48 = .ok (.iload_n 2, 1) := by decide +kernel
theorem d_M_begin_49 : decode c_M_begin 49 = .ok (.iconst 0, 1) := by decide +kernel
theorem d_M_begin_50 : decode c_M_begin 50 = .ok (.bipush 7, 2) := by decide +kernel
theorem d_M_begin_52 : decode c_M_begin 52 = .ok (.invokestatic 109, 3) := by decide +kernel
theorem d_M_begin_55 : decode c_M_begin 55 = .ok (.ifCond .ne 7, 3) := by decide +kernel
theorem d_M_begin_58 : decode c_M_begin 58 = .ok (.iconst 2, 1) := by decide +kernel
theorem d_M_begin_59 : decode c_M_begin 59 = .ok (.goto 4, 3) := by decide +kernel
theorem d_M_begin_62 : decode c_M_begin 62 = .ok (.iconst 0, 1) := by decide +kernel
theorem d_M_begin_63 : decode c_M_begin 63 = .ok (.invokevirtual 112, 3) := by decide +kernel
theorem d_M_begin_66 : decode c_M_begin 66 = .ok (.ifCond .eq 11, 3) := by decide +kernel
theorem d_M_begin_69 : decode c_M_begin 69 = .ok (.aload_n 0, 1) := by decide +kernel
theorem d_M_begin_70 : decode c_M_begin 70 = .ok (.iconst 3, 1) := by decide +kernel
theorem d_M_begin_71 : decode c_M_begin 71 = .ok (.invokevirtual 115, 3) := by decide +kernel
theorem d_M_begin_74 : decode c_M_begin 74 = .ok (.ifCond .ne 5, 3) := by decide +kernel
theorem d_M_begin_77 : decode c_M_begin 77 = .ok (.iconst 0, 1) := by decide +kernel
theorem d_M_begin_78 : decode c_M_begin 78 = .ok (.ireturn, 1) := by decide +kernel
theorem d_M_begin_79 : decode c_M_begin 79 = .ok (.aload_n 0, 1) := by decide +kernel
theorem d_M_begin_80 : decode c_M_begin 80 = .ok (.getfield 16, 3) := by decide +kernel
theorem d_M_begin_83 : decode c_M_begin 83 = .ok (.iload_n 3, 1) := by decide +kernel
theorem d_M_begin_84 : decode c_M_begin 84 = .ok (.iconst 1, 1) := by decide +kernel
theorem d_M_begin_85 : decode c_M_begin 85 = .ok (.bastore, 1) := by decide +kernel
theorem d_M_begin_86 : decode c_M_begin 86 = .ok (.aload_n 0, 1) := by decide +kernel
theorem d_M_begin_87 : decode c_M_begin 87 = .ok (.getfield 20, 3) := by decide +kernel
theorem d_M_begin_90 : decode c_M_begin 90 = .ok (.iload_n 3, 1) := by decide +kernel
theorem d_M_begin_91 : decode c_M_begin 91 = .ok (.iload_n 1, 1) := by decide +kernel
theorem d_M_begin_92 : decode c_M_begin 92 = .ok (.iastore, 1) := by decide +kernel
theorem d_M_begin_93 : decode c_M_begin 93 = .ok (.aload_n 0, 1) := by decide +kernel
theorem d_M_begin_94 : decode c_M_begin 94 = .ok (.getfield 23, 3) := by decide +kernel
theorem d_M_begin_97 : decode c_M_begin 97 = .ok (.iload_n 3, 1) := by decide +kernel
theorem d_M_begin_98 : decode c_M_begin 98 = .ok (.iload_n 2, 1) := by decide +kernel
theorem d_M_begin_99 : decode c_M_begin 99 = .ok (.iastore, 1) := by decide +kernel
theorem d_M_begin_100 : decode c_M_begin 100 = .ok (.iconst 0, 1) := by decide +kernel
theorem d_M_begin_101 : decode c_M_begin 101 = .ok (.istore 4, 2) := by decide +kernel
theorem d_M_begin_103 : decode c_M_begin 103 = .ok (.iload 4, 2) := by decide +kernel
theorem d_M_begin_105 : decode c_M_begin 105 = .ok (.bipush 7, 2) := by decide +kernel
theorem d_M_begin_107 : decode c_M_begin 107 = .ok (.if_icmp .ge 22, 3) := by decide +kernel
theorem d_M_begin_110 : decode c_M_begin 110 = .ok (.aload_n 0, 1) := by decide +kernel
theorem d_M_begin_111 : decode c_M_begin 111 = .ok (.getfield 26, 3) := by decide +kernel
theorem d_M_begin_114 : decode c_M_begin 114 = .ok (.bipush 7, 2) := by decide +kernel
theorem d_M_begin_116 : decode c_M_begin 116 = .ok (.iload_n 3, 1) := by decide +kernel
theorem d_M_begin_117 : decode c_M_begin 117 = .ok (.imul, 1) := by decide +kernel
theorem d_M_begin_118 : decode c_M_begin 118 = .ok (.iload 4, 2) := by decide +kernel
theorem d_M_begin_120 : decode c_M_begin 120 = .ok (.iadd, 1) := by decide +kernel
theorem d_M_begin_121 : decode c_M_begin 121 = .ok (.iconst (-1), 1) := by decide +kernel
theorem d_M_begin_122 : decode c_M_begin 122 = .ok (.iastore, 1) := by decide +kernel
theorem d_M_begin_123 : decode c_M_begin 123 = .ok (.iinc 4 1, 3) := by decide +kernel
theorem d_M_begin_126 : decode c_M_begin 126 = .ok (.goto (-23), 3) := by decide +kernel
theorem d_M_begin_129 : decode c_M_begin 129 = .ok (.iload_n 3, 1) := by decide +kernel
theorem d_M_begin_130 : decode c_M_begin 130 = .ok (.ireturn, 1) := by decide +kernel
abbrev c_M_part : ByteArray := prog_9_method_21_code
abbrev y_M_part : MethodName := ⟨"BlobStoreModel", "part", "(IIIJJJ)I"⟩
theorem i_M_part : bIs y_M_part 15 := Or.inl ⟨_, _, t3_198⟩
theorem d_M_part_0 : decode c_M_part 0 = .ok (.aload_n 0, 1) := by decide +kernel
theorem d_M_part_1 : decode c_M_part 1 = .ok (.aload_n 0, 1) := by decide +kernel
theorem d_M_part_2 : decode c_M_part 2 = .ok (.getfield 87, 3) := by decide +kernel
theorem d_M_part_5 : decode c_M_part 5 = .ok (.ifCond .eq 7, 3) := by decide +kernel
theorem d_M_part_8 : decode c_M_part 8 = .ok (.iconst 1, 1) := by decide +kernel
theorem d_M_part_9 : decode c_M_part 9 = .ok (.goto 36, 3) := by decide +kernel
theorem d_M_part_12 : decode c_M_part 12 = .ok (.aload_n 0, 1) := by decide +kernel
theorem d_M_part_13 : decode c_M_part 13 = .ok (.iload_n 1, 1) := by decide +kernel
theorem d_M_part_14 : decode c_M_part 14 = .ok (.invokevirtual 117, 3) := by decide +kernel
theorem d_M_part_17 : decode c_M_part 17 = .ok (.ifCond .eq 23, 3) := by decide +kernel
theorem d_M_part_20 : decode c_M_part 20 = .ok (.iload_n 2, 1) := by decide +kernel
theorem d_M_part_21 : decode c_M_part 21 = .ok (.iconst 1, 1) := by decide +kernel
theorem d_M_part_22 : decode c_M_part 22 = .ok (.bipush 6, 2) := by decide +kernel
theorem d_M_part_24 : decode c_M_part 24 = .ok (.invokestatic 109, 3) := by decide +kernel
theorem d_M_part_27 : decode c_M_part 27 = .ok (.ifCond .eq 13, 3) := by decide +kernel
theorem d_M_part_30 : decode c_M_part 30 = .ok (.iload_n 3, 1) := by decide +kernel
theorem d_M_part_31 : decode c_M_part 31 = .ok (.iconst 0, 1) := by decide +kernel
theorem d_M_part_32 : decode c_M_part 32 = .ok (.bipush 24, 2) := by decide +kernel
theorem d_M_part_34 : decode c_M_part 34 = .ok (.invokestatic 109, 3) := by decide +kernel
theorem d_M_part_37 : decode c_M_part 37 = .ok (.ifCond .ne 7, 3) := by decide +kernel
theorem d_M_part_40 : decode c_M_part 40 = .ok (.iconst 2, 1) := by decide +kernel
theorem d_M_part_41 : decode c_M_part 41 = .ok (.goto 4, 3) := by decide +kernel
theorem d_M_part_44 : decode c_M_part 44 = .ok (.iconst 0, 1) := by decide +kernel
theorem d_M_part_45 : decode c_M_part 45 = .ok (.invokevirtual 112, 3) := by decide +kernel
theorem d_M_part_48 : decode c_M_part 48 = .ok (.ifCond .ne 5, 3) := by decide +kernel
theorem d_M_part_51 : decode c_M_part 51 = .ok (.iconst 0, 1) := by decide +kernel
theorem d_M_part_52 : decode c_M_part 52 = .ok (.ireturn, 1) := by decide +kernel
theorem d_M_part_53 : decode c_M_part 53 = .ok (.aload_n 0, 1) := by decide +kernel
theorem d_M_part_54 : decode c_M_part 54 = .ok (.lload 4, 2) := by decide +kernel
theorem d_M_part_56 : decode c_M_part 56 = .ok (.lload 6, 2) := by decide +kernel
theorem d_M_part_58 : decode c_M_part 58 = .ok (.lload 8, 2) := by decide +kernel
theorem d_M_part_60 : decode c_M_part 60 = .ok (.invokevirtual 120, 3) := by decide +kernel
theorem d_M_part_63 : decode c_M_part 63 = .ok (.aload_n 0, 1) := by decide +kernel
theorem d_M_part_64 : decode c_M_part 64 = .ok (.aload_n 0, 1) := by decide +kernel
theorem d_M_part_65 : decode c_M_part 65 = .ok (.iload_n 3, 1) := by decide +kernel
theorem d_M_part_66 : decode c_M_part 66 = .ok (.invokevirtual 124, 3) := by decide +kernel
theorem d_M_part_69 : decode c_M_part 69 = .ok (.aload_n 0, 1) := by decide +kernel
theorem d_M_part_70 : decode c_M_part 70 = .ok (.invokevirtual 128, 3) := by decide +kernel
theorem d_M_part_73 : decode c_M_part 73 = .ok (.if_icmp .le 7, 3) := by decide +kernel
theorem d_M_part_76 : decode c_M_part 76 = .ok (.iconst 3, 1) := by decide +kernel
theorem d_M_part_77 : decode c_M_part 77 = .ok (.goto 4, 3) := by decide +kernel
theorem d_M_part_80 : decode c_M_part 80 = .ok (.iconst 0, 1) := by decide +kernel
theorem d_M_part_81 : decode c_M_part 81 = .ok (.invokevirtual 112, 3) := by decide +kernel
theorem d_M_part_84 : decode c_M_part 84 = .ok (.ifCond .ne 5, 3) := by decide +kernel
theorem d_M_part_87 : decode c_M_part 87 = .ok (.iconst 0, 1) := by decide +kernel
theorem d_M_part_88 : decode c_M_part 88 = .ok (.ireturn, 1) := by decide +kernel
theorem d_M_part_89 : decode c_M_part 89 = .ok (.iconst 0, 1) := by decide +kernel
theorem d_M_part_90 : decode c_M_part 90 = .ok (.istore 10, 2) := by decide +kernel
theorem d_M_part_92 : decode c_M_part 92 = .ok (.iconst 0, 1) := by decide +kernel
theorem d_M_part_93 : decode c_M_part 93 = .ok (.istore 11, 2) := by decide +kernel
theorem d_M_part_95 : decode c_M_part 95 = .ok (.iload 11, 2) := by decide +kernel
theorem d_M_part_97 : decode c_M_part 97 = .ok (.iload_n 3, 1) := by decide +kernel
theorem d_M_part_98 : decode c_M_part 98 = .ok (.if_icmp .ge 98, 3) := by decide +kernel
theorem d_M_part_101 : decode c_M_part 101 = .ok (.iload_n 3, 1) := by decide +kernel
theorem d_M_part_102 : decode c_M_part 102 = .ok (.iload 11, 2) := by decide +kernel
theorem d_M_part_104 : decode c_M_part 104 = .ok (.invokestatic 98, 3) := by decide +kernel
theorem d_M_part_107 : decode c_M_part 107 = .ok (.istore 12, 2) := by decide +kernel
theorem d_M_part_109 : decode c_M_part 109 = .ok (.aload_n 0, 1) := by decide +kernel
theorem d_M_part_110 : decode c_M_part 110 = .ok (.iload 11, 2) := by decide +kernel
theorem d_M_part_112 : decode c_M_part 112 = .ok (.iload 12, 2) := by decide +kernel
theorem d_M_part_114 : decode c_M_part 114 = .ok (.invokevirtual 101, 3) := by decide +kernel
theorem d_M_part_117 : decode c_M_part 117 = .ok (.ifCond .lt 6, 3) := by decide +kernel
theorem d_M_part_120 : decode c_M_part 120 = .ok (.goto 70, 3) := by decide +kernel
theorem d_M_part_123 : decode c_M_part 123 = .ok (.aload_n 0, 1) := by decide +kernel
theorem d_M_part_124 : decode c_M_part 124 = .ok (.iconst 4, 1) := by decide +kernel
theorem d_M_part_125 : decode c_M_part 125 = .ok (.invokevirtual 115, 3) := by decide +kernel
theorem d_M_part_128 : decode c_M_part 128 = .ok (.ifCond .ne 5, 3) := by decide +kernel
theorem d_M_part_131 : decode c_M_part 131 = .ok (.iconst 0, 1) := by decide +kernel
theorem d_M_part_132 : decode c_M_part 132 = .ok (.ireturn, 1) := by decide +kernel
theorem d_M_part_133 : decode c_M_part 133 = .ok (.aload_n 0, 1) := by decide +kernel
theorem d_M_part_134 : decode c_M_part 134 = .ok (.invokevirtual 132, 3) := by decide +kernel
theorem d_M_part_137 : decode c_M_part 137 = .ok (.istore 13, 2) := by decide +kernel
theorem d_M_part_139 : decode c_M_part 139 = .ok (.aload_n 0, 1) := by decide +kernel
theorem d_M_part_140 : decode c_M_part 140 = .ok (.getfield 7, 3) := by decide +kernel
theorem d_M_part_143 : decode c_M_part 143 = .ok (.iload 13, 2) := by decide +kernel
theorem d_M_part_145 : decode c_M_part 145 = .ok (.iload 12, 2) := by decide +kernel
theorem d_M_part_147 : decode c_M_part 147 = .ok (.iastore, 1) := by decide +kernel
theorem d_M_part_148 : decode c_M_part 148 = .ok (.iconst 0, 1) := by decide +kernel
theorem d_M_part_149 : decode c_M_part 149 = .ok (.istore 14, 2) := by decide +kernel
theorem d_M_part_151 : decode c_M_part 151 = .ok (.iload 14, 2) := by decide +kernel
theorem d_M_part_153 : decode c_M_part 153 = .ok (.iload 12, 2) := by decide +kernel
theorem d_M_part_155 : decode c_M_part 155 = .ok (.if_icmp .ge 32, 3) := by decide +kernel
theorem d_M_part_158 : decode c_M_part 158 = .ok (.aload_n 0, 1) := by decide +kernel
theorem d_M_part_159 : decode c_M_part 159 = .ok (.getfield 13, 3) := by decide +kernel
theorem d_M_part_162 : decode c_M_part 162 = .ok (.bipush 8, 2) := by decide +kernel
theorem d_M_part_164 : decode c_M_part 164 = .ok (.iload 13, 2) := by decide +kernel
theorem d_M_part_166 : decode c_M_part 166 = .ok (.imul, 1) := by decide +kernel
theorem d_M_part_167 : decode c_M_part 167 = .ok (.iload 14, 2) := by decide +kernel
theorem d_M_part_169 : decode c_M_part 169 = .ok (.iadd, 1) := by decide +kernel
theorem d_M_part_170 : decode c_M_part 170 = .ok (.aload_n 0, 1) := by decide +kernel
theorem d_M_part_171 : decode c_M_part 171 = .ok (.getfield 60, 3) := by decide +kernel
theorem d_M_part_174 : decode c_M_part 174 = .ok (.iload 11, 2) := by decide +kernel
theorem d_M_part_176 : decode c_M_part 176 = .ok (.iload 14, 2) := by decide +kernel
theorem d_M_part_178 : decode c_M_part 178 = .ok (.iadd, 1) := by decide +kernel
theorem d_M_part_179 : decode c_M_part 179 = .ok (.iaload, 1) := by decide +kernel
theorem d_M_part_180 : decode c_M_part 180 = .ok (.iastore, 1) := by decide +kernel
theorem d_M_part_181 : decode c_M_part 181 = .ok (.iinc 14 1, 3) := by decide +kernel
theorem d_M_part_184 : decode c_M_part 184 = .ok (.goto (-33), 3) := by decide +kernel
theorem d_M_part_187 : decode c_M_part 187 = .ok (.iinc 10 1, 3) := by decide +kernel
theorem d_M_part_190 : decode c_M_part 190 = .ok (.iinc 11 8, 3) := by decide +kernel
theorem d_M_part_193 : decode c_M_part 193 = .ok (.goto (-98), 3) := by decide +kernel
theorem d_M_part_196 : decode c_M_part 196 = .ok (.aload_n 0, 1) := by decide +kernel
theorem d_M_part_197 : decode c_M_part 197 = .ok (.iconst 4, 1) := by decide +kernel
theorem d_M_part_198 : decode c_M_part 198 = .ok (.invokevirtual 115, 3) := by decide +kernel
theorem d_M_part_201 : decode c_M_part 201 = .ok (.ifCond .ne 5, 3) := by decide +kernel
theorem d_M_part_204 : decode c_M_part 204 = .ok (.iconst 0, 1) := by decide +kernel
theorem d_M_part_205 : decode c_M_part 205 = .ok (.ireturn, 1) := by decide +kernel
theorem d_M_part_206 : decode c_M_part 206 = .ok (.bipush 7, 2) := by decide +kernel
theorem d_M_part_208 : decode c_M_part 208 = .ok (.iload_n 1, 1) := by decide +kernel
theorem d_M_part_209 : decode c_M_part 209 = .ok (.imul, 1) := by decide +kernel
theorem d_M_part_210 : decode c_M_part 210 = .ok (.iload_n 2, 1) := by decide +kernel
theorem d_M_part_211 : decode c_M_part 211 = .ok (.iadd, 1) := by decide +kernel
theorem d_M_part_212 : decode c_M_part 212 = .ok (.istore 11, 2) := by decide +kernel
theorem d_M_part_214 : decode c_M_part 214 = .ok (.aload_n 0, 1) := by decide +kernel
theorem d_M_part_215 : decode c_M_part 215 = .ok (.getfield 26, 3) := by decide +kernel
theorem d_M_part_218 : decode c_M_part 218 = .ok (.iload 11, 2) := by decide +kernel
theorem d_M_part_220 : decode c_M_part 220 = .ok (.iload_n 3, 1) := by decide +kernel
theorem d_M_part_221 : decode c_M_part 221 = .ok (.bipush 7, 2) := by decide +kernel
theorem d_M_part_223 : decode c_M_part 223 = .ok (.iadd, 1) := by decide +kernel
theorem d_M_part_224 : decode c_M_part 224 = .ok (.bipush 8, 2) := by decide +kernel
theorem d_M_part_226 : decode c_M_part 226 = .ok (.idiv, 1) := by decide +kernel
theorem d_M_part_227 : decode c_M_part 227 = .ok (.iastore, 1) := by decide +kernel
theorem d_M_part_228 : decode c_M_part 228 = .ok (.iconst 0, 1) := by decide +kernel
theorem d_M_part_229 : decode c_M_part 229 = .ok (.istore 12, 2) := by decide +kernel
theorem d_M_part_231 : decode c_M_part 231 = .ok (.iload 12, 2) := by decide +kernel
theorem d_M_part_233 : decode c_M_part 233 = .ok (.iload_n 3, 1) := by decide +kernel
theorem d_M_part_234 : decode c_M_part 234 = .ok (.if_icmp .ge 36, 3) := by decide +kernel
theorem d_M_part_237 : decode c_M_part 237 = .ok (.aload_n 0, 1) := by decide +kernel
theorem d_M_part_238 : decode c_M_part 238 = .ok (.getfield 29, 3) := by decide +kernel
theorem d_M_part_241 : decode c_M_part 241 = .ok (.iconst 3, 1) := by decide +kernel
theorem d_M_part_242 : decode c_M_part 242 = .ok (.iload 11, 2) := by decide +kernel
theorem d_M_part_244 : decode c_M_part 244 = .ok (.imul, 1) := by decide +kernel
theorem d_M_part_245 : decode c_M_part 245 = .ok (.iload 12, 2) := by decide +kernel
theorem d_M_part_247 : decode c_M_part 247 = .ok (.bipush 8, 2) := by decide +kernel
theorem d_M_part_249 : decode c_M_part 249 = .ok (.idiv, 1) := by decide +kernel
theorem d_M_part_250 : decode c_M_part 250 = .ok (.iadd, 1) := by decide +kernel
theorem d_M_part_251 : decode c_M_part 251 = .ok (.aload_n 0, 1) := by decide +kernel
theorem d_M_part_252 : decode c_M_part 252 = .ok (.iload 12, 2) := by decide +kernel
theorem d_M_part_254 : decode c_M_part 254 = .ok (.iload_n 3, 1) := by decide +kernel
theorem d_M_part_255 : decode c_M_part 255 = .ok (.iload 12, 2) := by decide +kernel
theorem d_M_part_257 : decode c_M_part 257 = .ok (.invokestatic 98, 3) := by decide +kernel
theorem d_M_part_260 : decode c_M_part 260 = .ok (.invokevirtual 101, 3) := by decide +kernel
theorem d_M_part_263 : decode c_M_part 263 = .ok (.iastore, 1) := by decide +kernel
theorem d_M_part_264 : decode c_M_part 264 = .ok (.iinc 12 8, 3) := by decide +kernel
theorem d_M_part_267 : decode c_M_part 267 = .ok (.goto (-36), 3) := by decide +kernel
theorem d_M_part_270 : decode c_M_part 270 = .ok (.iload 10, 2) := by decide +kernel
theorem d_M_part_272 : decode c_M_part 272 = .ok (.ireturn, 1) := by decide +kernel
abbrev c_M_complete : ByteArray := prog_9_method_22_code
abbrev y_M_complete : MethodName := ⟨"BlobStoreModel", "complete", "(I)I"⟩
theorem i_M_complete : bIs y_M_complete 5 := Or.inl ⟨_, _, t3_238⟩
theorem d_M_complete_0 : decode c_M_complete 0 = .ok (.aload_n 0, 1) := by decide +kernel
theorem d_M_complete_1 : decode c_M_complete 1 = .ok (.aload_n 0, 1) := by decide +kernel
theorem d_M_complete_2 : decode c_M_complete 2 = .ok (.getfield 87, 3) := by decide +kernel
theorem d_M_complete_5 : decode c_M_complete 5 = .ok (.ifCond .ne 12, 3) := by decide +kernel
theorem d_M_complete_8 : decode c_M_complete 8 = .ok (.aload_n 0, 1) := by decide +kernel
theorem d_M_complete_9 : decode c_M_complete 9 = .ok (.getfield 135, 3) := by decide +kernel
theorem d_M_complete_12 : decode c_M_complete 12 = .ok (.bipush 40, 2) := by decide +kernel
theorem d_M_complete_14 : decode c_M_complete 14 = .ok (.if_icmp .ne 7, 3) := by decide +kernel
theorem d_M_complete_17 : decode c_M_complete 17 = .ok (.iconst 1, 1) := by decide +kernel
theorem d_M_complete_18 : decode c_M_complete 18 = .ok (.goto 16, 3) := by decide +kernel
theorem d_M_complete_21 : decode c_M_complete 21 = .ok (.aload_n 0, 1) := by decide +kernel
theorem d_M_complete_22 : decode c_M_complete 22 = .ok (.iload_n 1, 1) := by decide +kernel
theorem d_M_complete_23 : decode c_M_complete 23 = .ok (.invokevirtual 117, 3) := by decide +kernel
theorem d_M_complete_26 : decode c_M_complete 26 = .ok (.ifCond .ne 7, 3) := by decide +kernel
theorem d_M_complete_29 : decode c_M_complete 29 = .ok (.iconst 2, 1) := by decide +kernel
theorem d_M_complete_30 : decode c_M_complete 30 = .ok (.goto 4, 3) := by decide +kernel
theorem d_M_complete_33 : decode c_M_complete 33 = .ok (.iconst 0, 1) := by decide +kernel
theorem d_M_complete_34 : decode c_M_complete 34 = .ok (.invokevirtual 112, 3) := by decide +kernel
theorem d_M_complete_37 : decode c_M_complete 37 = .ok (.ifCond .eq 11, 3) := by decide +kernel
theorem d_M_complete_40 : decode c_M_complete 40 = .ok (.aload_n 0, 1) := by decide +kernel
theorem d_M_complete_41 : decode c_M_complete 41 = .ok (.iconst 3, 1) := by decide +kernel
theorem d_M_complete_42 : decode c_M_complete 42 = .ok (.invokevirtual 115, 3) := by decide +kernel
theorem d_M_complete_45 : decode c_M_complete 45 = .ok (.ifCond .ne 5, 3) := by decide +kernel
theorem d_M_complete_48 : decode c_M_complete 48 = .ok (.iconst 0, 1) := by decide +kernel
theorem d_M_complete_49 : decode c_M_complete 49 = .ok (.ireturn, 1) := by decide +kernel
theorem d_M_complete_50 : decode c_M_complete 50 = .ok (.aload_n 0, 1) := by decide +kernel
theorem d_M_complete_51 : decode c_M_complete 51 = .ok (.dup, 1) := by decide +kernel
theorem d_M_complete_52 : decode c_M_complete 52 = .ok (.getfield 135, 3) := by decide +kernel
theorem d_M_complete_55 : decode c_M_complete 55 = .ok (.iconst 1, 1) := by decide +kernel
theorem d_M_complete_56 : decode c_M_complete 56 = .ok (.iadd, 1) := by decide +kernel
theorem d_M_complete_57 : decode c_M_complete 57 = .ok (.putfield 135, 3) := by decide +kernel
theorem d_M_complete_60 : decode c_M_complete 60 = .ok (.aload_n 0, 1) := by decide +kernel
theorem d_M_complete_61 : decode c_M_complete 61 = .ok (.getfield 135, 3) := by decide +kernel
theorem d_M_complete_64 : decode c_M_complete 64 = .ok (.istore_n 2, 1) := by decide +kernel
theorem d_M_complete_65 : decode c_M_complete 65 = .ok (.aload_n 0, 1) := by decide +kernel
theorem d_M_complete_66 : decode c_M_complete 66 = .ok (.getfield 32, 3) := by decide +kernel
theorem d_M_complete_69 : decode c_M_complete 69 = .ok (.iload_n 2, 1) := by decide +kernel
theorem d_M_complete_70 : decode c_M_complete 70 = .ok (.iconst 1, 1) := by decide +kernel
theorem d_M_complete_71 : decode c_M_complete 71 = .ok (.bastore, 1) := by decide +kernel
theorem d_M_complete_72 : decode c_M_complete 72 = .ok (.aload_n 0, 1) := by decide +kernel
theorem d_M_complete_73 : decode c_M_complete 73 = .ok (.getfield 35, 3) := by decide +kernel
theorem d_M_complete_76 : decode c_M_complete 76 = .ok (.iload_n 2, 1) := by decide +kernel
theorem d_M_complete_77 : decode c_M_complete 77 = .ok (.aload_n 0, 1) := by decide +kernel
theorem d_M_complete_78 : decode c_M_complete 78 = .ok (.getfield 20, 3) := by decide +kernel
theorem d_M_complete_81 : decode c_M_complete 81 = .ok (.iload_n 1, 1) := by decide +kernel
theorem d_M_complete_82 : decode c_M_complete 82 = .ok (.iaload, 1) := by decide +kernel
theorem d_M_complete_83 : decode c_M_complete 83 = .ok (.iastore, 1) := by decide +kernel
theorem d_M_complete_84 : decode c_M_complete 84 = .ok (.aload_n 0, 1) := by decide +kernel
theorem d_M_complete_85 : decode c_M_complete 85 = .ok (.getfield 38, 3) := by decide +kernel
theorem d_M_complete_88 : decode c_M_complete 88 = .ok (.iload_n 2, 1) := by decide +kernel
theorem d_M_complete_89 : decode c_M_complete 89 = .ok (.aload_n 0, 1) := by decide +kernel
theorem d_M_complete_90 : decode c_M_complete 90 = .ok (.getfield 23, 3) := by decide +kernel
theorem d_M_complete_93 : decode c_M_complete 93 = .ok (.iload_n 1, 1) := by decide +kernel
theorem d_M_complete_94 : decode c_M_complete 94 = .ok (.iaload, 1) := by decide +kernel
theorem d_M_complete_95 : decode c_M_complete 95 = .ok (.iastore, 1) := by decide +kernel
theorem d_M_complete_96 : decode c_M_complete 96 = .ok (.aload_n 0, 1) := by decide +kernel
theorem d_M_complete_97 : decode c_M_complete 97 = .ok (.getfield 41, 3) := by decide +kernel
theorem d_M_complete_100 : decode c_M_complete 100 = .ok (.iload_n 2, 1) := by decide +kernel
theorem d_M_complete_101 : decode c_M_complete 101 = .ok (.iconst 0, 1) := by decide +kernel
theorem d_M_complete_102 : decode c_M_complete 102 = .ok (.iastore, 1) := by decide +kernel
theorem d_M_complete_103 : decode c_M_complete 103 = .ok (.bipush 7, 2) := by decide +kernel
theorem d_M_complete_105 : decode c_M_complete 105 = .ok (.iload_n 1, 1) := by decide +kernel
theorem d_M_complete_106 : decode c_M_complete 106 = .ok (.imul, 1) := by decide +kernel
theorem d_M_complete_107 : decode c_M_complete 107 = .ok (.istore_n 3, 1) := by decide +kernel
theorem d_M_complete_108 : decode c_M_complete 108 = .ok (.iload_n 3, 1) := by decide +kernel
theorem d_M_complete_109 : decode c_M_complete 109 = .ok (.bipush 7, 2) := by decide +kernel
theorem d_M_complete_111 : decode c_M_complete 111 = .ok (.iload_n 1, 1) := by decide +kernel
theorem d_M_complete_112 : decode c_M_complete 112 = .ok (.iconst 1, 1) := by decide +kernel
theorem d_M_complete_113 : decode c_M_complete 113 = .ok (.iadd, 1) := by decide +kernel
theorem d_M_complete_114 : decode c_M_complete 114 = .ok (.imul, 1) := by decide +kernel
theorem d_M_complete_115 : decode c_M_complete 115 = .ok (.if_icmp .ge 69, 3) := by decide +kernel
theorem d_M_complete_118 : decode c_M_complete 118 = .ok (.iconst 0, 1) := by decide +kernel
theorem d_M_complete_119 : decode c_M_complete 119 = .ok (.istore 4, 2) := by decide +kernel
theorem d_M_complete_121 : decode c_M_complete 121 = .ok (.iload 4, 2) := by decide +kernel
theorem d_M_complete_123 : decode c_M_complete 123 = .ok (.aload_n 0, 1) := by decide +kernel
theorem d_M_complete_124 : decode c_M_complete 124 = .ok (.getfield 26, 3) := by decide +kernel
theorem d_M_complete_127 : decode c_M_complete 127 = .ok (.iload_n 3, 1) := by decide +kernel
theorem d_M_complete_128 : decode c_M_complete 128 = .ok (.iaload, 1) := by decide +kernel
theorem d_M_complete_129 : decode c_M_complete 129 = .ok (.if_icmp .ge 49, 3) := by decide +kernel
theorem d_M_complete_132 : decode c_M_complete 132 = .ok (.aload_n 0, 1) := by decide +kernel
theorem d_M_complete_133 : decode c_M_complete 133 = .ok (.getfield 44, 3) := by decide +kernel
theorem d_M_complete_136 : decode c_M_complete 136 = .ok (.bipush 18, 2) := by decide +kernel
theorem d_M_complete_138 : decode c_M_complete 138 = .ok (.iload_n 2, 1) := by decide +kernel
theorem d_M_complete_139 : decode c_M_complete 139 = .ok (.imul, 1) := by decide +kernel
theorem d_M_complete_140 : decode c_M_complete 140 = .ok (.bipush 18, 2) := by decide +kernel
theorem d_M_complete_142 : decode c_M_complete 142 = .ok (.isub, 1) := by decide +kernel
theorem d_M_complete_143 : decode c_M_complete 143 = .ok (.aload_n 0, 1) := by decide +kernel
theorem d_M_complete_144 : decode c_M_complete 144 = .ok (.getfield 41, 3) := by decide +kernel
theorem d_M_complete_147 : decode c_M_complete 147 = .ok (.iload_n 2, 1) := by decide +kernel
theorem d_M_complete_148 : decode c_M_complete 148 = .ok (.iaload, 1) := by decide +kernel
theorem d_M_complete_149 : decode c_M_complete 149 = .ok (.iadd, 1) := by decide +kernel
theorem d_M_complete_150 : decode c_M_complete 150 = .ok (.aload_n 0, 1) := by decide +kernel
theorem d_M_complete_151 : decode c_M_complete 151 = .ok (.getfield 29, 3) := by decide +kernel
theorem d_M_complete_154 : decode c_M_complete 154 = .ok (.iconst 3, 1) := by decide +kernel
theorem d_M_complete_155 : decode c_M_complete 155 = .ok (.iload_n 3, 1) := by decide +kernel
theorem d_M_complete_156 : decode c_M_complete 156 = .ok (.imul, 1) := by decide +kernel
theorem d_M_complete_157 : decode c_M_complete 157 = .ok (.iload 4, 2) := by decide +kernel
theorem d_M_complete_159 : decode c_M_complete 159 = .ok (.iadd, 1) := by decide +kernel
theorem d_M_complete_160 : decode c_M_complete 160 = .ok (.iaload, 1) := by decide +kernel
theorem d_M_complete_161 : decode c_M_complete 161 = .ok (.iastore, 1) := by decide +kernel
theorem d_M_complete_162 : decode c_M_complete 162 = .ok (.aload_n 0, 1) := by decide +kernel
theorem d_M_complete_163 : decode c_M_complete 163 = .ok (.getfield 41, 3) := by decide +kernel
theorem d_M_complete_166 : decode c_M_complete 166 = .ok (.iload_n 2, 1) := by decide +kernel
theorem d_M_complete_167 : decode c_M_complete 167 = .ok (.dup2, 1) := by decide +kernel
theorem d_M_complete_168 : decode c_M_complete 168 = .ok (.iaload, 1) := by decide +kernel
theorem d_M_complete_169 : decode c_M_complete 169 = .ok (.iconst 1, 1) := by decide +kernel
theorem d_M_complete_170 : decode c_M_complete 170 = .ok (.iadd, 1) := by decide +kernel
theorem d_M_complete_171 : decode c_M_complete 171 = .ok (.iastore, 1) := by decide +kernel
theorem d_M_complete_172 : decode c_M_complete 172 = .ok (.iinc 4 1, 3) := by decide +kernel
theorem d_M_complete_175 : decode c_M_complete 175 = .ok (.goto (-54), 3) := by decide +kernel
theorem d_M_complete_178 : decode c_M_complete 178 = .ok (.iinc 3 1, 3) := by decide +kernel
theorem d_M_complete_181 : decode c_M_complete 181 = .ok (.goto (-73), 3) := by decide +kernel
theorem d_M_complete_184 : decode c_M_complete 184 = .ok (.aload_n 0, 1) := by decide +kernel
theorem d_M_complete_185 : decode c_M_complete 185 = .ok (.getfield 16, 3) := by decide +kernel
theorem d_M_complete_188 : decode c_M_complete 188 = .ok (.iload_n 1, 1) := by decide +kernel
theorem d_M_complete_189 : decode c_M_complete 189 = .ok (.iconst 0, 1) := by decide +kernel
theorem d_M_complete_190 : decode c_M_complete 190 = .ok (.bastore, 1) := by decide +kernel
theorem d_M_complete_191 : decode c_M_complete 191 = .ok (.iload_n 2, 1) := by decide +kernel
theorem d_M_complete_192 : decode c_M_complete 192 = .ok (.ireturn, 1) := by decide +kernel
abbrev c_M_abort : ByteArray := prog_9_method_23_code
abbrev y_M_abort : MethodName := ⟨"BlobStoreModel", "abort", "(I)V"⟩
theorem i_M_abort : bIs y_M_abort 2 := Or.inl ⟨_, _, t4_2⟩
theorem d_M_abort_0 : decode c_M_abort 0 = .ok (.aload_n 0, 1) := by decide +kernel
theorem d_M_abort_1 : decode c_M_abort 1 = .ok (.aload_n 0, 1) := by decide +kernel
theorem d_M_abort_2 : decode c_M_abort 2 = .ok (.getfield 87, 3) := by decide +kernel
theorem d_M_abort_5 : decode c_M_abort 5 = .ok (.ifCond .eq 7, 3) := by decide +kernel
theorem d_M_abort_8 : decode c_M_abort 8 = .ok (.iconst 1, 1) := by decide +kernel
theorem d_M_abort_9 : decode c_M_abort 9 = .ok (.goto 16, 3) := by decide +kernel
theorem d_M_abort_12 : decode c_M_abort 12 = .ok (.aload_n 0, 1) := by decide +kernel
theorem d_M_abort_13 : decode c_M_abort 13 = .ok (.iload_n 1, 1) := by decide +kernel
theorem d_M_abort_14 : decode c_M_abort 14 = .ok (.invokevirtual 117, 3) := by decide +kernel
theorem d_M_abort_17 : decode c_M_abort 17 = .ok (.ifCond .ne 7, 3) := by decide +kernel
theorem d_M_abort_20 : decode c_M_abort 20 = .ok (.iconst 2, 1) := by decide +kernel
theorem d_M_abort_21 : decode c_M_abort 21 = .ok (.goto 4, 3) := by decide +kernel
theorem d_M_abort_24 : decode c_M_abort 24 = .ok (.iconst 0, 1) := by decide +kernel
theorem d_M_abort_25 : decode c_M_abort 25 = .ok (.invokevirtual 112, 3) := by decide +kernel
theorem d_M_abort_28 : decode c_M_abort 28 = .ok (.ifCond .eq 18, 3) := by decide +kernel
theorem d_M_abort_31 : decode c_M_abort 31 = .ok (.aload_n 0, 1) := by decide +kernel
theorem d_M_abort_32 : decode c_M_abort 32 = .ok (.iconst 3, 1) := by decide +kernel
theorem d_M_abort_33 : decode c_M_abort 33 = .ok (.invokevirtual 115, 3) := by decide +kernel
theorem d_M_abort_36 : decode c_M_abort 36 = .ok (.ifCond .eq 10, 3) := by decide +kernel
theorem d_M_abort_39 : decode c_M_abort 39 = .ok (.aload_n 0, 1) := by decide +kernel
theorem d_M_abort_40 : decode c_M_abort 40 = .ok (.getfield 16, 3) := by decide +kernel
theorem d_M_abort_43 : decode c_M_abort 43 = .ok (.iload_n 1, 1) := by decide +kernel
theorem d_M_abort_44 : decode c_M_abort 44 = .ok (.iconst 0, 1) := by decide +kernel
theorem d_M_abort_45 : decode c_M_abort 45 = .ok (.bastore, 1) := by decide +kernel
theorem d_M_abort_46 : decode c_M_abort 46 = .ok (.return_, 1) := by decide +kernel
abbrev c_M_isLiving : ByteArray := prog_9_method_24_code
abbrev y_M_isLiving : MethodName := ⟨"BlobStoreModel", "isLiving", "(I)Z"⟩
theorem i_M_isLiving : bIs y_M_isLiving 2 := Or.inl ⟨_, _, t4_10⟩
theorem d_M_isLiving_0 : decode c_M_isLiving 0 = .ok (.iload_n 1, 1) := by decide +kernel
theorem d_M_isLiving_1 : decode c_M_isLiving 1 = .ok (.iconst 1, 1) := by decide +kernel
theorem d_M_isLiving_2 : decode c_M_isLiving 2 = .ok (.aload_n 0, 1) := by decide +kernel
theorem d_M_isLiving_3 : decode c_M_isLiving 3 = .ok (.getfield 135, 3) := by decide +kernel
theorem d_M_isLiving_6 : decode c_M_isLiving 6 = .ok (.invokestatic 109, 3) := by decide +kernel
theorem d_M_isLiving_9 : decode c_M_isLiving 9 = .ok (.ifCond .eq 16, 3) := by decide +kernel
theorem d_M_isLiving_12 : decode c_M_isLiving 12 = .ok (.aload_n 0, 1) := by decide +kernel
theorem d_M_isLiving_13 : decode c_M_isLiving 13 = .ok (.getfield 32, 3) := by decide +kernel
theorem d_M_isLiving_16 : decode c_M_isLiving 16 = .ok (.iload_n 1, 1) := by decide +kernel
theorem d_M_isLiving_17 : decode c_M_isLiving 17 = .ok (.baload, 1) := by decide +kernel
theorem d_M_isLiving_18 : decode c_M_isLiving 18 = .ok (.ifCond .eq 7, 3) := by decide +kernel
theorem d_M_isLiving_21 : decode c_M_isLiving 21 = .ok (.iconst 1, 1) := by decide +kernel
theorem d_M_isLiving_22 : decode c_M_isLiving 22 = .ok (.goto 4, 3) := by decide +kernel
theorem d_M_isLiving_25 : decode c_M_isLiving 25 = .ok (.iconst 0, 1) := by decide +kernel
theorem d_M_isLiving_26 : decode c_M_isLiving 26 = .ok (.ireturn, 1) := by decide +kernel
abbrev c_M_delete : ByteArray := prog_9_method_25_code
abbrev y_M_delete : MethodName := ⟨"BlobStoreModel", "delete", "(I)Z"⟩
theorem i_M_delete : bIs y_M_delete 2 := Or.inl ⟨_, _, t4_6⟩
theorem d_M_delete_0 : decode c_M_delete 0 = .ok (.aload_n 0, 1) := by decide +kernel
theorem d_M_delete_1 : decode c_M_delete 1 = .ok (.aload_n 0, 1) := by decide +kernel
theorem d_M_delete_2 : decode c_M_delete 2 = .ok (.getfield 87, 3) := by decide +kernel
theorem d_M_delete_5 : decode c_M_delete 5 = .ok (.ifCond .eq 7, 3) := by decide +kernel
theorem d_M_delete_8 : decode c_M_delete 8 = .ok (.iconst 1, 1) := by decide +kernel
theorem d_M_delete_9 : decode c_M_delete 9 = .ok (.goto 4, 3) := by decide +kernel
theorem d_M_delete_12 : decode c_M_delete 12 = .ok (.iconst 0, 1) := by decide +kernel
theorem d_M_delete_13 : decode c_M_delete 13 = .ok (.invokevirtual 112, 3) := by decide +kernel
theorem d_M_delete_16 : decode c_M_delete 16 = .ok (.ifCond .eq 19, 3) := by decide +kernel
theorem d_M_delete_19 : decode c_M_delete 19 = .ok (.aload_n 0, 1) := by decide +kernel
theorem d_M_delete_20 : decode c_M_delete 20 = .ok (.iload_n 1, 1) := by decide +kernel
theorem d_M_delete_21 : decode c_M_delete 21 = .ok (.invokevirtual 138, 3) := by decide +kernel
theorem d_M_delete_24 : decode c_M_delete 24 = .ok (.ifCond .eq 11, 3) := by decide +kernel
theorem d_M_delete_27 : decode c_M_delete 27 = .ok (.aload_n 0, 1) := by decide +kernel
theorem d_M_delete_28 : decode c_M_delete 28 = .ok (.iconst 2, 1) := by decide +kernel
theorem d_M_delete_29 : decode c_M_delete 29 = .ok (.invokevirtual 115, 3) := by decide +kernel
theorem d_M_delete_32 : decode c_M_delete 32 = .ok (.ifCond .ne 5, 3) := by decide +kernel
theorem d_M_delete_35 : decode c_M_delete 35 = .ok (.iconst 0, 1) := by decide +kernel
theorem d_M_delete_36 : decode c_M_delete 36 = .ok (.ireturn, 1) := by decide +kernel
theorem d_M_delete_37 : decode c_M_delete 37 = .ok (.aload_n 0, 1) := by decide +kernel
theorem d_M_delete_38 : decode c_M_delete 38 = .ok (.getfield 32, 3) := by decide +kernel
theorem d_M_delete_41 : decode c_M_delete 41 = .ok (.iload_n 1, 1) := by decide +kernel
theorem d_M_delete_42 : decode c_M_delete 42 = .ok (.iconst 0, 1) := by decide +kernel
theorem d_M_delete_43 : decode c_M_delete 43 = .ok (.bastore, 1) := by decide +kernel
theorem d_M_delete_44 : decode c_M_delete 44 = .ok (.iconst 1, 1) := by decide +kernel
theorem d_M_delete_45 : decode c_M_delete 45 = .ok (.ireturn, 1) := by decide +kernel
abbrev c_M_slotAt : ByteArray := prog_9_method_26_code
abbrev y_M_slotAt : MethodName := ⟨"BlobStoreModel", "slotAt", "(II)I"⟩
theorem i_M_slotAt : bIs y_M_slotAt 3 := Or.inl ⟨_, _, t4_22⟩
theorem d_M_slotAt_0 : decode c_M_slotAt 0 = .ok (.aload_n 0, 1) := by decide +kernel
theorem d_M_slotAt_1 : decode c_M_slotAt 1 = .ok (.getfield 44, 3) := by decide +kernel
theorem d_M_slotAt_4 : decode c_M_slotAt 4 = .ok (.bipush 18, 2) := by decide +kernel
theorem d_M_slotAt_6 : decode c_M_slotAt 6 = .ok (.iload_n 1, 1) := by decide +kernel
theorem d_M_slotAt_7 : decode c_M_slotAt 7 = .ok (.iconst 1, 1) := by decide +kernel
theorem d_M_slotAt_8 : decode c_M_slotAt 8 = .ok (.isub, 1) := by decide +kernel
theorem d_M_slotAt_9 : decode c_M_slotAt 9 = .ok (.imul, 1) := by decide +kernel
theorem d_M_slotAt_10 : decode c_M_slotAt 10 = .ok (.iload_n 2, 1) := by decide +kernel
theorem d_M_slotAt_11 : decode c_M_slotAt 11 = .ok (.iadd, 1) := by decide +kernel
theorem d_M_slotAt_12 : decode c_M_slotAt 12 = .ok (.iaload, 1) := by decide +kernel
theorem d_M_slotAt_13 : decode c_M_slotAt 13 = .ok (.ireturn, 1) := by decide +kernel
abbrev c_M_need : ByteArray := prog_9_method_27_code
abbrev y_M_need : MethodName := ⟨"BlobStoreModel", "need", "(I)I"⟩
theorem i_M_need : bIs y_M_need 5 := Or.inl ⟨_, _, t4_18⟩
theorem d_M_need_0 : decode c_M_need 0 = .ok (.iconst 0, 1) := by decide +kernel
theorem d_M_need_1 : decode c_M_need 1 = .ok (.istore_n 2, 1) := by decide +kernel
theorem d_M_need_2 : decode c_M_need 2 = .ok (.iconst 0, 1) := by decide +kernel
theorem d_M_need_3 : decode c_M_need 3 = .ok (.istore_n 3, 1) := by decide +kernel
theorem d_M_need_4 : decode c_M_need 4 = .ok (.iload_n 3, 1) := by decide +kernel
theorem d_M_need_5 : decode c_M_need 5 = .ok (.bipush 35, 2) := by decide +kernel
theorem d_M_need_7 : decode c_M_need 7 = .ok (.if_icmp .ge 64, 3) := by decide +kernel
theorem d_M_need_10 : decode c_M_need 10 = .ok (.iconst 0, 1) := by decide +kernel
theorem d_M_need_11 : decode c_M_need 11 = .ok (.istore 4, 2) := by decide +kernel
theorem d_M_need_13 : decode c_M_need 13 = .ok (.aload_n 0, 1) := by decide +kernel
theorem d_M_need_14 : decode c_M_need 14 = .ok (.getfield 16, 3) := by decide +kernel
theorem d_M_need_17 : decode c_M_need 17 = .ok (.iload_n 3, 1) := by decide +kernel
theorem d_M_need_18 : decode c_M_need 18 = .ok (.bipush 7, 2) := by decide +kernel
theorem d_M_need_20 : decode c_M_need 20 = .ok (.idiv, 1) := by decide +kernel
theorem d_M_need_21 : decode c_M_need 21 = .ok (.baload, 1) := by decide +kernel
theorem d_M_need_22 : decode c_M_need 22 = .ok (.ifCond .eq 43, 3) := by decide +kernel
theorem d_M_need_25 : decode c_M_need 25 = .ok (.iload 4, 2) := by decide +kernel
theorem d_M_need_27 : decode c_M_need 27 = .ok (.aload_n 0, 1) := by decide +kernel
theorem d_M_need_28 : decode c_M_need 28 = .ok (.getfield 26, 3) := by decide +kernel
theorem d_M_need_31 : decode c_M_need 31 = .ok (.iload_n 3, 1) := by decide +kernel
theorem d_M_need_32 : decode c_M_need 32 = .ok (.iaload, 1) := by decide +kernel
theorem d_M_need_33 : decode c_M_need 33 = .ok (.if_icmp .ge 32, 3) := by decide +kernel
theorem d_M_need_36 : decode c_M_need 36 = .ok (.iload_n 2, 1) := by decide +kernel
theorem d_M_need_37 : decode c_M_need 37 = .ok (.aload_n 0, 1) := by decide +kernel
theorem d_M_need_38 : decode c_M_need 38 = .ok (.getfield 29, 3) := by decide +kernel
theorem d_M_need_41 : decode c_M_need 41 = .ok (.iconst 3, 1) := by decide +kernel
theorem d_M_need_42 : decode c_M_need 42 = .ok (.iload_n 3, 1) := by decide +kernel
theorem d_M_need_43 : decode c_M_need 43 = .ok (.imul, 1) := by decide +kernel
theorem d_M_need_44 : decode c_M_need 44 = .ok (.iload 4, 2) := by decide +kernel
theorem d_M_need_46 : decode c_M_need 46 = .ok (.iadd, 1) := by decide +kernel
theorem d_M_need_47 : decode c_M_need 47 = .ok (.iaload, 1) := by decide +kernel
theorem d_M_need_48 : decode c_M_need 48 = .ok (.iload_n 1, 1) := by decide +kernel
theorem d_M_need_49 : decode c_M_need 49 = .ok (.if_icmp .ne 7, 3) := by decide +kernel
theorem d_M_need_52 : decode c_M_need 52 = .ok (.iconst 1, 1) := by decide +kernel
theorem d_M_need_53 : decode c_M_need 53 = .ok (.goto 4, 3) := by decide +kernel
theorem d_M_need_56 : decode c_M_need 56 = .ok (.iconst 0, 1) := by decide +kernel
theorem d_M_need_57 : decode c_M_need 57 = .ok (.iadd, 1) := by decide +kernel
theorem d_M_need_58 : decode c_M_need 58 = .ok (.istore_n 2, 1) := by decide +kernel
theorem d_M_need_59 : decode c_M_need 59 = .ok (.iinc 4 1, 3) := by decide +kernel
theorem d_M_need_62 : decode c_M_need 62 = .ok (.goto (-49), 3) := by decide +kernel
theorem d_M_need_65 : decode c_M_need 65 = .ok (.iinc 3 1, 3) := by decide +kernel
theorem d_M_need_68 : decode c_M_need 68 = .ok (.goto (-64), 3) := by decide +kernel
theorem d_M_need_71 : decode c_M_need 71 = .ok (.iconst 1, 1) := by decide +kernel
theorem d_M_need_72 : decode c_M_need 72 = .ok (.istore_n 3, 1) := by decide +kernel
theorem d_M_need_73 : decode c_M_need 73 = .ok (.iload_n 3, 1) := by decide +kernel
theorem d_M_need_74 : decode c_M_need 74 = .ok (.aload_n 0, 1) := by decide +kernel
theorem d_M_need_75 : decode c_M_need 75 = .ok (.getfield 135, 3) := by decide +kernel
theorem d_M_need_78 : decode c_M_need 78 = .ok (.if_icmp .gt 57, 3) := by decide +kernel
theorem d_M_need_81 : decode c_M_need 81 = .ok (.iconst 0, 1) := by decide +kernel
theorem d_M_need_82 : decode c_M_need 82 = .ok (.istore 4, 2) := by decide +kernel
theorem d_M_need_84 : decode c_M_need 84 = .ok (.aload_n 0, 1) := by decide +kernel
theorem d_M_need_85 : decode c_M_need 85 = .ok (.getfield 32, 3) := by decide +kernel
theorem d_M_need_88 : decode c_M_need 88 = .ok (.iload_n 3, 1) := by decide +kernel
theorem d_M_need_89 : decode c_M_need 89 = .ok (.baload, 1) := by decide +kernel
theorem d_M_need_90 : decode c_M_need 90 = .ok (.ifCond .eq 39, 3) := by decide +kernel
theorem d_M_need_93 : decode c_M_need 93 = .ok (.iload 4, 2) := by decide +kernel
theorem d_M_need_95 : decode c_M_need 95 = .ok (.aload_n 0, 1) := by decide +kernel
theorem d_M_need_96 : decode c_M_need 96 = .ok (.getfield 41, 3) := by decide +kernel
theorem d_M_need_99 : decode c_M_need 99 = .ok (.iload_n 3, 1) := by decide +kernel
theorem d_M_need_100 : decode c_M_need 100 = .ok (.iaload, 1) := by decide +kernel
theorem d_M_need_101 : decode c_M_need 101 = .ok (.if_icmp .ge 28, 3) := by decide +kernel
theorem d_M_need_104 : decode c_M_need 104 = .ok (.iload_n 2, 1) := by decide +kernel
theorem d_M_need_105 : decode c_M_need 105 = .ok (.aload_n 0, 1) := by decide +kernel
theorem d_M_need_106 : decode c_M_need 106 = .ok (.iload_n 3, 1) := by decide +kernel
theorem d_M_need_107 : decode c_M_need 107 = .ok (.iload 4, 2) := by decide +kernel
theorem d_M_need_109 : decode c_M_need 109 = .ok (.invokevirtual 141, 3) := by decide +kernel
theorem d_M_need_112 : decode c_M_need 112 = .ok (.iload_n 1, 1) := by decide +kernel
theorem d_M_need_113 : decode c_M_need 113 = .ok (.if_icmp .ne 7, 3) := by decide +kernel
theorem d_M_need_116 : decode c_M_need 116 = .ok (.iconst 1, 1) := by decide +kernel
theorem d_M_need_117 : decode c_M_need 117 = .ok (.goto 4, 3) := by decide +kernel
theorem d_M_need_120 : decode c_M_need 120 = .ok (.iconst 0, 1) := by decide +kernel
theorem d_M_need_121 : decode c_M_need 121 = .ok (.iadd, 1) := by decide +kernel
theorem d_M_need_122 : decode c_M_need 122 = .ok (.istore_n 2, 1) := by decide +kernel
theorem d_M_need_123 : decode c_M_need 123 = .ok (.iinc 4 1, 3) := by decide +kernel
theorem d_M_need_126 : decode c_M_need 126 = .ok (.goto (-42), 3) := by decide +kernel
theorem d_M_need_129 : decode c_M_need 129 = .ok (.iinc 3 1, 3) := by decide +kernel
theorem d_M_need_132 : decode c_M_need 132 = .ok (.goto (-59), 3) := by decide +kernel
theorem d_M_need_135 : decode c_M_need 135 = .ok (.iload_n 2, 1) := by decide +kernel
theorem d_M_need_136 : decode c_M_need 136 = .ok (.ireturn, 1) := by decide +kernel
abbrev c_M_collect : ByteArray := prog_9_method_28_code
abbrev y_M_collect : MethodName := ⟨"BlobStoreModel", "collect", "()I"⟩
theorem i_M_collect : bIs y_M_collect 3 := Or.inl ⟨_, _, t4_14⟩
theorem d_M_collect_0 : decode c_M_collect 0 = .ok (.aload_n 0, 1) := by decide +kernel
theorem d_M_collect_1 : decode c_M_collect 1 = .ok (.aload_n 0, 1) := by decide +kernel
theorem d_M_collect_2 : decode c_M_collect 2 = .ok (.getfield 87, 3) := by decide +kernel
theorem d_M_collect_5 : decode c_M_collect 5 = .ok (.ifCond .eq 7, 3) := by decide +kernel
theorem d_M_collect_8 : decode c_M_collect 8 = .ok (.iconst 1, 1) := by decide +kernel
theorem d_M_collect_9 : decode c_M_collect 9 = .ok (.goto 4, 3) := by decide +kernel
theorem d_M_collect_12 : decode c_M_collect 12 = .ok (.iconst 0, 1) := by decide +kernel
theorem d_M_collect_13 : decode c_M_collect 13 = .ok (.invokevirtual 112, 3) := by decide +kernel
theorem d_M_collect_16 : decode c_M_collect 16 = .ok (.ifCond .ne 5, 3) := by decide +kernel
theorem d_M_collect_19 : decode c_M_collect 19 = .ok (.iconst 0, 1) := by decide +kernel
theorem d_M_collect_20 : decode c_M_collect 20 = .ok (.ireturn, 1) := by decide +kernel
theorem d_M_collect_21 : decode c_M_collect 21 = .ok (.iconst 0, 1) := by decide +kernel
theorem d_M_collect_22 : decode c_M_collect 22 = .ok (.istore_n 1, 1) := by decide +kernel
theorem d_M_collect_23 : decode c_M_collect 23 = .ok (.iconst 0, 1) := by decide +kernel
theorem d_M_collect_24 : decode c_M_collect 24 = .ok (.istore_n 2, 1) := by decide +kernel
theorem d_M_collect_25 : decode c_M_collect 25 = .ok (.iload_n 2, 1) := by decide +kernel
theorem d_M_collect_26 : decode c_M_collect 26 = .ok (.bipush 48, 2) := by decide +kernel
theorem d_M_collect_28 : decode c_M_collect 28 = .ok (.if_icmp .ge 49, 3) := by decide +kernel
theorem d_M_collect_31 : decode c_M_collect 31 = .ok (.aload_n 0, 1) := by decide +kernel
theorem d_M_collect_32 : decode c_M_collect 32 = .ok (.getfield 7, 3) := by decide +kernel
theorem d_M_collect_35 : decode c_M_collect 35 = .ok (.iload_n 2, 1) := by decide +kernel
theorem d_M_collect_36 : decode c_M_collect 36 = .ok (.iaload, 1) := by decide +kernel
theorem d_M_collect_37 : decode c_M_collect 37 = .ok (.ifCond .eq 34, 3) := by decide +kernel
theorem d_M_collect_40 : decode c_M_collect 40 = .ok (.aload_n 0, 1) := by decide +kernel
theorem d_M_collect_41 : decode c_M_collect 41 = .ok (.iload_n 2, 1) := by decide +kernel
theorem d_M_collect_42 : decode c_M_collect 42 = .ok (.invokevirtual 144, 3) := by decide +kernel
theorem d_M_collect_45 : decode c_M_collect 45 = .ok (.ifCond .le 6, 3) := by decide +kernel
theorem d_M_collect_48 : decode c_M_collect 48 = .ok (.goto 23, 3) := by decide +kernel
theorem d_M_collect_51 : decode c_M_collect 51 = .ok (.aload_n 0, 1) := by decide +kernel
theorem d_M_collect_52 : decode c_M_collect 52 = .ok (.iconst 2, 1) := by decide +kernel
theorem d_M_collect_53 : decode c_M_collect 53 = .ok (.invokevirtual 115, 3) := by decide +kernel
theorem d_M_collect_56 : decode c_M_collect 56 = .ok (.ifCond .ne 5, 3) := by decide +kernel
theorem d_M_collect_59 : decode c_M_collect 59 = .ok (.iconst 0, 1) := by decide +kernel
theorem d_M_collect_60 : decode c_M_collect 60 = .ok (.ireturn, 1) := by decide +kernel
theorem d_M_collect_61 : decode c_M_collect 61 = .ok (.aload_n 0, 1) := by decide +kernel
theorem d_M_collect_62 : decode c_M_collect 62 = .ok (.getfield 7, 3) := by decide +kernel
theorem d_M_collect_65 : decode c_M_collect 65 = .ok (.iload_n 2, 1) := by decide +kernel
theorem d_M_collect_66 : decode c_M_collect 66 = .ok (.iconst 0, 1) := by decide +kernel
theorem d_M_collect_67 : decode c_M_collect 67 = .ok (.iastore, 1) := by decide +kernel
theorem d_M_collect_68 : decode c_M_collect 68 = .ok (.iinc 1 1, 3) := by decide +kernel
theorem d_M_collect_71 : decode c_M_collect 71 = .ok (.iinc 2 1, 3) := by decide +kernel
theorem d_M_collect_74 : decode c_M_collect 74 = .ok (.goto (-49), 3) := by decide +kernel
theorem d_M_collect_77 : decode c_M_collect 77 = .ok (.iload_n 1, 1) := by decide +kernel
theorem d_M_collect_78 : decode c_M_collect 78 = .ok (.ireturn, 1) := by decide +kernel
abbrev c_M_cutAfter : ByteArray := prog_9_method_29_code
abbrev y_M_cutAfter : MethodName := ⟨"BlobStoreModel", "cutAfter", "(I)V"⟩
theorem i_M_cutAfter : bIs y_M_cutAfter 2 := Or.inl ⟨_, _, t4_26⟩
theorem d_M_cutAfter_0 : decode c_M_cutAfter 0 = .ok (.aload_n 0, 1) := by decide +kernel
theorem d_M_cutAfter_1 : decode c_M_cutAfter 1 = .ok (.iload_n 1, 1) := by decide +kernel
theorem d_M_cutAfter_2 : decode c_M_cutAfter 2 = .ok (.iconst 0, 1) := by decide +kernel
theorem d_M_cutAfter_3 : decode c_M_cutAfter 3 = .ok (.sipush 1000, 3) := by decide +kernel
theorem d_M_cutAfter_6 : decode c_M_cutAfter 6 = .ok (.invokestatic 109, 3) := by decide +kernel
theorem d_M_cutAfter_9 : decode c_M_cutAfter 9 = .ok (.ifCond .eq 7, 3) := by decide +kernel
theorem d_M_cutAfter_12 : decode c_M_cutAfter 12 = .ok (.iconst 0, 1) := by decide +kernel
theorem d_M_cutAfter_13 : decode c_M_cutAfter 13 = .ok (.goto 4, 3) := by decide +kernel
theorem d_M_cutAfter_16 : decode c_M_cutAfter 16 = .ok (.iconst 1, 1) := by decide +kernel
theorem d_M_cutAfter_17 : decode c_M_cutAfter 17 = .ok (.invokevirtual 112, 3) := by decide +kernel
theorem d_M_cutAfter_20 : decode c_M_cutAfter 20 = .ok (.ifCond .eq 8, 3) := by decide +kernel
theorem d_M_cutAfter_23 : decode c_M_cutAfter 23 = .ok (.aload_n 0, 1) := by decide +kernel
theorem d_M_cutAfter_24 : decode c_M_cutAfter 24 = .ok (.iload_n 1, 1) := by decide +kernel
theorem d_M_cutAfter_25 : decode c_M_cutAfter 25 = .ok (.putfield 47, 3) := by decide +kernel
theorem d_M_cutAfter_28 : decode c_M_cutAfter 28 = .ok (.return_, 1) := by decide +kernel
abbrev c_M_recover : ByteArray := prog_9_method_30_code
abbrev y_M_recover : MethodName := ⟨"BlobStoreModel", "recover", "()Z"⟩
theorem i_M_recover : bIs y_M_recover 2 := Or.inl ⟨_, _, t4_30⟩
theorem d_M_recover_0 : decode c_M_recover 0 = .ok (.aload_n 0, 1) := by decide +kernel
theorem d_M_recover_1 : decode c_M_recover 1 = .ok (.iconst 0, 1) := by decide +kernel
theorem d_M_recover_2 : decode c_M_recover 2 = .ok (.putfield 75, 3) := by decide +kernel
theorem d_M_recover_5 : decode c_M_recover 5 = .ok (.aload_n 0, 1) := by decide +kernel
theorem d_M_recover_6 : decode c_M_recover 6 = .ok (.getfield 87, 3) := by decide +kernel
theorem d_M_recover_9 : decode c_M_recover 9 = .ok (.istore_n 1, 1) := by decide +kernel
theorem d_M_recover_10 : decode c_M_recover 10 = .ok (.aload_n 0, 1) := by decide +kernel
theorem d_M_recover_11 : decode c_M_recover 11 = .ok (.getfield 87, 3) := by decide +kernel
theorem d_M_recover_14 : decode c_M_recover 14 = .ok (.ifCond .eq 8, 3) := by decide +kernel
theorem d_M_recover_17 : decode c_M_recover 17 = .ok (.aload_n 0, 1) := by decide +kernel
theorem d_M_recover_18 : decode c_M_recover 18 = .ok (.iconst (-1), 1) := by decide +kernel
theorem d_M_recover_19 : decode c_M_recover 19 = .ok (.putfield 47, 3) := by decide +kernel
theorem d_M_recover_22 : decode c_M_recover 22 = .ok (.aload_n 0, 1) := by decide +kernel
theorem d_M_recover_23 : decode c_M_recover 23 = .ok (.iconst 0, 1) := by decide +kernel
theorem d_M_recover_24 : decode c_M_recover 24 = .ok (.putfield 87, 3) := by decide +kernel
theorem d_M_recover_27 : decode c_M_recover 27 = .ok (.iload_n 1, 1) := by decide +kernel
theorem d_M_recover_28 : decode c_M_recover 28 = .ok (.ireturn, 1) := by decide +kernel
abbrev c_M_latest : ByteArray := prog_9_method_31_code
abbrev y_M_latest : MethodName := ⟨"BlobStoreModel", "latest", "(II)I"⟩
theorem i_M_latest : bIs y_M_latest 4 := Or.inl ⟨_, _, t4_34⟩
theorem d_M_latest_0 : decode c_M_latest 0 = .ok (.aload_n 0, 1) := by decide +kernel
theorem d_M_latest_1 : decode c_M_latest 1 = .ok (.iconst 0, 1) := by decide +kernel
theorem d_M_latest_2 : decode c_M_latest 2 = .ok (.putfield 75, 3) := by decide +kernel
theorem d_M_latest_5 : decode c_M_latest 5 = .ok (.aload_n 0, 1) := by decide +kernel
theorem d_M_latest_6 : decode c_M_latest 6 = .ok (.getfield 135, 3) := by decide +kernel
theorem d_M_latest_9 : decode c_M_latest 9 = .ok (.istore_n 3, 1) := by decide +kernel
theorem d_M_latest_10 : decode c_M_latest 10 = .ok (.iload_n 3, 1) := by decide +kernel
theorem d_M_latest_11 : decode c_M_latest 11 = .ok (.ifCond .le 40, 3) := by decide +kernel
theorem d_M_latest_14 : decode c_M_latest 14 = .ok (.aload_n 0, 1) := by decide +kernel
theorem d_M_latest_15 : decode c_M_latest 15 = .ok (.getfield 32, 3) := by decide +kernel
theorem d_M_latest_18 : decode c_M_latest 18 = .ok (.iload_n 3, 1) := by decide +kernel
theorem d_M_latest_19 : decode c_M_latest 19 = .ok (.baload, 1) := by decide +kernel
theorem d_M_latest_20 : decode c_M_latest 20 = .ok (.ifCond .eq 25, 3) := by decide +kernel
theorem d_M_latest_23 : decode c_M_latest 23 = .ok (.aload_n 0, 1) := by decide +kernel
theorem d_M_latest_24 : decode c_M_latest 24 = .ok (.getfield 35, 3) := by decide +kernel
theorem d_M_latest_27 : decode c_M_latest 27 = .ok (.iload_n 3, 1) := by decide +kernel
theorem d_M_latest_28 : decode c_M_latest 28 = .ok (.iaload, 1) := by decide +kernel
theorem d_M_latest_29 : decode c_M_latest 29 = .ok (.iload_n 1, 1) := by decide +kernel
theorem d_M_latest_30 : decode c_M_latest 30 = .ok (.if_icmp .ne 15, 3) := by decide +kernel
theorem d_M_latest_33 : decode c_M_latest 33 = .ok (.aload_n 0, 1) := by decide +kernel
theorem d_M_latest_34 : decode c_M_latest 34 = .ok (.getfield 38, 3) := by decide +kernel
theorem d_M_latest_37 : decode c_M_latest 37 = .ok (.iload_n 3, 1) := by decide +kernel
theorem d_M_latest_38 : decode c_M_latest 38 = .ok (.iaload, 1) := by decide +kernel
theorem d_M_latest_39 : decode c_M_latest 39 = .ok (.iload_n 2, 1) := by decide +kernel
theorem d_M_latest_40 : decode c_M_latest 40 = .ok (.if_icmp .ne 5, 3) := by decide +kernel
theorem d_M_latest_43 : decode c_M_latest 43 = .ok (.iload_n 3, 1) := by decide +kernel
theorem d_M_latest_44 : decode c_M_latest 44 = .ok (.ireturn, 1) := by decide +kernel
theorem d_M_latest_45 : decode c_M_latest 45 = .ok (.iinc 3 (-1), 3) := by decide +kernel
theorem d_M_latest_48 : decode c_M_latest 48 = .ok (.goto (-38), 3) := by decide +kernel
theorem d_M_latest_51 : decode c_M_latest 51 = .ok (.iconst 0, 1) := by decide +kernel
theorem d_M_latest_52 : decode c_M_latest 52 = .ok (.ireturn, 1) := by decide +kernel
abbrev c_M_size : ByteArray := prog_9_method_32_code
abbrev y_M_size : MethodName := ⟨"BlobStoreModel", "size", "(I)I"⟩
theorem i_M_size : bIs y_M_size 4 := Or.inl ⟨_, _, t4_38⟩
theorem d_M_size_0 : decode c_M_size 0 = .ok (.aload_n 0, 1) := by decide +kernel
theorem d_M_size_1 : decode c_M_size 1 = .ok (.iconst 0, 1) := by decide +kernel
theorem d_M_size_2 : decode c_M_size 2 = .ok (.putfield 75, 3) := by decide +kernel
theorem d_M_size_5 : decode c_M_size 5 = .ok (.aload_n 0, 1) := by decide +kernel
theorem d_M_size_6 : decode c_M_size 6 = .ok (.iload_n 1, 1) := by decide +kernel
theorem d_M_size_7 : decode c_M_size 7 = .ok (.invokevirtual 138, 3) := by decide +kernel
theorem d_M_size_10 : decode c_M_size 10 = .ok (.ifCond .ne 5, 3) := by decide +kernel
theorem d_M_size_13 : decode c_M_size 13 = .ok (.iconst (-1), 1) := by decide +kernel
theorem d_M_size_14 : decode c_M_size 14 = .ok (.ireturn, 1) := by decide +kernel
theorem d_M_size_15 : decode c_M_size 15 = .ok (.iconst 0, 1) := by decide +kernel
theorem d_M_size_16 : decode c_M_size 16 = .ok (.istore_n 2, 1) := by decide +kernel
theorem d_M_size_17 : decode c_M_size 17 = .ok (.iconst 0, 1) := by decide +kernel
theorem d_M_size_18 : decode c_M_size 18 = .ok (.istore_n 3, 1) := by decide +kernel
theorem d_M_size_19 : decode c_M_size 19 = .ok (.iload_n 3, 1) := by decide +kernel
theorem d_M_size_20 : decode c_M_size 20 = .ok (.aload_n 0, 1) := by decide +kernel
theorem d_M_size_21 : decode c_M_size 21 = .ok (.getfield 41, 3) := by decide +kernel
theorem d_M_size_24 : decode c_M_size 24 = .ok (.iload_n 1, 1) := by decide +kernel
theorem d_M_size_25 : decode c_M_size 25 = .ok (.iaload, 1) := by decide +kernel
theorem d_M_size_26 : decode c_M_size 26 = .ok (.if_icmp .ge 23, 3) := by decide +kernel
theorem d_M_size_29 : decode c_M_size 29 = .ok (.iload_n 2, 1) := by decide +kernel
theorem d_M_size_30 : decode c_M_size 30 = .ok (.aload_n 0, 1) := by decide +kernel
theorem d_M_size_31 : decode c_M_size 31 = .ok (.getfield 7, 3) := by decide +kernel
theorem d_M_size_34 : decode c_M_size 34 = .ok (.aload_n 0, 1) := by decide +kernel
theorem d_M_size_35 : decode c_M_size 35 = .ok (.iload_n 1, 1) := by decide +kernel
theorem d_M_size_36 : decode c_M_size 36 = .ok (.iload_n 3, 1) := by decide +kernel
theorem d_M_size_37 : decode c_M_size 37 = .ok (.invokevirtual 141, 3) := by decide +kernel
theorem d_M_size_40 : decode c_M_size 40 = .ok (.iaload, 1) := by decide +kernel
theorem d_M_size_41 : decode c_M_size 41 = .ok (.iadd, 1) := by decide +kernel
theorem d_M_size_42 : decode c_M_size 42 = .ok (.istore_n 2, 1) := by decide +kernel
theorem d_M_size_43 : decode c_M_size 43 = .ok (.iinc 3 1, 3) := by decide +kernel
theorem d_M_size_46 : decode c_M_size 46 = .ok (.goto (-27), 3) := by decide +kernel
theorem d_M_size_49 : decode c_M_size 49 = .ok (.iload_n 2, 1) := by decide +kernel
theorem d_M_size_50 : decode c_M_size 50 = .ok (.ireturn, 1) := by decide +kernel
abbrev c_M_byteAt : ByteArray := prog_9_method_33_code
abbrev y_M_byteAt : MethodName := ⟨"BlobStoreModel", "byteAt", "(II)I"⟩
theorem i_M_byteAt : bIs y_M_byteAt 6 := Or.inl ⟨_, _, t4_42⟩
theorem d_M_byteAt_0 : decode c_M_byteAt 0 = .ok (.aload_n 0, 1) := by decide +kernel
theorem d_M_byteAt_1 : decode c_M_byteAt 1 = .ok (.iconst 0, 1) := by decide +kernel
theorem d_M_byteAt_2 : decode c_M_byteAt 2 = .ok (.putfield 75, 3) := by decide +kernel
theorem d_M_byteAt_5 : decode c_M_byteAt 5 = .ok (.aload_n 0, 1) := by decide +kernel
theorem d_M_byteAt_6 : decode c_M_byteAt 6 = .ok (.iload_n 1, 1) := by decide +kernel
theorem d_M_byteAt_7 : decode c_M_byteAt 7 = .ok (.invokevirtual 138, 3) := by decide +kernel
theorem d_M_byteAt_10 : decode c_M_byteAt 10 = .ok (.ifCond .eq 7, 3) := by decide +kernel
theorem d_M_byteAt_13 : decode c_M_byteAt 13 = .ok (.iload_n 2, 1) := by decide +kernel
theorem d_M_byteAt_14 : decode c_M_byteAt 14 = .ok (.ifCond .ge 5, 3) := by decide +kernel
theorem d_M_byteAt_17 : decode c_M_byteAt 17 = .ok (.iconst (-1), 1) := by decide +kernel
theorem d_M_byteAt_18 : decode c_M_byteAt 18 = .ok (.ireturn, 1) := by decide +kernel
theorem d_M_byteAt_19 : decode c_M_byteAt 19 = .ok (.iload_n 2, 1) := by decide +kernel
theorem d_M_byteAt_20 : decode c_M_byteAt 20 = .ok (.istore_n 3, 1) := by decide +kernel
theorem d_M_byteAt_21 : decode c_M_byteAt 21 = .ok (.iconst 0, 1) := by decide +kernel
theorem d_M_byteAt_22 : decode c_M_byteAt 22 = .ok (.istore 4, 2) := by decide +kernel
theorem d_M_byteAt_24 : decode c_M_byteAt 24 = .ok (.iload 4, 2) := by decide +kernel
theorem d_M_byteAt_26 : decode c_M_byteAt 26 = .ok (.aload_n 0, 1) := by decide +kernel
theorem d_M_byteAt_27 : decode c_M_byteAt 27 = .ok (.getfield 41, 3) := by decide +kernel
theorem d_M_byteAt_30 : decode c_M_byteAt 30 = .ok (.iload_n 1, 1) := by decide +kernel
theorem d_M_byteAt_31 : decode c_M_byteAt 31 = .ok (.iaload, 1) := by decide +kernel
theorem d_M_byteAt_32 : decode c_M_byteAt 32 = .ok (.if_icmp .ge 52, 3) := by decide +kernel
theorem d_M_byteAt_35 : decode c_M_byteAt 35 = .ok (.aload_n 0, 1) := by decide +kernel
theorem d_M_byteAt_36 : decode c_M_byteAt 36 = .ok (.iload_n 1, 1) := by decide +kernel
theorem d_M_byteAt_37 : decode c_M_byteAt 37 = .ok (.iload 4, 2) := by decide +kernel
theorem d_M_byteAt_39 : decode c_M_byteAt 39 = .ok (.invokevirtual 141, 3) := by decide +kernel
theorem d_M_byteAt_42 : decode c_M_byteAt 42 = .ok (.istore 5, 2) := by decide +kernel
theorem d_M_byteAt_44 : decode c_M_byteAt 44 = .ok (.iload_n 3, 1) := by decide +kernel
theorem d_M_byteAt_45 : decode c_M_byteAt 45 = .ok (.aload_n 0, 1) := by decide +kernel
theorem d_M_byteAt_46 : decode c_M_byteAt 46 = .ok (.getfield 7, 3) := by decide +kernel
theorem d_M_byteAt_49 : decode c_M_byteAt 49 = .ok (.iload 5, 2) := by decide +kernel
theorem d_M_byteAt_51 : decode c_M_byteAt 51 = .ok (.iaload, 1) := by decide +kernel
theorem d_M_byteAt_52 : decode c_M_byteAt 52 = .ok (.if_icmp .ge 16, 3) := by decide +kernel
theorem d_M_byteAt_55 : decode c_M_byteAt 55 = .ok (.aload_n 0, 1) := by decide +kernel
theorem d_M_byteAt_56 : decode c_M_byteAt 56 = .ok (.getfield 13, 3) := by decide +kernel
theorem d_M_byteAt_59 : decode c_M_byteAt 59 = .ok (.bipush 8, 2) := by decide +kernel
theorem d_M_byteAt_61 : decode c_M_byteAt 61 = .ok (.iload 5, 2) := by decide +kernel
theorem d_M_byteAt_63 : decode c_M_byteAt 63 = .ok (.imul, 1) := by decide +kernel
theorem d_M_byteAt_64 : decode c_M_byteAt 64 = .ok (.iload_n 3, 1) := by decide +kernel
theorem d_M_byteAt_65 : decode c_M_byteAt 65 = .ok (.iadd, 1) := by decide +kernel
theorem d_M_byteAt_66 : decode c_M_byteAt 66 = .ok (.iaload, 1) := by decide +kernel
theorem d_M_byteAt_67 : decode c_M_byteAt 67 = .ok (.ireturn, 1) := by decide +kernel
theorem d_M_byteAt_68 : decode c_M_byteAt 68 = .ok (.iload_n 3, 1) := by decide +kernel
theorem d_M_byteAt_69 : decode c_M_byteAt 69 = .ok (.aload_n 0, 1) := by decide +kernel
theorem d_M_byteAt_70 : decode c_M_byteAt 70 = .ok (.getfield 7, 3) := by decide +kernel
theorem d_M_byteAt_73 : decode c_M_byteAt 73 = .ok (.iload 5, 2) := by decide +kernel
theorem d_M_byteAt_75 : decode c_M_byteAt 75 = .ok (.iaload, 1) := by decide +kernel
theorem d_M_byteAt_76 : decode c_M_byteAt 76 = .ok (.isub, 1) := by decide +kernel
theorem d_M_byteAt_77 : decode c_M_byteAt 77 = .ok (.istore_n 3, 1) := by decide +kernel
theorem d_M_byteAt_78 : decode c_M_byteAt 78 = .ok (.iinc 4 1, 3) := by decide +kernel
theorem d_M_byteAt_81 : decode c_M_byteAt 81 = .ok (.goto (-57), 3) := by decide +kernel
theorem d_M_byteAt_84 : decode c_M_byteAt 84 = .ok (.iconst (-1), 1) := by decide +kernel
theorem d_M_byteAt_85 : decode c_M_byteAt 85 = .ok (.ireturn, 1) := by decide +kernel
abbrev c_M_hasChunk : ByteArray := prog_9_method_34_code
abbrev y_M_hasChunk : MethodName := ⟨"BlobStoreModel", "hasChunk", "(I)Z"⟩
theorem i_M_hasChunk : bIs y_M_hasChunk 2 := Or.inl ⟨_, _, t4_50⟩
theorem d_M_hasChunk_0 : decode c_M_hasChunk 0 = .ok (.iload_n 1, 1) := by decide +kernel
theorem d_M_hasChunk_1 : decode c_M_hasChunk 1 = .ok (.iconst 0, 1) := by decide +kernel
theorem d_M_hasChunk_2 : decode c_M_hasChunk 2 = .ok (.bipush 47, 2) := by decide +kernel
theorem d_M_hasChunk_4 : decode c_M_hasChunk 4 = .ok (.invokestatic 109, 3) := by decide +kernel
theorem d_M_hasChunk_7 : decode c_M_hasChunk 7 = .ok (.ifCond .eq 16, 3) := by decide +kernel
theorem d_M_hasChunk_10 : decode c_M_hasChunk 10 = .ok (.aload_n 0, 1) := by decide +kernel
theorem d_M_hasChunk_11 : decode c_M_hasChunk 11 = .ok (.getfield 7, 3) := by decide +kernel
theorem d_M_hasChunk_14 : decode c_M_hasChunk 14 = .ok (.iload_n 1, 1) := by decide +kernel
theorem d_M_hasChunk_15 : decode c_M_hasChunk 15 = .ok (.iaload, 1) := by decide +kernel
theorem d_M_hasChunk_16 : decode c_M_hasChunk 16 = .ok (.ifCond .le 7, 3) := by decide +kernel
theorem d_M_hasChunk_19 : decode c_M_hasChunk 19 = .ok (.iconst 1, 1) := by decide +kernel
theorem d_M_hasChunk_20 : decode c_M_hasChunk 20 = .ok (.goto 4, 3) := by decide +kernel
theorem d_M_hasChunk_23 : decode c_M_hasChunk 23 = .ok (.iconst 0, 1) := by decide +kernel
theorem d_M_hasChunk_24 : decode c_M_hasChunk 24 = .ok (.ireturn, 1) := by decide +kernel
abbrev c_M_address : ByteArray := prog_9_method_35_code
abbrev y_M_address : MethodName := ⟨"BlobStoreModel", "address", "(II)I"⟩
theorem i_M_address : bIs y_M_address 3 := Or.inl ⟨_, _, t4_46⟩
theorem d_M_address_0 : decode c_M_address 0 = .ok (.aload_n 0, 1) := by decide +kernel
theorem d_M_address_1 : decode c_M_address 1 = .ok (.aload_n 0, 1) := by decide +kernel
theorem d_M_address_2 : decode c_M_address 2 = .ok (.iload_n 1, 1) := by decide +kernel
theorem d_M_address_3 : decode c_M_address 3 = .ok (.invokevirtual 147, 3) := by decide +kernel
theorem d_M_address_6 : decode c_M_address 6 = .ok (.ifCond .eq 17, 3) := by decide +kernel
theorem d_M_address_9 : decode c_M_address 9 = .ok (.iload_n 2, 1) := by decide +kernel
theorem d_M_address_10 : decode c_M_address 10 = .ok (.iconst 0, 1) := by decide +kernel
theorem d_M_address_11 : decode c_M_address 11 = .ok (.bipush 7, 2) := by decide +kernel
theorem d_M_address_13 : decode c_M_address 13 = .ok (.invokestatic 109, 3) := by decide +kernel
theorem d_M_address_16 : decode c_M_address 16 = .ok (.ifCond .eq 7, 3) := by decide +kernel
theorem d_M_address_19 : decode c_M_address 19 = .ok (.iconst 0, 1) := by decide +kernel
theorem d_M_address_20 : decode c_M_address 20 = .ok (.goto 4, 3) := by decide +kernel
theorem d_M_address_23 : decode c_M_address 23 = .ok (.iconst 1, 1) := by decide +kernel
theorem d_M_address_24 : decode c_M_address 24 = .ok (.invokevirtual 112, 3) := by decide +kernel
theorem d_M_address_27 : decode c_M_address 27 = .ok (.ifCond .ne 5, 3) := by decide +kernel
theorem d_M_address_30 : decode c_M_address 30 = .ok (.iconst 0, 1) := by decide +kernel
theorem d_M_address_31 : decode c_M_address 31 = .ok (.ireturn, 1) := by decide +kernel
theorem d_M_address_32 : decode c_M_address 32 = .ok (.aload_n 0, 1) := by decide +kernel
theorem d_M_address_33 : decode c_M_address 33 = .ok (.iload_n 1, 1) := by decide +kernel
theorem d_M_address_34 : decode c_M_address 34 = .ok (.invokevirtual 150, 3) := by decide +kernel
theorem d_M_address_37 : decode c_M_address 37 = .ok (.aload_n 0, 1) := by decide +kernel
theorem d_M_address_38 : decode c_M_address 38 = .ok (.getfield 57, 3) := by decide +kernel
theorem d_M_address_41 : decode c_M_address 41 = .ok (.iload_n 2, 1) := by decide +kernel
theorem d_M_address_42 : decode c_M_address 42 = .ok (.iaload, 1) := by decide +kernel
theorem d_M_address_43 : decode c_M_address 43 = .ok (.ireturn, 1) := by decide +kernel
abbrev c_M_needed : ByteArray := prog_9_method_36_code
abbrev y_M_needed : MethodName := ⟨"BlobStoreModel", "needed", "(I)I"⟩
theorem i_M_needed : bIs y_M_needed 2 := Or.inl ⟨_, _, t4_61⟩
theorem d_M_needed_0 : decode c_M_needed 0 = .ok (.aload_n 0, 1) := by decide +kernel
theorem d_M_needed_1 : decode c_M_needed 1 = .ok (.iconst 0, 1) := by decide +kernel
theorem d_M_needed_2 : decode c_M_needed 2 = .ok (.putfield 75, 3) := by decide +kernel
theorem d_M_needed_5 : decode c_M_needed 5 = .ok (.aload_n 0, 1) := by decide +kernel
theorem d_M_needed_6 : decode c_M_needed 6 = .ok (.iload_n 1, 1) := by decide +kernel
theorem d_M_needed_7 : decode c_M_needed 7 = .ok (.invokevirtual 147, 3) := by decide +kernel
theorem d_M_needed_10 : decode c_M_needed 10 = .ok (.ifCond .eq 11, 3) := by decide +kernel
theorem d_M_needed_13 : decode c_M_needed 13 = .ok (.aload_n 0, 1) := by decide +kernel
theorem d_M_needed_14 : decode c_M_needed 14 = .ok (.iload_n 1, 1) := by decide +kernel
theorem d_M_needed_15 : decode c_M_needed 15 = .ok (.invokevirtual 144, 3) := by decide +kernel
theorem d_M_needed_18 : decode c_M_needed 18 = .ok (.goto 4, 3) := by decide +kernel
theorem d_M_needed_21 : decode c_M_needed 21 = .ok (.iconst (-1), 1) := by decide +kernel
theorem d_M_needed_22 : decode c_M_needed 22 = .ok (.ireturn, 1) := by decide +kernel
abbrev c_M_slotOf : ByteArray := prog_9_method_37_code
abbrev y_M_slotOf : MethodName := ⟨"BlobStoreModel", "slotOf", "(IJ)I"⟩
theorem i_M_slotOf : bIs y_M_slotOf 4 := Or.inl ⟨_, _, t4_65⟩
theorem d_M_slotOf_0 : decode c_M_slotOf 0 = .ok (.aload_n 0, 1) := by decide +kernel
theorem d_M_slotOf_1 : decode c_M_slotOf 1 = .ok (.iconst 0, 1) := by decide +kernel
theorem d_M_slotOf_2 : decode c_M_slotOf 2 = .ok (.putfield 75, 3) := by decide +kernel
theorem d_M_slotOf_5 : decode c_M_slotOf 5 = .ok (.aload_n 0, 1) := by decide +kernel
theorem d_M_slotOf_6 : decode c_M_slotOf 6 = .ok (.lload_n 2, 1) := by decide +kernel
theorem d_M_slotOf_7 : decode c_M_slotOf 7 = .ok (.lconst 0, 1) := by decide +kernel
theorem d_M_slotOf_8 : decode c_M_slotOf 8 = .ok (.lconst 0, 1) := by decide +kernel
theorem d_M_slotOf_9 : decode c_M_slotOf 9 = .ok (.invokevirtual 120, 3) := by decide +kernel
theorem d_M_slotOf_12 : decode c_M_slotOf 12 = .ok (.iload_n 1, 1) := by decide +kernel
theorem d_M_slotOf_13 : decode c_M_slotOf 13 = .ok (.iconst 1, 1) := by decide +kernel
theorem d_M_slotOf_14 : decode c_M_slotOf 14 = .ok (.bipush 8, 2) := by decide +kernel
theorem d_M_slotOf_16 : decode c_M_slotOf 16 = .ok (.invokestatic 109, 3) := by decide +kernel
theorem d_M_slotOf_19 : decode c_M_slotOf 19 = .ok (.ifCond .eq 12, 3) := by decide +kernel
theorem d_M_slotOf_22 : decode c_M_slotOf 22 = .ok (.aload_n 0, 1) := by decide +kernel
theorem d_M_slotOf_23 : decode c_M_slotOf 23 = .ok (.iconst 0, 1) := by decide +kernel
theorem d_M_slotOf_24 : decode c_M_slotOf 24 = .ok (.iload_n 1, 1) := by decide +kernel
theorem d_M_slotOf_25 : decode c_M_slotOf 25 = .ok (.invokevirtual 101, 3) := by decide +kernel
theorem d_M_slotOf_28 : decode c_M_slotOf 28 = .ok (.goto 4, 3) := by decide +kernel
theorem d_M_slotOf_31 : decode c_M_slotOf 31 = .ok (.iconst (-1), 1) := by decide +kernel
theorem d_M_slotOf_32 : decode c_M_slotOf 32 = .ok (.ireturn, 1) := by decide +kernel
abbrev c_M_state : ByteArray := prog_9_method_38_code
abbrev y_M_state : MethodName := ⟨"BlobStoreModel", "state", "(I)I"⟩
theorem i_M_state : bIs y_M_state 4 := Or.inl ⟨_, _, t4_69⟩
theorem d_M_state_0 : decode c_M_state 0 = .ok (.aload_n 0, 1) := by decide +kernel
theorem d_M_state_1 : decode c_M_state 1 = .ok (.iconst 0, 1) := by decide +kernel
theorem d_M_state_2 : decode c_M_state 2 = .ok (.putfield 75, 3) := by decide +kernel
theorem d_M_state_5 : decode c_M_state 5 = .ok (.iconst 0, 1) := by decide +kernel
theorem d_M_state_6 : decode c_M_state 6 = .ok (.istore_n 2, 1) := by decide +kernel
theorem d_M_state_7 : decode c_M_state 7 = .ok (.iload_n 1, 1) := by decide +kernel
theorem d_M_state_8 : decode c_M_state 8 = .ok (.tableswitch 188 0 7 #[48, 56, 88, 123, 128, 133, 146, 167], 48) := by decide +kernel
theorem d_M_state_56 : decode c_M_state 56 = .ok (.bipush 48, 2) := by decide +kernel
theorem d_M_state_58 : decode c_M_state 58 = .ok (.aload_n 0, 1) := by decide +kernel
theorem d_M_state_59 : decode c_M_state 59 = .ok (.invokevirtual 128, 3) := by decide +kernel
theorem d_M_state_62 : decode c_M_state 62 = .ok (.isub, 1) := by decide +kernel
theorem d_M_state_63 : decode c_M_state 63 = .ok (.ireturn, 1) := by decide +kernel
theorem d_M_state_64 : decode c_M_state 64 = .ok (.iconst 0, 1) := by decide +kernel
theorem d_M_state_65 : decode c_M_state 65 = .ok (.istore_n 3, 1) := by decide +kernel
theorem d_M_state_66 : decode c_M_state 66 = .ok (.iload_n 3, 1) := by decide +kernel
theorem d_M_state_67 : decode c_M_state 67 = .ok (.iconst 5, 1) := by decide +kernel
theorem d_M_state_68 : decode c_M_state 68 = .ok (.if_icmp .ge 26, 3) := by decide +kernel
theorem d_M_state_71 : decode c_M_state 71 = .ok (.iload_n 2, 1) := by decide +kernel
theorem d_M_state_72 : decode c_M_state 72 = .ok (.aload_n 0, 1) := by decide +kernel
theorem d_M_state_73 : decode c_M_state 73 = .ok (.getfield 16, 3) := by decide +kernel
theorem d_M_state_76 : decode c_M_state 76 = .ok (.iload_n 3, 1) := by decide +kernel
theorem d_M_state_77 : decode c_M_state 77 = .ok (.baload, 1) := by decide +kernel
theorem d_M_state_78 : decode c_M_state 78 = .ok (.ifCond .eq 7, 3) := by decide +kernel
theorem d_M_state_81 : decode c_M_state 81 = .ok (.iconst 1, 1) := by decide +kernel
theorem d_M_state_82 : decode c_M_state 82 = .ok (.goto 4, 3) := by decide +kernel
theorem d_M_state_85 : decode c_M_state 85 = .ok (.iconst 0, 1) := by decide +kernel
theorem d_M_state_86 : decode c_M_state 86 = .ok (.iadd, 1) := by decide +kernel
theorem d_M_state_87 : decode c_M_state 87 = .ok (.istore_n 2, 1) := by decide +kernel
theorem d_M_state_88 : decode c_M_state 88 = .ok (.iinc 3 1, 3) := by decide +kernel
theorem d_M_state_91 : decode c_M_state 91 = .ok (.goto (-25), 3) := by decide +kernel
theorem d_M_state_94 : decode c_M_state 94 = .ok (.iload_n 2, 1) := by decide +kernel
theorem d_M_state_95 : decode c_M_state 95 = .ok (.ireturn, 1) := by decide +kernel
theorem d_M_state_96 : decode c_M_state 96 = .ok (.iconst 1, 1) := by decide +kernel
theorem d_M_state_97 : decode c_M_state 97 = .ok (.istore_n 3, 1) := by decide +kernel
theorem d_M_state_98 : decode c_M_state 98 = .ok (.iload_n 3, 1) := by decide +kernel
theorem d_M_state_99 : decode c_M_state 99 = .ok (.aload_n 0, 1) := by decide +kernel
theorem d_M_state_100 : decode c_M_state 100 = .ok (.getfield 135, 3) := by decide +kernel
theorem d_M_state_103 : decode c_M_state 103 = .ok (.if_icmp .gt 26, 3) := by decide +kernel
theorem d_M_state_106 : decode c_M_state 106 = .ok (.iload_n 2, 1) := by decide +kernel
theorem d_M_state_107 : decode c_M_state 107 = .ok (.aload_n 0, 1) := by decide +kernel
theorem d_M_state_108 : decode c_M_state 108 = .ok (.getfield 32, 3) := by decide +kernel
theorem d_M_state_111 : decode c_M_state 111 = .ok (.iload_n 3, 1) := by decide +kernel
theorem d_M_state_112 : decode c_M_state 112 = .ok (.baload, 1) := by decide +kernel
theorem d_M_state_113 : decode c_M_state 113 = .ok (.ifCond .eq 7, 3) := by decide +kernel
theorem d_M_state_116 : decode c_M_state 116 = .ok (.iconst 1, 1) := by decide +kernel
theorem d_M_state_117 : decode c_M_state 117 = .ok (.goto 4, 3) := by decide +kernel
theorem d_M_state_120 : decode c_M_state 120 = .ok (.iconst 0, 1) := by decide +kernel
theorem d_M_state_121 : decode c_M_state 121 = .ok (.iadd, 1) := by decide +kernel
theorem d_M_state_122 : decode c_M_state 122 = .ok (.istore_n 2, 1) := by decide +kernel
theorem d_M_state_123 : decode c_M_state 123 = .ok (.iinc 3 1, 3) := by decide +kernel
theorem d_M_state_126 : decode c_M_state 126 = .ok (.goto (-28), 3) := by decide +kernel
theorem d_M_state_129 : decode c_M_state 129 = .ok (.iload_n 2, 1) := by decide +kernel
theorem d_M_state_130 : decode c_M_state 130 = .ok (.ireturn, 1) := by decide +kernel
theorem d_M_state_131 : decode c_M_state 131 = .ok (.aload_n 0, 1) := by decide +kernel
theorem d_M_state_132 : decode c_M_state 132 = .ok (.getfield 135, 3) := by decide +kernel
theorem d_M_state_135 : decode c_M_state 135 = .ok (.ireturn, 1) := by decide +kernel
theorem d_M_state_136 : decode c_M_state 136 = .ok (.aload_n 0, 1) := by decide +kernel
theorem d_M_state_137 : decode c_M_state 137 = .ok (.getfield 91, 3) := by decide +kernel
theorem d_M_state_140 : decode c_M_state 140 = .ok (.ireturn, 1) := by decide +kernel
theorem d_M_state_141 : decode c_M_state 141 = .ok (.aload_n 0, 1) := by decide +kernel
theorem d_M_state_142 : decode c_M_state 142 = .ok (.getfield 87, 3) := by decide +kernel
theorem d_M_state_145 : decode c_M_state 145 = .ok (.ifCond .eq 7, 3) := by decide +kernel
theorem d_M_state_148 : decode c_M_state 148 = .ok (.iconst 1, 1) := by decide +kernel
theorem d_M_state_149 : decode c_M_state 149 = .ok (.goto 4, 3) := by decide +kernel
theorem d_M_state_152 : decode c_M_state 152 = .ok (.iconst 0, 1) := by decide +kernel
theorem d_M_state_153 : decode c_M_state 153 = .ok (.ireturn, 1) := by decide +kernel
theorem d_M_state_154 : decode c_M_state 154 = .ok (.aload_n 0, 1) := by decide +kernel
theorem d_M_state_155 : decode c_M_state 155 = .ok (.getfield 135, 3) := by decide +kernel
theorem d_M_state_158 : decode c_M_state 158 = .ok (.ifCond .le 15, 3) := by decide +kernel
theorem d_M_state_161 : decode c_M_state 161 = .ok (.aload_n 0, 1) := by decide +kernel
theorem d_M_state_162 : decode c_M_state 162 = .ok (.getfield 35, 3) := by decide +kernel
theorem d_M_state_165 : decode c_M_state 165 = .ok (.aload_n 0, 1) := by decide +kernel
theorem d_M_state_166 : decode c_M_state 166 = .ok (.getfield 135, 3) := by decide +kernel
theorem d_M_state_169 : decode c_M_state 169 = .ok (.iaload, 1) := by decide +kernel
theorem d_M_state_170 : decode c_M_state 170 = .ok (.goto 4, 3) := by decide +kernel
theorem d_M_state_173 : decode c_M_state 173 = .ok (.iconst (-1), 1) := by decide +kernel
theorem d_M_state_174 : decode c_M_state 174 = .ok (.ireturn, 1) := by decide +kernel
theorem d_M_state_175 : decode c_M_state 175 = .ok (.aload_n 0, 1) := by decide +kernel
theorem d_M_state_176 : decode c_M_state 176 = .ok (.getfield 135, 3) := by decide +kernel
theorem d_M_state_179 : decode c_M_state 179 = .ok (.ifCond .le 15, 3) := by decide +kernel
theorem d_M_state_182 : decode c_M_state 182 = .ok (.aload_n 0, 1) := by decide +kernel
theorem d_M_state_183 : decode c_M_state 183 = .ok (.getfield 38, 3) := by decide +kernel
theorem d_M_state_186 : decode c_M_state 186 = .ok (.aload_n 0, 1) := by decide +kernel
theorem d_M_state_187 : decode c_M_state 187 = .ok (.getfield 135, 3) := by decide +kernel
theorem d_M_state_190 : decode c_M_state 190 = .ok (.iaload, 1) := by decide +kernel
theorem d_M_state_191 : decode c_M_state 191 = .ok (.goto 4, 3) := by decide +kernel
theorem d_M_state_194 : decode c_M_state 194 = .ok (.iconst (-1), 1) := by decide +kernel
theorem d_M_state_195 : decode c_M_state 195 = .ok (.ireturn, 1) := by decide +kernel
theorem d_M_state_196 : decode c_M_state 196 = .ok (.iconst (-1), 1) := by decide +kernel
theorem d_M_state_197 : decode c_M_state 197 = .ok (.ireturn, 1) := by decide +kernel
end
section
abbrev c_L_begin : ByteArray := method_3_code
abbrev y_L_begin : MethodName := ⟨"BlobStoreLaw", "begin", "(LBlobStore;II[J)I"⟩
theorem i_L_begin : bIs y_L_begin 5 := Or.inr ⟨_, _, _, t2_53⟩
theorem d_L_begin_0 : decode c_L_begin 0 = .ok (.aload_n 3, 1) := by decide +kernel
theorem d_L_begin_1 : decode c_L_begin 1 = .ok (.iconst 0, 1) := by decide +kernel
theorem d_L_begin_2 : decode c_L_begin 2 = .ok (.aload_n 0, 1) := by decide +kernel
theorem d_L_begin_3 : decode c_L_begin 3 = .ok (.iload_n 1, 1) := by decide +kernel
theorem d_L_begin_4 : decode c_L_begin 4 = .ok (.iload_n 2, 1) := by decide +kernel
theorem d_L_begin_5 : decode c_L_begin 5 = .ok (.invokevirtual 7, 3) := by decide +kernel
theorem d_L_begin_8 : decode c_L_begin 8 = .ok (.i2l, 1) := by decide +kernel
theorem d_L_begin_9 : decode c_L_begin 9 = .ok (.lastore, 1) := by decide +kernel
theorem d_L_begin_10 : decode c_L_begin 10 = .ok (.goto 15, 3) := by decide +kernel
theorem d_L_begin_13 : decode c_L_begin 13 = .ok (.astore 4, 2) := by decide +kernel
theorem d_L_begin_15 : decode c_L_begin 15 = .ok (.iconst 1, 1) := by decide +kernel
theorem d_L_begin_16 : decode c_L_begin 16 = .ok (.ireturn, 1) := by decide +kernel
theorem d_L_begin_17 : decode c_L_begin 17 = .ok (.astore 4, 2) := by decide +kernel
theorem d_L_begin_19 : decode c_L_begin 19 = .ok (.iconst 2, 1) := by decide +kernel
theorem d_L_begin_20 : decode c_L_begin 20 = .ok (.ireturn, 1) := by decide +kernel
theorem d_L_begin_21 : decode c_L_begin 21 = .ok (.astore 4, 2) := by decide +kernel
theorem d_L_begin_23 : decode c_L_begin 23 = .ok (.iconst 3, 1) := by decide +kernel
theorem d_L_begin_24 : decode c_L_begin 24 = .ok (.ireturn, 1) := by decide +kernel
theorem d_L_begin_25 : decode c_L_begin 25 = .ok (.iconst 0, 1) := by decide +kernel
theorem d_L_begin_26 : decode c_L_begin 26 = .ok (.ireturn, 1) := by decide +kernel
abbrev c_L_part : ByteArray := method_4_code
abbrev y_L_part : MethodName := ⟨"BlobStoreLaw", "part", "(LBlobStore;IIIJJJ[J)I"⟩
theorem i_L_part : bIs y_L_part 12 := Or.inr ⟨_, _, _, t2_184⟩
theorem d_L_part_0 : decode c_L_part 0 = .ok (.aload 10, 2) := by decide +kernel
theorem d_L_part_2 : decode c_L_part 2 = .ok (.iconst 0, 1) := by decide +kernel
theorem d_L_part_3 : decode c_L_part 3 = .ok (.aload_n 0, 1) := by decide +kernel
theorem d_L_part_4 : decode c_L_part 4 = .ok (.iload_n 1, 1) := by decide +kernel
theorem d_L_part_5 : decode c_L_part 5 = .ok (.iload_n 2, 1) := by decide +kernel
theorem d_L_part_6 : decode c_L_part 6 = .ok (.iload_n 3, 1) := by decide +kernel
theorem d_L_part_7 : decode c_L_part 7 = .ok (.lload 4, 2) := by decide +kernel
theorem d_L_part_9 : decode c_L_part 9 = .ok (.lload 6, 2) := by decide +kernel
theorem d_L_part_11 : decode c_L_part 11 = .ok (.lload 8, 2) := by decide +kernel
theorem d_L_part_13 : decode c_L_part 13 = .ok (.invokevirtual 19, 3) := by decide +kernel
theorem d_L_part_16 : decode c_L_part 16 = .ok (.i2l, 1) := by decide +kernel
theorem d_L_part_17 : decode c_L_part 17 = .ok (.lastore, 1) := by decide +kernel
theorem d_L_part_18 : decode c_L_part 18 = .ok (.goto 19, 3) := by decide +kernel
theorem d_L_part_21 : decode c_L_part 21 = .ok (.astore 11, 2) := by decide +kernel
theorem d_L_part_23 : decode c_L_part 23 = .ok (.iconst 1, 1) := by decide +kernel
theorem d_L_part_24 : decode c_L_part 24 = .ok (.ireturn, 1) := by decide +kernel
theorem d_L_part_25 : decode c_L_part 25 = .ok (.astore 11, 2) := by decide +kernel
theorem d_L_part_27 : decode c_L_part 27 = .ok (.iconst 2, 1) := by decide +kernel
theorem d_L_part_28 : decode c_L_part 28 = .ok (.ireturn, 1) := by decide +kernel
theorem d_L_part_29 : decode c_L_part 29 = .ok (.astore 11, 2) := by decide +kernel
theorem d_L_part_31 : decode c_L_part 31 = .ok (.iconst 3, 1) := by decide +kernel
theorem d_L_part_32 : decode c_L_part 32 = .ok (.ireturn, 1) := by decide +kernel
theorem d_L_part_33 : decode c_L_part 33 = .ok (.astore 11, 2) := by decide +kernel
theorem d_L_part_35 : decode c_L_part 35 = .ok (.iconst 4, 1) := by decide +kernel
theorem d_L_part_36 : decode c_L_part 36 = .ok (.ireturn, 1) := by decide +kernel
theorem d_L_part_37 : decode c_L_part 37 = .ok (.iconst 0, 1) := by decide +kernel
theorem d_L_part_38 : decode c_L_part 38 = .ok (.ireturn, 1) := by decide +kernel
abbrev c_L_complete : ByteArray := method_5_code
abbrev y_L_complete : MethodName := ⟨"BlobStoreLaw", "complete", "(LBlobStore;I[J)I"⟩
theorem i_L_complete : bIs y_L_complete 4 := Or.inr ⟨_, _, _, t3_17⟩
theorem d_L_complete_0 : decode c_L_complete 0 = .ok (.aload_n 2, 1) := by decide +kernel
theorem d_L_complete_1 : decode c_L_complete 1 = .ok (.iconst 0, 1) := by decide +kernel
theorem d_L_complete_2 : decode c_L_complete 2 = .ok (.aload_n 0, 1) := by decide +kernel
theorem d_L_complete_3 : decode c_L_complete 3 = .ok (.iload_n 1, 1) := by decide +kernel
theorem d_L_complete_4 : decode c_L_complete 4 = .ok (.invokevirtual 25, 3) := by decide +kernel
theorem d_L_complete_7 : decode c_L_complete 7 = .ok (.i2l, 1) := by decide +kernel
theorem d_L_complete_8 : decode c_L_complete 8 = .ok (.lastore, 1) := by decide +kernel
theorem d_L_complete_9 : decode c_L_complete 9 = .ok (.goto 12, 3) := by decide +kernel
theorem d_L_complete_12 : decode c_L_complete 12 = .ok (.astore_n 3, 1) := by decide +kernel
theorem d_L_complete_13 : decode c_L_complete 13 = .ok (.iconst 1, 1) := by decide +kernel
theorem d_L_complete_14 : decode c_L_complete 14 = .ok (.ireturn, 1) := by decide +kernel
theorem d_L_complete_15 : decode c_L_complete 15 = .ok (.astore_n 3, 1) := by decide +kernel
theorem d_L_complete_16 : decode c_L_complete 16 = .ok (.iconst 2, 1) := by decide +kernel
theorem d_L_complete_17 : decode c_L_complete 17 = .ok (.ireturn, 1) := by decide +kernel
theorem d_L_complete_18 : decode c_L_complete 18 = .ok (.astore_n 3, 1) := by decide +kernel
theorem d_L_complete_19 : decode c_L_complete 19 = .ok (.iconst 3, 1) := by decide +kernel
theorem d_L_complete_20 : decode c_L_complete 20 = .ok (.ireturn, 1) := by decide +kernel
theorem d_L_complete_21 : decode c_L_complete 21 = .ok (.iconst 0, 1) := by decide +kernel
theorem d_L_complete_22 : decode c_L_complete 22 = .ok (.ireturn, 1) := by decide +kernel
abbrev c_L_abort : ByteArray := method_6_code
abbrev y_L_abort : MethodName := ⟨"BlobStoreLaw", "abort", "(LBlobStore;I)I"⟩
theorem i_L_abort : bIs y_L_abort 3 := Or.inr ⟨_, _, _, t3_30⟩
theorem d_L_abort_0 : decode c_L_abort 0 = .ok (.aload_n 0, 1) := by decide +kernel
theorem d_L_abort_1 : decode c_L_abort 1 = .ok (.iload_n 1, 1) := by decide +kernel
theorem d_L_abort_2 : decode c_L_abort 2 = .ok (.invokevirtual 29, 3) := by decide +kernel
theorem d_L_abort_5 : decode c_L_abort 5 = .ok (.goto 12, 3) := by decide +kernel
theorem d_L_abort_8 : decode c_L_abort 8 = .ok (.astore_n 2, 1) := by decide +kernel
theorem d_L_abort_9 : decode c_L_abort 9 = .ok (.iconst 1, 1) := by decide +kernel
theorem d_L_abort_10 : decode c_L_abort 10 = .ok (.ireturn, 1) := by decide +kernel
theorem d_L_abort_11 : decode c_L_abort 11 = .ok (.astore_n 2, 1) := by decide +kernel
theorem d_L_abort_12 : decode c_L_abort 12 = .ok (.iconst 2, 1) := by decide +kernel
theorem d_L_abort_13 : decode c_L_abort 13 = .ok (.ireturn, 1) := by decide +kernel
theorem d_L_abort_14 : decode c_L_abort 14 = .ok (.astore_n 2, 1) := by decide +kernel
theorem d_L_abort_15 : decode c_L_abort 15 = .ok (.iconst 3, 1) := by decide +kernel
theorem d_L_abort_16 : decode c_L_abort 16 = .ok (.ireturn, 1) := by decide +kernel
theorem d_L_abort_17 : decode c_L_abort 17 = .ok (.iconst 0, 1) := by decide +kernel
theorem d_L_abort_18 : decode c_L_abort 18 = .ok (.ireturn, 1) := by decide +kernel
abbrev c_L_delete : ByteArray := method_7_code
abbrev y_L_delete : MethodName := ⟨"BlobStoreLaw", "delete", "(LBlobStore;I[J)I"⟩
theorem i_L_delete : bIs y_L_delete 4 := Or.inr ⟨_, _, _, t3_37⟩
theorem d_L_delete_0 : decode c_L_delete 0 = .ok (.aload_n 2, 1) := by decide +kernel
theorem d_L_delete_1 : decode c_L_delete 1 = .ok (.iconst 0, 1) := by decide +kernel
theorem d_L_delete_2 : decode c_L_delete 2 = .ok (.aload_n 0, 1) := by decide +kernel
theorem d_L_delete_3 : decode c_L_delete 3 = .ok (.iload_n 1, 1) := by decide +kernel
theorem d_L_delete_4 : decode c_L_delete 4 = .ok (.invokevirtual 33, 3) := by decide +kernel
theorem d_L_delete_7 : decode c_L_delete 7 = .ok (.ifCond .eq 7, 3) := by decide +kernel
theorem d_L_delete_10 : decode c_L_delete 10 = .ok (.lconst 1, 1) := by decide +kernel
theorem d_L_delete_11 : decode c_L_delete 11 = .ok (.goto 4, 3) := by decide +kernel
theorem d_L_delete_14 : decode c_L_delete 14 = .ok (.lconst 0, 1) := by decide +kernel
theorem d_L_delete_15 : decode c_L_delete 15 = .ok (.lastore, 1) := by decide +kernel
theorem d_L_delete_16 : decode c_L_delete 16 = .ok (.goto 9, 3) := by decide +kernel
theorem d_L_delete_19 : decode c_L_delete 19 = .ok (.astore_n 3, 1) := by decide +kernel
theorem d_L_delete_20 : decode c_L_delete 20 = .ok (.iconst 1, 1) := by decide +kernel
theorem d_L_delete_21 : decode c_L_delete 21 = .ok (.ireturn, 1) := by decide +kernel
theorem d_L_delete_22 : decode c_L_delete 22 = .ok (.astore_n 3, 1) := by decide +kernel
theorem d_L_delete_23 : decode c_L_delete 23 = .ok (.iconst 2, 1) := by decide +kernel
theorem d_L_delete_24 : decode c_L_delete 24 = .ok (.ireturn, 1) := by decide +kernel
theorem d_L_delete_25 : decode c_L_delete 25 = .ok (.iconst 0, 1) := by decide +kernel
theorem d_L_delete_26 : decode c_L_delete 26 = .ok (.ireturn, 1) := by decide +kernel
abbrev c_L_collect : ByteArray := method_8_code
abbrev y_L_collect : MethodName := ⟨"BlobStoreLaw", "collect", "(LBlobStore;[J)I"⟩
theorem i_L_collect : bIs y_L_collect 3 := Or.inr ⟨_, _, _, t3_44⟩
theorem d_L_collect_0 : decode c_L_collect 0 = .ok (.aload_n 1, 1) := by decide +kernel
theorem d_L_collect_1 : decode c_L_collect 1 = .ok (.iconst 0, 1) := by decide +kernel
theorem d_L_collect_2 : decode c_L_collect 2 = .ok (.aload_n 0, 1) := by decide +kernel
theorem d_L_collect_3 : decode c_L_collect 3 = .ok (.invokevirtual 37, 3) := by decide +kernel
theorem d_L_collect_6 : decode c_L_collect 6 = .ok (.i2l, 1) := by decide +kernel
theorem d_L_collect_7 : decode c_L_collect 7 = .ok (.lastore, 1) := by decide +kernel
theorem d_L_collect_8 : decode c_L_collect 8 = .ok (.goto 9, 3) := by decide +kernel
theorem d_L_collect_11 : decode c_L_collect 11 = .ok (.astore_n 2, 1) := by decide +kernel
theorem d_L_collect_12 : decode c_L_collect 12 = .ok (.iconst 1, 1) := by decide +kernel
theorem d_L_collect_13 : decode c_L_collect 13 = .ok (.ireturn, 1) := by decide +kernel
theorem d_L_collect_14 : decode c_L_collect 14 = .ok (.astore_n 2, 1) := by decide +kernel
theorem d_L_collect_15 : decode c_L_collect 15 = .ok (.iconst 2, 1) := by decide +kernel
theorem d_L_collect_16 : decode c_L_collect 16 = .ok (.ireturn, 1) := by decide +kernel
theorem d_L_collect_17 : decode c_L_collect 17 = .ok (.iconst 0, 1) := by decide +kernel
theorem d_L_collect_18 : decode c_L_collect 18 = .ok (.ireturn, 1) := by decide +kernel
abbrev c_L_cutAfter : ByteArray := method_9_code
abbrev y_L_cutAfter : MethodName := ⟨"BlobStoreLaw", "cutAfter", "(LBlobStore;I)I"⟩
theorem i_L_cutAfter : bIs y_L_cutAfter 3 := Or.inr ⟨_, _, _, t3_55⟩
theorem d_L_cutAfter_0 : decode c_L_cutAfter 0 = .ok (.aload_n 0, 1) := by decide +kernel
theorem d_L_cutAfter_1 : decode c_L_cutAfter 1 = .ok (.iload_n 1, 1) := by decide +kernel
theorem d_L_cutAfter_2 : decode c_L_cutAfter 2 = .ok (.invokevirtual 41, 3) := by decide +kernel
theorem d_L_cutAfter_5 : decode c_L_cutAfter 5 = .ok (.goto 6, 3) := by decide +kernel
theorem d_L_cutAfter_8 : decode c_L_cutAfter 8 = .ok (.astore_n 2, 1) := by decide +kernel
theorem d_L_cutAfter_9 : decode c_L_cutAfter 9 = .ok (.iconst 1, 1) := by decide +kernel
theorem d_L_cutAfter_10 : decode c_L_cutAfter 10 = .ok (.ireturn, 1) := by decide +kernel
theorem d_L_cutAfter_11 : decode c_L_cutAfter 11 = .ok (.iconst 0, 1) := by decide +kernel
theorem d_L_cutAfter_12 : decode c_L_cutAfter 12 = .ok (.ireturn, 1) := by decide +kernel
abbrev c_L_address : ByteArray := method_10_code
abbrev y_L_address : MethodName := ⟨"BlobStoreLaw", "address", "(LBlobStore;II[J)I"⟩
theorem i_L_address : bIs y_L_address 5 := Or.inr ⟨_, _, _, t3_67⟩
theorem d_L_address_0 : decode c_L_address 0 = .ok (.aload_n 3, 1) := by decide +kernel
theorem d_L_address_1 : decode c_L_address 1 = .ok (.iconst 0, 1) := by decide +kernel
theorem d_L_address_2 : decode c_L_address 2 = .ok (.aload_n 0, 1) := by decide +kernel
theorem d_L_address_3 : decode c_L_address 3 = .ok (.iload_n 1, 1) := by decide +kernel
theorem d_L_address_4 : decode c_L_address 4 = .ok (.iload_n 2, 1) := by decide +kernel
theorem d_L_address_5 : decode c_L_address 5 = .ok (.invokevirtual 44, 3) := by decide +kernel
theorem d_L_address_8 : decode c_L_address 8 = .ok (.i2l, 1) := by decide +kernel
theorem d_L_address_9 : decode c_L_address 9 = .ok (.lastore, 1) := by decide +kernel
theorem d_L_address_10 : decode c_L_address 10 = .ok (.goto 7, 3) := by decide +kernel
theorem d_L_address_13 : decode c_L_address 13 = .ok (.astore 4, 2) := by decide +kernel
theorem d_L_address_15 : decode c_L_address 15 = .ok (.iconst 1, 1) := by decide +kernel
theorem d_L_address_16 : decode c_L_address 16 = .ok (.ireturn, 1) := by decide +kernel
theorem d_L_address_17 : decode c_L_address 17 = .ok (.iconst 0, 1) := by decide +kernel
theorem d_L_address_18 : decode c_L_address 18 = .ok (.ireturn, 1) := by decide +kernel
abbrev c_L_law : ByteArray := code
theorem d_L_law_0 : decode c_L_law 0 = .ok (.new 8, 3) := by decide +kernel
theorem d_L_law_3 : decode c_L_law 3 = .ok (.dup, 1) := by decide +kernel
theorem d_L_law_4 : decode c_L_law 4 = .ok (.invokespecial 49, 3) := by decide +kernel
theorem d_L_law_7 : decode c_L_law 7 = .ok (.astore_n 1, 1) := by decide +kernel
theorem d_L_law_8 : decode c_L_law 8 = .ok (.new 50, 3) := by decide +kernel
theorem d_L_law_11 : decode c_L_law 11 = .ok (.dup, 1) := by decide +kernel
theorem d_L_law_12 : decode c_L_law 12 = .ok (.invokespecial 52, 3) := by decide +kernel
theorem d_L_law_15 : decode c_L_law 15 = .ok (.astore_n 2, 1) := by decide +kernel
theorem d_L_law_16 : decode c_L_law 16 = .ok (.iconst 1, 1) := by decide +kernel
theorem d_L_law_17 : decode c_L_law 17 = .ok (.newarray .long, 2) := by decide +kernel
theorem d_L_law_19 : decode c_L_law 19 = .ok (.astore_n 3, 1) := by decide +kernel
theorem d_L_law_20 : decode c_L_law 20 = .ok (.iconst 0, 1) := by decide +kernel
theorem d_L_law_21 : decode c_L_law 21 = .ok (.istore 4, 2) := by decide +kernel
theorem d_L_law_23 : decode c_L_law 23 = .ok (.iload 4, 2) := by decide +kernel
theorem d_L_law_25 : decode c_L_law 25 = .ok (.aload_n 0, 1) := by decide +kernel
theorem d_L_law_26 : decode c_L_law 26 = .ok (.arraylength, 1) := by decide +kernel
theorem d_L_law_27 : decode c_L_law 27 = .ok (.bipush 10, 2) := by decide +kernel
theorem d_L_law_29 : decode c_L_law 29 = .ok (.isub, 1) := by decide +kernel
theorem d_L_law_30 : decode c_L_law 30 = .ok (.if_icmp .gt 914, 3) := by decide +kernel
theorem d_L_law_33 : decode c_L_law 33 = .ok (.aload_n 0, 1) := by decide +kernel
theorem d_L_law_34 : decode c_L_law 34 = .ok (.iload 4, 2) := by decide +kernel
theorem d_L_law_36 : decode c_L_law 36 = .ok (.iaload, 1) := by decide +kernel
theorem d_L_law_37 : decode c_L_law 37 = .ok (.bipush 15, 2) := by decide +kernel
theorem d_L_law_39 : decode c_L_law 39 = .ok (.iand, 1) := by decide +kernel
theorem d_L_law_40 : decode c_L_law 40 = .ok (.tableswitch 898 0 14 #[76, 144, 364, 420, 456, 519, 563, 599, 612, 649, 674, 711, 779, 804, 873], 76) := by decide +kernel
theorem d_L_law_116 : decode c_L_law 116 = .ok (.aload_n 1, 1) := by decide +kernel
theorem d_L_law_117 : decode c_L_law 117 = .ok (.aload_n 0, 1) := by decide +kernel
theorem d_L_law_118 : decode c_L_law 118 = .ok (.iload 4, 2) := by decide +kernel
theorem d_L_law_120 : decode c_L_law 120 = .ok (.iconst 1, 1) := by decide +kernel
theorem d_L_law_121 : decode c_L_law 121 = .ok (.iadd, 1) := by decide +kernel
theorem d_L_law_122 : decode c_L_law 122 = .ok (.iaload, 1) := by decide +kernel
theorem d_L_law_123 : decode c_L_law 123 = .ok (.aload_n 0, 1) := by decide +kernel
theorem d_L_law_124 : decode c_L_law 124 = .ok (.iload 4, 2) := by decide +kernel
theorem d_L_law_126 : decode c_L_law 126 = .ok (.iconst 2, 1) := by decide +kernel
theorem d_L_law_127 : decode c_L_law 127 = .ok (.iadd, 1) := by decide +kernel
theorem d_L_law_128 : decode c_L_law 128 = .ok (.iaload, 1) := by decide +kernel
theorem d_L_law_129 : decode c_L_law 129 = .ok (.aload_n 3, 1) := by decide +kernel
theorem d_L_law_130 : decode c_L_law 130 = .ok (.invokestatic 53, 3) := by decide +kernel
theorem d_L_law_133 : decode c_L_law 133 = .ok (.istore 5, 2) := by decide +kernel
theorem d_L_law_135 : decode c_L_law 135 = .ok (.aload_n 2, 1) := by decide +kernel
theorem d_L_law_136 : decode c_L_law 136 = .ok (.aload_n 0, 1) := by decide +kernel
theorem d_L_law_137 : decode c_L_law 137 = .ok (.iload 4, 2) := by decide +kernel
theorem d_L_law_139 : decode c_L_law 139 = .ok (.iconst 1, 1) := by decide +kernel
theorem d_L_law_140 : decode c_L_law 140 = .ok (.iadd, 1) := by decide +kernel
theorem d_L_law_141 : decode c_L_law 141 = .ok (.iaload, 1) := by decide +kernel
theorem d_L_law_142 : decode c_L_law 142 = .ok (.aload_n 0, 1) := by decide +kernel
theorem d_L_law_143 : decode c_L_law 143 = .ok (.iload 4, 2) := by decide +kernel
theorem d_L_law_145 : decode c_L_law 145 = .ok (.iconst 2, 1) := by decide +kernel
theorem d_L_law_146 : decode c_L_law 146 = .ok (.iadd, 1) := by decide +kernel
theorem d_L_law_147 : decode c_L_law 147 = .ok (.iaload, 1) := by decide +kernel
theorem d_L_law_148 : decode c_L_law 148 = .ok (.invokevirtual 58, 3) := by decide +kernel
theorem d_L_law_151 : decode c_L_law 151 = .ok (.istore 6, 2) := by decide +kernel
theorem d_L_law_153 : decode c_L_law 153 = .ok (.aload_n 2, 1) := by decide +kernel
theorem d_L_law_154 : decode c_L_law 154 = .ok (.invokevirtual 59, 3) := by decide +kernel
theorem d_L_law_157 : decode c_L_law 157 = .ok (.iload 5, 2) := by decide +kernel
theorem d_L_law_159 : decode c_L_law 159 = .ok (.if_icmp .eq 5, 3) := by decide +kernel
theorem d_L_law_162 : decode c_L_law 162 = .ok (.iconst 0, 1) := by decide +kernel
theorem d_L_law_163 : decode c_L_law 163 = .ok (.ireturn, 1) := by decide +kernel
theorem d_L_law_164 : decode c_L_law 164 = .ok (.iload 5, 2) := by decide +kernel
theorem d_L_law_166 : decode c_L_law 166 = .ok (.ifCond .ne 15, 3) := by decide +kernel
theorem d_L_law_169 : decode c_L_law 169 = .ok (.aload_n 3, 1) := by decide +kernel
theorem d_L_law_170 : decode c_L_law 170 = .ok (.iconst 0, 1) := by decide +kernel
theorem d_L_law_171 : decode c_L_law 171 = .ok (.laload, 1) := by decide +kernel
theorem d_L_law_172 : decode c_L_law 172 = .ok (.iload 6, 2) := by decide +kernel
theorem d_L_law_174 : decode c_L_law 174 = .ok (.i2l, 1) := by decide +kernel
theorem d_L_law_175 : decode c_L_law 175 = .ok (.lcmp, 1) := by decide +kernel
theorem d_L_law_176 : decode c_L_law 176 = .ok (.ifCond .eq 5, 3) := by decide +kernel
theorem d_L_law_179 : decode c_L_law 179 = .ok (.iconst 0, 1) := by decide +kernel
theorem d_L_law_180 : decode c_L_law 180 = .ok (.ireturn, 1) := by decide +kernel
theorem d_L_law_181 : decode c_L_law 181 = .ok (.goto 757, 3) := by decide +kernel
theorem d_L_law_184 : decode c_L_law 184 = .ok (.aload_n 1, 1) := by decide +kernel
theorem d_L_law_185 : decode c_L_law 185 = .ok (.aload_n 0, 1) := by decide +kernel
theorem d_L_law_186 : decode c_L_law 186 = .ok (.iload 4, 2) := by decide +kernel
theorem d_L_law_188 : decode c_L_law 188 = .ok (.iconst 1, 1) := by decide +kernel
theorem d_L_law_189 : decode c_L_law 189 = .ok (.iadd, 1) := by decide +kernel
theorem d_L_law_190 : decode c_L_law 190 = .ok (.iaload, 1) := by decide +kernel
theorem d_L_law_191 : decode c_L_law 191 = .ok (.aload_n 0, 1) := by decide +kernel
theorem d_L_law_192 : decode c_L_law 192 = .ok (.iload 4, 2) := by decide +kernel
theorem d_L_law_194 : decode c_L_law 194 = .ok (.iconst 2, 1) := by decide +kernel
theorem d_L_law_195 : decode c_L_law 195 = .ok (.iadd, 1) := by decide +kernel
theorem d_L_law_196 : decode c_L_law 196 = .ok (.iaload, 1) := by decide +kernel
theorem d_L_law_197 : decode c_L_law 197 = .ok (.aload_n 0, 1) := by decide +kernel
theorem d_L_law_198 : decode c_L_law 198 = .ok (.iload 4, 2) := by decide +kernel
theorem d_L_law_200 : decode c_L_law 200 = .ok (.iconst 3, 1) := by decide +kernel
theorem d_L_law_201 : decode c_L_law 201 = .ok (.iadd, 1) := by decide +kernel
theorem d_L_law_202 : decode c_L_law 202 = .ok (.iaload, 1) := by decide +kernel
theorem d_L_law_203 : decode c_L_law 203 = .ok (.aload_n 0, 1) := by decide +kernel
theorem d_L_law_204 : decode c_L_law 204 = .ok (.iload 4, 2) := by decide +kernel
theorem d_L_law_206 : decode c_L_law 206 = .ok (.iconst 4, 1) := by decide +kernel
theorem d_L_law_207 : decode c_L_law 207 = .ok (.iadd, 1) := by decide +kernel
theorem d_L_law_208 : decode c_L_law 208 = .ok (.iaload, 1) := by decide +kernel
theorem d_L_law_209 : decode c_L_law 209 = .ok (.i2l, 1) := by decide +kernel
theorem d_L_law_210 : decode c_L_law 210 = .ok (.bipush 32, 2) := by decide +kernel
theorem d_L_law_212 : decode c_L_law 212 = .ok (.lshl, 1) := by decide +kernel
theorem d_L_law_213 : decode c_L_law 213 = .ok (.aload_n 0, 1) := by decide +kernel
theorem d_L_law_214 : decode c_L_law 214 = .ok (.iload 4, 2) := by decide +kernel
theorem d_L_law_216 : decode c_L_law 216 = .ok (.iconst 5, 1) := by decide +kernel
theorem d_L_law_217 : decode c_L_law 217 = .ok (.iadd, 1) := by decide +kernel
theorem d_L_law_218 : decode c_L_law 218 = .ok (.iaload, 1) := by decide +kernel
theorem d_L_law_219 : decode c_L_law 219 = .ok (.i2l, 1) := by decide +kernel
theorem d_L_law_220 : decode c_L_law 220 = .ok (.ldc2_w 62, 3) := by decide +kernel
theorem d_L_law_223 : decode c_L_law 223 = .ok (.land, 1) := by decide +kernel
theorem d_L_law_224 : decode c_L_law 224 = .ok (.lor, 1) := by decide +kernel
theorem d_L_law_225 : decode c_L_law 225 = .ok (.aload_n 0, 1) := by decide +kernel
theorem d_L_law_226 : decode c_L_law 226 = .ok (.iload 4, 2) := by decide +kernel
theorem d_L_law_228 : decode c_L_law 228 = .ok (.bipush 6, 2) := by decide +kernel
theorem d_L_law_230 : decode c_L_law 230 = .ok (.iadd, 1) := by decide +kernel
theorem d_L_law_231 : decode c_L_law 231 = .ok (.iaload, 1) := by decide +kernel
theorem d_L_law_232 : decode c_L_law 232 = .ok (.i2l, 1) := by decide +kernel
theorem d_L_law_233 : decode c_L_law 233 = .ok (.bipush 32, 2) := by decide +kernel
theorem d_L_law_235 : decode c_L_law 235 = .ok (.lshl, 1) := by decide +kernel
theorem d_L_law_236 : decode c_L_law 236 = .ok (.aload_n 0, 1) := by decide +kernel
theorem d_L_law_237 : decode c_L_law 237 = .ok (.iload 4, 2) := by decide +kernel
theorem d_L_law_239 : decode c_L_law 239 = .ok (.bipush 7, 2) := by decide +kernel
theorem d_L_law_241 : decode c_L_law 241 = .ok (.iadd, 1) := by decide +kernel
theorem d_L_law_242 : decode c_L_law 242 = .ok (.iaload, 1) := by decide +kernel
theorem d_L_law_243 : decode c_L_law 243 = .ok (.i2l, 1) := by decide +kernel
theorem d_L_law_244 : decode c_L_law 244 = .ok (.ldc2_w 62, 3) := by decide +kernel
theorem d_L_law_247 : decode c_L_law 247 = .ok (.land, 1) := by decide +kernel
theorem d_L_law_248 : decode c_L_law 248 = .ok (.lor, 1) := by decide +kernel
theorem d_L_law_249 : decode c_L_law 249 = .ok (.aload_n 0, 1) := by decide +kernel
theorem d_L_law_250 : decode c_L_law 250 = .ok (.iload 4, 2) := by decide +kernel
theorem d_L_law_252 : decode c_L_law 252 = .ok (.bipush 8, 2) := by decide +kernel
theorem d_L_law_254 : decode c_L_law 254 = .ok (.iadd, 1) := by decide +kernel
theorem d_L_law_255 : decode c_L_law 255 = .ok (.iaload, 1) := by decide +kernel
theorem d_L_law_256 : decode c_L_law 256 = .ok (.i2l, 1) := by decide +kernel
theorem d_L_law_257 : decode c_L_law 257 = .ok (.bipush 32, 2) := by decide +kernel
theorem d_L_law_259 : decode c_L_law 259 = .ok (.lshl, 1) := by decide +kernel
theorem d_L_law_260 : decode c_L_law 260 = .ok (.aload_n 0, 1) := by decide +kernel
theorem d_L_law_261 : decode c_L_law 261 = .ok (.iload 4, 2) := by decide +kernel
theorem d_L_law_263 : decode c_L_law 263 = .ok (.bipush 9, 2) := by decide +kernel
theorem d_L_law_265 : decode c_L_law 265 = .ok (.iadd, 1) := by decide +kernel
theorem d_L_law_266 : decode c_L_law 266 = .ok (.iaload, 1) := by decide +kernel
theorem d_L_law_267 : decode c_L_law 267 = .ok (.i2l, 1) := by decide +kernel
theorem d_L_law_268 : decode c_L_law 268 = .ok (.ldc2_w 62, 3) := by decide +kernel
theorem d_L_law_271 : decode c_L_law 271 = .ok (.land, 1) := by decide +kernel
theorem d_L_law_272 : decode c_L_law 272 = .ok (.lor, 1) := by decide +kernel
theorem d_L_law_273 : decode c_L_law 273 = .ok (.aload_n 3, 1) := by decide +kernel
theorem d_L_law_274 : decode c_L_law 274 = .ok (.invokestatic 64, 3) := by decide +kernel
theorem d_L_law_277 : decode c_L_law 277 = .ok (.istore 5, 2) := by decide +kernel
theorem d_L_law_279 : decode c_L_law 279 = .ok (.aload_n 2, 1) := by decide +kernel
theorem d_L_law_280 : decode c_L_law 280 = .ok (.aload_n 0, 1) := by decide +kernel
theorem d_L_law_281 : decode c_L_law 281 = .ok (.iload 4, 2) := by decide +kernel
theorem d_L_law_283 : decode c_L_law 283 = .ok (.iconst 1, 1) := by decide +kernel
theorem d_L_law_284 : decode c_L_law 284 = .ok (.iadd, 1) := by decide +kernel
theorem d_L_law_285 : decode c_L_law 285 = .ok (.iaload, 1) := by decide +kernel
theorem d_L_law_286 : decode c_L_law 286 = .ok (.aload_n 0, 1) := by decide +kernel
theorem d_L_law_287 : decode c_L_law 287 = .ok (.iload 4, 2) := by decide +kernel
theorem d_L_law_289 : decode c_L_law 289 = .ok (.iconst 2, 1) := by decide +kernel
theorem d_L_law_290 : decode c_L_law 290 = .ok (.iadd, 1) := by decide +kernel
theorem d_L_law_291 : decode c_L_law 291 = .ok (.iaload, 1) := by decide +kernel
theorem d_L_law_292 : decode c_L_law 292 = .ok (.aload_n 0, 1) := by decide +kernel
theorem d_L_law_293 : decode c_L_law 293 = .ok (.iload 4, 2) := by decide +kernel
theorem d_L_law_295 : decode c_L_law 295 = .ok (.iconst 3, 1) := by decide +kernel
theorem d_L_law_296 : decode c_L_law 296 = .ok (.iadd, 1) := by decide +kernel
theorem d_L_law_297 : decode c_L_law 297 = .ok (.iaload, 1) := by decide +kernel
theorem d_L_law_298 : decode c_L_law 298 = .ok (.aload_n 0, 1) := by decide +kernel
theorem d_L_law_299 : decode c_L_law 299 = .ok (.iload 4, 2) := by decide +kernel
theorem d_L_law_301 : decode c_L_law 301 = .ok (.iconst 4, 1) := by decide +kernel
theorem d_L_law_302 : decode c_L_law 302 = .ok (.iadd, 1) := by decide +kernel
theorem d_L_law_303 : decode c_L_law 303 = .ok (.iaload, 1) := by decide +kernel
theorem d_L_law_304 : decode c_L_law 304 = .ok (.i2l, 1) := by decide +kernel
theorem d_L_law_305 : decode c_L_law 305 = .ok (.bipush 32, 2) := by decide +kernel
theorem d_L_law_307 : decode c_L_law 307 = .ok (.lshl, 1) := by decide +kernel
theorem d_L_law_308 : decode c_L_law 308 = .ok (.aload_n 0, 1) := by decide +kernel
theorem d_L_law_309 : decode c_L_law 309 = .ok (.iload 4, 2) := by decide +kernel
theorem d_L_law_311 : decode c_L_law 311 = .ok (.iconst 5, 1) := by decide +kernel
theorem d_L_law_312 : decode c_L_law 312 = .ok (.iadd, 1) := by decide +kernel
theorem d_L_law_313 : decode c_L_law 313 = .ok (.iaload, 1) := by decide +kernel
theorem d_L_law_314 : decode c_L_law 314 = .ok (.i2l, 1) := by decide +kernel
theorem d_L_law_315 : decode c_L_law 315 = .ok (.ldc2_w 62, 3) := by decide +kernel
theorem d_L_law_318 : decode c_L_law 318 = .ok (.land, 1) := by decide +kernel
theorem d_L_law_319 : decode c_L_law 319 = .ok (.lor, 1) := by decide +kernel
theorem d_L_law_320 : decode c_L_law 320 = .ok (.aload_n 0, 1) := by decide +kernel
theorem d_L_law_321 : decode c_L_law 321 = .ok (.iload 4, 2) := by decide +kernel
theorem d_L_law_323 : decode c_L_law 323 = .ok (.bipush 6, 2) := by decide +kernel
theorem d_L_law_325 : decode c_L_law 325 = .ok (.iadd, 1) := by decide +kernel
theorem d_L_law_326 : decode c_L_law 326 = .ok (.iaload, 1) := by decide +kernel
theorem d_L_law_327 : decode c_L_law 327 = .ok (.i2l, 1) := by decide +kernel
theorem d_L_law_328 : decode c_L_law 328 = .ok (.bipush 32, 2) := by decide +kernel
theorem d_L_law_330 : decode c_L_law 330 = .ok (.lshl, 1) := by decide +kernel
theorem d_L_law_331 : decode c_L_law 331 = .ok (.aload_n 0, 1) := by decide +kernel
theorem d_L_law_332 : decode c_L_law 332 = .ok (.iload 4, 2) := by decide +kernel
theorem d_L_law_334 : decode c_L_law 334 = .ok (.bipush 7, 2) := by decide +kernel
theorem d_L_law_336 : decode c_L_law 336 = .ok (.iadd, 1) := by decide +kernel
theorem d_L_law_337 : decode c_L_law 337 = .ok (.iaload, 1) := by decide +kernel
theorem d_L_law_338 : decode c_L_law 338 = .ok (.i2l, 1) := by decide +kernel
theorem d_L_law_339 : decode c_L_law 339 = .ok (.ldc2_w 62, 3) := by decide +kernel
theorem d_L_law_342 : decode c_L_law 342 = .ok (.land, 1) := by decide +kernel
theorem d_L_law_343 : decode c_L_law 343 = .ok (.lor, 1) := by decide +kernel
theorem d_L_law_344 : decode c_L_law 344 = .ok (.aload_n 0, 1) := by decide +kernel
theorem d_L_law_345 : decode c_L_law 345 = .ok (.iload 4, 2) := by decide +kernel
theorem d_L_law_347 : decode c_L_law 347 = .ok (.bipush 8, 2) := by decide +kernel
theorem d_L_law_349 : decode c_L_law 349 = .ok (.iadd, 1) := by decide +kernel
theorem d_L_law_350 : decode c_L_law 350 = .ok (.iaload, 1) := by decide +kernel
theorem d_L_law_351 : decode c_L_law 351 = .ok (.i2l, 1) := by decide +kernel
theorem d_L_law_352 : decode c_L_law 352 = .ok (.bipush 32, 2) := by decide +kernel
theorem d_L_law_354 : decode c_L_law 354 = .ok (.lshl, 1) := by decide +kernel
theorem d_L_law_355 : decode c_L_law 355 = .ok (.aload_n 0, 1) := by decide +kernel
theorem d_L_law_356 : decode c_L_law 356 = .ok (.iload 4, 2) := by decide +kernel
theorem d_L_law_358 : decode c_L_law 358 = .ok (.bipush 9, 2) := by decide +kernel
theorem d_L_law_360 : decode c_L_law 360 = .ok (.iadd, 1) := by decide +kernel
theorem d_L_law_361 : decode c_L_law 361 = .ok (.iaload, 1) := by decide +kernel
theorem d_L_law_362 : decode c_L_law 362 = .ok (.i2l, 1) := by decide +kernel
theorem d_L_law_363 : decode c_L_law 363 = .ok (.ldc2_w 62, 3) := by decide +kernel
theorem d_L_law_366 : decode c_L_law 366 = .ok (.land, 1) := by decide +kernel
theorem d_L_law_367 : decode c_L_law 367 = .ok (.lor, 1) := by decide +kernel
theorem d_L_law_368 : decode c_L_law 368 = .ok (.invokevirtual 67, 3) := by decide +kernel
theorem d_L_law_371 : decode c_L_law 371 = .ok (.istore 6, 2) := by decide +kernel
theorem d_L_law_373 : decode c_L_law 373 = .ok (.aload_n 2, 1) := by decide +kernel
theorem d_L_law_374 : decode c_L_law 374 = .ok (.invokevirtual 59, 3) := by decide +kernel
theorem d_L_law_377 : decode c_L_law 377 = .ok (.iload 5, 2) := by decide +kernel
theorem d_L_law_379 : decode c_L_law 379 = .ok (.if_icmp .eq 5, 3) := by decide +kernel
theorem d_L_law_382 : decode c_L_law 382 = .ok (.iconst 0, 1) := by decide +kernel
theorem d_L_law_383 : decode c_L_law 383 = .ok (.ireturn, 1) := by decide +kernel
theorem d_L_law_384 : decode c_L_law 384 = .ok (.iload 5, 2) := by decide +kernel
theorem d_L_law_386 : decode c_L_law 386 = .ok (.ifCond .ne 15, 3) := by decide +kernel
theorem d_L_law_389 : decode c_L_law 389 = .ok (.aload_n 3, 1) := by decide +kernel
theorem d_L_law_390 : decode c_L_law 390 = .ok (.iconst 0, 1) := by decide +kernel
theorem d_L_law_391 : decode c_L_law 391 = .ok (.laload, 1) := by decide +kernel
theorem d_L_law_392 : decode c_L_law 392 = .ok (.iload 6, 2) := by decide +kernel
theorem d_L_law_394 : decode c_L_law 394 = .ok (.i2l, 1) := by decide +kernel
theorem d_L_law_395 : decode c_L_law 395 = .ok (.lcmp, 1) := by decide +kernel
theorem d_L_law_396 : decode c_L_law 396 = .ok (.ifCond .eq 5, 3) := by decide +kernel
theorem d_L_law_399 : decode c_L_law 399 = .ok (.iconst 0, 1) := by decide +kernel
theorem d_L_law_400 : decode c_L_law 400 = .ok (.ireturn, 1) := by decide +kernel
theorem d_L_law_401 : decode c_L_law 401 = .ok (.goto 537, 3) := by decide +kernel
theorem d_L_law_404 : decode c_L_law 404 = .ok (.aload_n 1, 1) := by decide +kernel
theorem d_L_law_405 : decode c_L_law 405 = .ok (.aload_n 0, 1) := by decide +kernel
theorem d_L_law_406 : decode c_L_law 406 = .ok (.iload 4, 2) := by decide +kernel
theorem d_L_law_408 : decode c_L_law 408 = .ok (.iconst 1, 1) := by decide +kernel
theorem d_L_law_409 : decode c_L_law 409 = .ok (.iadd, 1) := by decide +kernel
theorem d_L_law_410 : decode c_L_law 410 = .ok (.iaload, 1) := by decide +kernel
theorem d_L_law_411 : decode c_L_law 411 = .ok (.aload_n 3, 1) := by decide +kernel
theorem d_L_law_412 : decode c_L_law 412 = .ok (.invokestatic 68, 3) := by decide +kernel
theorem d_L_law_415 : decode c_L_law 415 = .ok (.istore 5, 2) := by decide +kernel
theorem d_L_law_417 : decode c_L_law 417 = .ok (.aload_n 2, 1) := by decide +kernel
theorem d_L_law_418 : decode c_L_law 418 = .ok (.aload_n 0, 1) := by decide +kernel
theorem d_L_law_419 : decode c_L_law 419 = .ok (.iload 4, 2) := by decide +kernel
theorem d_L_law_421 : decode c_L_law 421 = .ok (.iconst 1, 1) := by decide +kernel
theorem d_L_law_422 : decode c_L_law 422 = .ok (.iadd, 1) := by decide +kernel
theorem d_L_law_423 : decode c_L_law 423 = .ok (.iaload, 1) := by decide +kernel
theorem d_L_law_424 : decode c_L_law 424 = .ok (.invokevirtual 71, 3) := by decide +kernel
theorem d_L_law_427 : decode c_L_law 427 = .ok (.istore 6, 2) := by decide +kernel
theorem d_L_law_429 : decode c_L_law 429 = .ok (.aload_n 2, 1) := by decide +kernel
theorem d_L_law_430 : decode c_L_law 430 = .ok (.invokevirtual 59, 3) := by decide +kernel
theorem d_L_law_433 : decode c_L_law 433 = .ok (.iload 5, 2) := by decide +kernel
theorem d_L_law_435 : decode c_L_law 435 = .ok (.if_icmp .eq 5, 3) := by decide +kernel
theorem d_L_law_438 : decode c_L_law 438 = .ok (.iconst 0, 1) := by decide +kernel
theorem d_L_law_439 : decode c_L_law 439 = .ok (.ireturn, 1) := by decide +kernel
theorem d_L_law_440 : decode c_L_law 440 = .ok (.iload 5, 2) := by decide +kernel
theorem d_L_law_442 : decode c_L_law 442 = .ok (.ifCond .ne 15, 3) := by decide +kernel
theorem d_L_law_445 : decode c_L_law 445 = .ok (.aload_n 3, 1) := by decide +kernel
theorem d_L_law_446 : decode c_L_law 446 = .ok (.iconst 0, 1) := by decide +kernel
theorem d_L_law_447 : decode c_L_law 447 = .ok (.laload, 1) := by decide +kernel
theorem d_L_law_448 : decode c_L_law 448 = .ok (.iload 6, 2) := by decide +kernel
theorem d_L_law_450 : decode c_L_law 450 = .ok (.i2l, 1) := by decide +kernel
theorem d_L_law_451 : decode c_L_law 451 = .ok (.lcmp, 1) := by decide +kernel
theorem d_L_law_452 : decode c_L_law 452 = .ok (.ifCond .eq 5, 3) := by decide +kernel
theorem d_L_law_455 : decode c_L_law 455 = .ok (.iconst 0, 1) := by decide +kernel
theorem d_L_law_456 : decode c_L_law 456 = .ok (.ireturn, 1) := by decide +kernel
theorem d_L_law_457 : decode c_L_law 457 = .ok (.goto 481, 3) := by decide +kernel
theorem d_L_law_460 : decode c_L_law 460 = .ok (.aload_n 1, 1) := by decide +kernel
theorem d_L_law_461 : decode c_L_law 461 = .ok (.aload_n 0, 1) := by decide +kernel
theorem d_L_law_462 : decode c_L_law 462 = .ok (.iload 4, 2) := by decide +kernel
theorem d_L_law_464 : decode c_L_law 464 = .ok (.iconst 1, 1) := by decide +kernel
theorem d_L_law_465 : decode c_L_law 465 = .ok (.iadd, 1) := by decide +kernel
theorem d_L_law_466 : decode c_L_law 466 = .ok (.iaload, 1) := by decide +kernel
theorem d_L_law_467 : decode c_L_law 467 = .ok (.invokestatic 72, 3) := by decide +kernel
theorem d_L_law_470 : decode c_L_law 470 = .ok (.istore 5, 2) := by decide +kernel
theorem d_L_law_472 : decode c_L_law 472 = .ok (.aload_n 2, 1) := by decide +kernel
theorem d_L_law_473 : decode c_L_law 473 = .ok (.aload_n 0, 1) := by decide +kernel
theorem d_L_law_474 : decode c_L_law 474 = .ok (.iload 4, 2) := by decide +kernel
theorem d_L_law_476 : decode c_L_law 476 = .ok (.iconst 1, 1) := by decide +kernel
theorem d_L_law_477 : decode c_L_law 477 = .ok (.iadd, 1) := by decide +kernel
theorem d_L_law_478 : decode c_L_law 478 = .ok (.iaload, 1) := by decide +kernel
theorem d_L_law_479 : decode c_L_law 479 = .ok (.invokevirtual 75, 3) := by decide +kernel
theorem d_L_law_482 : decode c_L_law 482 = .ok (.aload_n 2, 1) := by decide +kernel
theorem d_L_law_483 : decode c_L_law 483 = .ok (.invokevirtual 59, 3) := by decide +kernel
theorem d_L_law_486 : decode c_L_law 486 = .ok (.iload 5, 2) := by decide +kernel
theorem d_L_law_488 : decode c_L_law 488 = .ok (.if_icmp .eq 5, 3) := by decide +kernel
theorem d_L_law_491 : decode c_L_law 491 = .ok (.iconst 0, 1) := by decide +kernel
theorem d_L_law_492 : decode c_L_law 492 = .ok (.ireturn, 1) := by decide +kernel
theorem d_L_law_493 : decode c_L_law 493 = .ok (.goto 445, 3) := by decide +kernel
theorem d_L_law_496 : decode c_L_law 496 = .ok (.aload_n 1, 1) := by decide +kernel
theorem d_L_law_497 : decode c_L_law 497 = .ok (.aload_n 0, 1) := by decide +kernel
theorem d_L_law_498 : decode c_L_law 498 = .ok (.iload 4, 2) := by decide +kernel
theorem d_L_law_500 : decode c_L_law 500 = .ok (.iconst 1, 1) := by decide +kernel
theorem d_L_law_501 : decode c_L_law 501 = .ok (.iadd, 1) := by decide +kernel
theorem d_L_law_502 : decode c_L_law 502 = .ok (.iaload, 1) := by decide +kernel
theorem d_L_law_503 : decode c_L_law 503 = .ok (.aload_n 3, 1) := by decide +kernel
theorem d_L_law_504 : decode c_L_law 504 = .ok (.invokestatic 76, 3) := by decide +kernel
theorem d_L_law_507 : decode c_L_law 507 = .ok (.istore 5, 2) := by decide +kernel
theorem d_L_law_509 : decode c_L_law 509 = .ok (.aload_n 2, 1) := by decide +kernel
theorem d_L_law_510 : decode c_L_law 510 = .ok (.aload_n 0, 1) := by decide +kernel
theorem d_L_law_511 : decode c_L_law 511 = .ok (.iload 4, 2) := by decide +kernel
theorem d_L_law_513 : decode c_L_law 513 = .ok (.iconst 1, 1) := by decide +kernel
theorem d_L_law_514 : decode c_L_law 514 = .ok (.iadd, 1) := by decide +kernel
theorem d_L_law_515 : decode c_L_law 515 = .ok (.iaload, 1) := by decide +kernel
theorem d_L_law_516 : decode c_L_law 516 = .ok (.invokevirtual 78, 3) := by decide +kernel
theorem d_L_law_519 : decode c_L_law 519 = .ok (.istore 6, 2) := by decide +kernel
theorem d_L_law_521 : decode c_L_law 521 = .ok (.aload_n 2, 1) := by decide +kernel
theorem d_L_law_522 : decode c_L_law 522 = .ok (.invokevirtual 59, 3) := by decide +kernel
theorem d_L_law_525 : decode c_L_law 525 = .ok (.iload 5, 2) := by decide +kernel
theorem d_L_law_527 : decode c_L_law 527 = .ok (.if_icmp .eq 5, 3) := by decide +kernel
theorem d_L_law_530 : decode c_L_law 530 = .ok (.iconst 0, 1) := by decide +kernel
theorem d_L_law_531 : decode c_L_law 531 = .ok (.ireturn, 1) := by decide +kernel
theorem d_L_law_532 : decode c_L_law 532 = .ok (.iload 5, 2) := by decide +kernel
theorem d_L_law_534 : decode c_L_law 534 = .ok (.ifCond .ne 22, 3) := by decide +kernel
theorem d_L_law_537 : decode c_L_law 537 = .ok (.aload_n 3, 1) := by decide +kernel
theorem d_L_law_538 : decode c_L_law 538 = .ok (.iconst 0, 1) := by decide +kernel
theorem d_L_law_539 : decode c_L_law 539 = .ok (.laload, 1) := by decide +kernel
theorem d_L_law_540 : decode c_L_law 540 = .ok (.iload 6, 2) := by decide +kernel
theorem d_L_law_542 : decode c_L_law 542 = .ok (.ifCond .eq 7, 3) := by decide +kernel
theorem d_L_law_545 : decode c_L_law 545 = .ok (.lconst 1, 1) := by decide +kernel
theorem d_L_law_546 : decode c_L_law 546 = .ok (.goto 4, 3) := by decide +kernel
theorem d_L_law_549 : decode c_L_law 549 = .ok (.lconst 0, 1) := by decide +kernel
theorem d_L_law_550 : decode c_L_law 550 = .ok (.lcmp, 1) := by decide +kernel
theorem d_L_law_551 : decode c_L_law 551 = .ok (.ifCond .eq 5, 3) := by decide +kernel
theorem d_L_law_554 : decode c_L_law 554 = .ok (.iconst 0, 1) := by decide +kernel
theorem d_L_law_555 : decode c_L_law 555 = .ok (.ireturn, 1) := by decide +kernel
theorem d_L_law_556 : decode c_L_law 556 = .ok (.goto 382, 3) := by decide +kernel
theorem d_L_law_559 : decode c_L_law 559 = .ok (.aload_n 1, 1) := by decide +kernel
theorem d_L_law_560 : decode c_L_law 560 = .ok (.aload_n 3, 1) := by decide +kernel
theorem d_L_law_561 : decode c_L_law 561 = .ok (.invokestatic 79, 3) := by decide +kernel
theorem d_L_law_564 : decode c_L_law 564 = .ok (.istore 5, 2) := by decide +kernel
theorem d_L_law_566 : decode c_L_law 566 = .ok (.aload_n 2, 1) := by decide +kernel
theorem d_L_law_567 : decode c_L_law 567 = .ok (.invokevirtual 82, 3) := by decide +kernel
theorem d_L_law_570 : decode c_L_law 570 = .ok (.istore 6, 2) := by decide +kernel
theorem d_L_law_572 : decode c_L_law 572 = .ok (.aload_n 2, 1) := by decide +kernel
theorem d_L_law_573 : decode c_L_law 573 = .ok (.invokevirtual 59, 3) := by decide +kernel
theorem d_L_law_576 : decode c_L_law 576 = .ok (.iload 5, 2) := by decide +kernel
theorem d_L_law_578 : decode c_L_law 578 = .ok (.if_icmp .eq 5, 3) := by decide +kernel
theorem d_L_law_581 : decode c_L_law 581 = .ok (.iconst 0, 1) := by decide +kernel
theorem d_L_law_582 : decode c_L_law 582 = .ok (.ireturn, 1) := by decide +kernel
theorem d_L_law_583 : decode c_L_law 583 = .ok (.iload 5, 2) := by decide +kernel
theorem d_L_law_585 : decode c_L_law 585 = .ok (.ifCond .ne 15, 3) := by decide +kernel
theorem d_L_law_588 : decode c_L_law 588 = .ok (.aload_n 3, 1) := by decide +kernel
theorem d_L_law_589 : decode c_L_law 589 = .ok (.iconst 0, 1) := by decide +kernel
theorem d_L_law_590 : decode c_L_law 590 = .ok (.laload, 1) := by decide +kernel
theorem d_L_law_591 : decode c_L_law 591 = .ok (.iload 6, 2) := by decide +kernel
theorem d_L_law_593 : decode c_L_law 593 = .ok (.i2l, 1) := by decide +kernel
theorem d_L_law_594 : decode c_L_law 594 = .ok (.lcmp, 1) := by decide +kernel
theorem d_L_law_595 : decode c_L_law 595 = .ok (.ifCond .eq 5, 3) := by decide +kernel
theorem d_L_law_598 : decode c_L_law 598 = .ok (.iconst 0, 1) := by decide +kernel
theorem d_L_law_599 : decode c_L_law 599 = .ok (.ireturn, 1) := by decide +kernel
theorem d_L_law_600 : decode c_L_law 600 = .ok (.goto 338, 3) := by decide +kernel
theorem d_L_law_603 : decode c_L_law 603 = .ok (.aload_n 1, 1) := by decide +kernel
theorem d_L_law_604 : decode c_L_law 604 = .ok (.aload_n 0, 1) := by decide +kernel
theorem d_L_law_605 : decode c_L_law 605 = .ok (.iload 4, 2) := by decide +kernel
theorem d_L_law_607 : decode c_L_law 607 = .ok (.iconst 1, 1) := by decide +kernel
theorem d_L_law_608 : decode c_L_law 608 = .ok (.iadd, 1) := by decide +kernel
theorem d_L_law_609 : decode c_L_law 609 = .ok (.iaload, 1) := by decide +kernel
theorem d_L_law_610 : decode c_L_law 610 = .ok (.invokestatic 83, 3) := by decide +kernel
theorem d_L_law_613 : decode c_L_law 613 = .ok (.istore 5, 2) := by decide +kernel
theorem d_L_law_615 : decode c_L_law 615 = .ok (.aload_n 2, 1) := by decide +kernel
theorem d_L_law_616 : decode c_L_law 616 = .ok (.aload_n 0, 1) := by decide +kernel
theorem d_L_law_617 : decode c_L_law 617 = .ok (.iload 4, 2) := by decide +kernel
theorem d_L_law_619 : decode c_L_law 619 = .ok (.iconst 1, 1) := by decide +kernel
theorem d_L_law_620 : decode c_L_law 620 = .ok (.iadd, 1) := by decide +kernel
theorem d_L_law_621 : decode c_L_law 621 = .ok (.iaload, 1) := by decide +kernel
theorem d_L_law_622 : decode c_L_law 622 = .ok (.invokevirtual 85, 3) := by decide +kernel
theorem d_L_law_625 : decode c_L_law 625 = .ok (.aload_n 2, 1) := by decide +kernel
theorem d_L_law_626 : decode c_L_law 626 = .ok (.invokevirtual 59, 3) := by decide +kernel
theorem d_L_law_629 : decode c_L_law 629 = .ok (.iload 5, 2) := by decide +kernel
theorem d_L_law_631 : decode c_L_law 631 = .ok (.if_icmp .eq 5, 3) := by decide +kernel
theorem d_L_law_634 : decode c_L_law 634 = .ok (.iconst 0, 1) := by decide +kernel
theorem d_L_law_635 : decode c_L_law 635 = .ok (.ireturn, 1) := by decide +kernel
theorem d_L_law_636 : decode c_L_law 636 = .ok (.goto 302, 3) := by decide +kernel
theorem d_L_law_639 : decode c_L_law 639 = .ok (.aload_n 1, 1) := by decide +kernel
theorem d_L_law_640 : decode c_L_law 640 = .ok (.invokevirtual 86, 3) := by decide +kernel
theorem d_L_law_643 : decode c_L_law 643 = .ok (.aload_n 2, 1) := by decide +kernel
theorem d_L_law_644 : decode c_L_law 644 = .ok (.invokevirtual 90, 3) := by decide +kernel
theorem d_L_law_647 : decode c_L_law 647 = .ok (.if_icmp .eq 291, 3) := by decide +kernel
theorem d_L_law_650 : decode c_L_law 650 = .ok (.iconst 0, 1) := by decide +kernel
theorem d_L_law_651 : decode c_L_law 651 = .ok (.ireturn, 1) := by decide +kernel
theorem d_L_law_652 : decode c_L_law 652 = .ok (.aload_n 1, 1) := by decide +kernel
theorem d_L_law_653 : decode c_L_law 653 = .ok (.aload_n 0, 1) := by decide +kernel
theorem d_L_law_654 : decode c_L_law 654 = .ok (.iload 4, 2) := by decide +kernel
theorem d_L_law_656 : decode c_L_law 656 = .ok (.iconst 1, 1) := by decide +kernel
theorem d_L_law_657 : decode c_L_law 657 = .ok (.iadd, 1) := by decide +kernel
theorem d_L_law_658 : decode c_L_law 658 = .ok (.iaload, 1) := by decide +kernel
theorem d_L_law_659 : decode c_L_law 659 = .ok (.aload_n 0, 1) := by decide +kernel
theorem d_L_law_660 : decode c_L_law 660 = .ok (.iload 4, 2) := by decide +kernel
theorem d_L_law_662 : decode c_L_law 662 = .ok (.iconst 2, 1) := by decide +kernel
theorem d_L_law_663 : decode c_L_law 663 = .ok (.iadd, 1) := by decide +kernel
theorem d_L_law_664 : decode c_L_law 664 = .ok (.iaload, 1) := by decide +kernel
theorem d_L_law_665 : decode c_L_law 665 = .ok (.invokevirtual 91, 3) := by decide +kernel
theorem d_L_law_668 : decode c_L_law 668 = .ok (.aload_n 2, 1) := by decide +kernel
theorem d_L_law_669 : decode c_L_law 669 = .ok (.aload_n 0, 1) := by decide +kernel
theorem d_L_law_670 : decode c_L_law 670 = .ok (.iload 4, 2) := by decide +kernel
theorem d_L_law_672 : decode c_L_law 672 = .ok (.iconst 1, 1) := by decide +kernel
theorem d_L_law_673 : decode c_L_law 673 = .ok (.iadd, 1) := by decide +kernel
theorem d_L_law_674 : decode c_L_law 674 = .ok (.iaload, 1) := by decide +kernel
theorem d_L_law_675 : decode c_L_law 675 = .ok (.aload_n 0, 1) := by decide +kernel
theorem d_L_law_676 : decode c_L_law 676 = .ok (.iload 4, 2) := by decide +kernel
theorem d_L_law_678 : decode c_L_law 678 = .ok (.iconst 2, 1) := by decide +kernel
theorem d_L_law_679 : decode c_L_law 679 = .ok (.iadd, 1) := by decide +kernel
theorem d_L_law_680 : decode c_L_law 680 = .ok (.iaload, 1) := by decide +kernel
theorem d_L_law_681 : decode c_L_law 681 = .ok (.invokevirtual 94, 3) := by decide +kernel
theorem d_L_law_684 : decode c_L_law 684 = .ok (.if_icmp .eq 254, 3) := by decide +kernel
theorem d_L_law_687 : decode c_L_law 687 = .ok (.iconst 0, 1) := by decide +kernel
theorem d_L_law_688 : decode c_L_law 688 = .ok (.ireturn, 1) := by decide +kernel
theorem d_L_law_689 : decode c_L_law 689 = .ok (.aload_n 1, 1) := by decide +kernel
theorem d_L_law_690 : decode c_L_law 690 = .ok (.aload_n 0, 1) := by decide +kernel
theorem d_L_law_691 : decode c_L_law 691 = .ok (.iload 4, 2) := by decide +kernel
theorem d_L_law_693 : decode c_L_law 693 = .ok (.iconst 1, 1) := by decide +kernel
theorem d_L_law_694 : decode c_L_law 694 = .ok (.iadd, 1) := by decide +kernel
theorem d_L_law_695 : decode c_L_law 695 = .ok (.iaload, 1) := by decide +kernel
theorem d_L_law_696 : decode c_L_law 696 = .ok (.invokevirtual 95, 3) := by decide +kernel
theorem d_L_law_699 : decode c_L_law 699 = .ok (.aload_n 2, 1) := by decide +kernel
theorem d_L_law_700 : decode c_L_law 700 = .ok (.aload_n 0, 1) := by decide +kernel
theorem d_L_law_701 : decode c_L_law 701 = .ok (.iload 4, 2) := by decide +kernel
theorem d_L_law_703 : decode c_L_law 703 = .ok (.iconst 1, 1) := by decide +kernel
theorem d_L_law_704 : decode c_L_law 704 = .ok (.iadd, 1) := by decide +kernel
theorem d_L_law_705 : decode c_L_law 705 = .ok (.iaload, 1) := by decide +kernel
theorem d_L_law_706 : decode c_L_law 706 = .ok (.invokevirtual 98, 3) := by decide +kernel
theorem d_L_law_709 : decode c_L_law 709 = .ok (.if_icmp .eq 229, 3) := by decide +kernel
theorem d_L_law_712 : decode c_L_law 712 = .ok (.iconst 0, 1) := by decide +kernel
theorem d_L_law_713 : decode c_L_law 713 = .ok (.ireturn, 1) := by decide +kernel
theorem d_L_law_714 : decode c_L_law 714 = .ok (.aload_n 1, 1) := by decide +kernel
theorem d_L_law_715 : decode c_L_law 715 = .ok (.aload_n 0, 1) := by decide +kernel
theorem d_L_law_716 : decode c_L_law 716 = .ok (.iload 4, 2) := by decide +kernel
theorem d_L_law_718 : decode c_L_law 718 = .ok (.iconst 1, 1) := by decide +kernel
theorem d_L_law_719 : decode c_L_law 719 = .ok (.iadd, 1) := by decide +kernel
theorem d_L_law_720 : decode c_L_law 720 = .ok (.iaload, 1) := by decide +kernel
theorem d_L_law_721 : decode c_L_law 721 = .ok (.aload_n 0, 1) := by decide +kernel
theorem d_L_law_722 : decode c_L_law 722 = .ok (.iload 4, 2) := by decide +kernel
theorem d_L_law_724 : decode c_L_law 724 = .ok (.iconst 2, 1) := by decide +kernel
theorem d_L_law_725 : decode c_L_law 725 = .ok (.iadd, 1) := by decide +kernel
theorem d_L_law_726 : decode c_L_law 726 = .ok (.iaload, 1) := by decide +kernel
theorem d_L_law_727 : decode c_L_law 727 = .ok (.invokevirtual 99, 3) := by decide +kernel
theorem d_L_law_730 : decode c_L_law 730 = .ok (.aload_n 2, 1) := by decide +kernel
theorem d_L_law_731 : decode c_L_law 731 = .ok (.aload_n 0, 1) := by decide +kernel
theorem d_L_law_732 : decode c_L_law 732 = .ok (.iload 4, 2) := by decide +kernel
theorem d_L_law_734 : decode c_L_law 734 = .ok (.iconst 1, 1) := by decide +kernel
theorem d_L_law_735 : decode c_L_law 735 = .ok (.iadd, 1) := by decide +kernel
theorem d_L_law_736 : decode c_L_law 736 = .ok (.iaload, 1) := by decide +kernel
theorem d_L_law_737 : decode c_L_law 737 = .ok (.aload_n 0, 1) := by decide +kernel
theorem d_L_law_738 : decode c_L_law 738 = .ok (.iload 4, 2) := by decide +kernel
theorem d_L_law_740 : decode c_L_law 740 = .ok (.iconst 2, 1) := by decide +kernel
theorem d_L_law_741 : decode c_L_law 741 = .ok (.iadd, 1) := by decide +kernel
theorem d_L_law_742 : decode c_L_law 742 = .ok (.iaload, 1) := by decide +kernel
theorem d_L_law_743 : decode c_L_law 743 = .ok (.invokevirtual 102, 3) := by decide +kernel
theorem d_L_law_746 : decode c_L_law 746 = .ok (.if_icmp .eq 192, 3) := by decide +kernel
theorem d_L_law_749 : decode c_L_law 749 = .ok (.iconst 0, 1) := by decide +kernel
theorem d_L_law_750 : decode c_L_law 750 = .ok (.ireturn, 1) := by decide +kernel
theorem d_L_law_751 : decode c_L_law 751 = .ok (.aload_n 1, 1) := by decide +kernel
theorem d_L_law_752 : decode c_L_law 752 = .ok (.aload_n 0, 1) := by decide +kernel
theorem d_L_law_753 : decode c_L_law 753 = .ok (.iload 4, 2) := by decide +kernel
theorem d_L_law_755 : decode c_L_law 755 = .ok (.iconst 1, 1) := by decide +kernel
theorem d_L_law_756 : decode c_L_law 756 = .ok (.iadd, 1) := by decide +kernel
theorem d_L_law_757 : decode c_L_law 757 = .ok (.iaload, 1) := by decide +kernel
theorem d_L_law_758 : decode c_L_law 758 = .ok (.aload_n 0, 1) := by decide +kernel
theorem d_L_law_759 : decode c_L_law 759 = .ok (.iload 4, 2) := by decide +kernel
theorem d_L_law_761 : decode c_L_law 761 = .ok (.iconst 2, 1) := by decide +kernel
theorem d_L_law_762 : decode c_L_law 762 = .ok (.iadd, 1) := by decide +kernel
theorem d_L_law_763 : decode c_L_law 763 = .ok (.iaload, 1) := by decide +kernel
theorem d_L_law_764 : decode c_L_law 764 = .ok (.aload_n 3, 1) := by decide +kernel
theorem d_L_law_765 : decode c_L_law 765 = .ok (.invokestatic 103, 3) := by decide +kernel
theorem d_L_law_768 : decode c_L_law 768 = .ok (.istore 5, 2) := by decide +kernel
theorem d_L_law_770 : decode c_L_law 770 = .ok (.aload_n 2, 1) := by decide +kernel
theorem d_L_law_771 : decode c_L_law 771 = .ok (.aload_n 0, 1) := by decide +kernel
theorem d_L_law_772 : decode c_L_law 772 = .ok (.iload 4, 2) := by decide +kernel
theorem d_L_law_774 : decode c_L_law 774 = .ok (.iconst 1, 1) := by decide +kernel
theorem d_L_law_775 : decode c_L_law 775 = .ok (.iadd, 1) := by decide +kernel
theorem d_L_law_776 : decode c_L_law 776 = .ok (.iaload, 1) := by decide +kernel
theorem d_L_law_777 : decode c_L_law 777 = .ok (.aload_n 0, 1) := by decide +kernel
theorem d_L_law_778 : decode c_L_law 778 = .ok (.iload 4, 2) := by decide +kernel
theorem d_L_law_780 : decode c_L_law 780 = .ok (.iconst 2, 1) := by decide +kernel
theorem d_L_law_781 : decode c_L_law 781 = .ok (.iadd, 1) := by decide +kernel
theorem d_L_law_782 : decode c_L_law 782 = .ok (.iaload, 1) := by decide +kernel
theorem d_L_law_783 : decode c_L_law 783 = .ok (.invokevirtual 105, 3) := by decide +kernel
theorem d_L_law_786 : decode c_L_law 786 = .ok (.istore 6, 2) := by decide +kernel
theorem d_L_law_788 : decode c_L_law 788 = .ok (.aload_n 2, 1) := by decide +kernel
theorem d_L_law_789 : decode c_L_law 789 = .ok (.invokevirtual 59, 3) := by decide +kernel
theorem d_L_law_792 : decode c_L_law 792 = .ok (.iload 5, 2) := by decide +kernel
theorem d_L_law_794 : decode c_L_law 794 = .ok (.if_icmp .eq 5, 3) := by decide +kernel
theorem d_L_law_797 : decode c_L_law 797 = .ok (.iconst 0, 1) := by decide +kernel
theorem d_L_law_798 : decode c_L_law 798 = .ok (.ireturn, 1) := by decide +kernel
theorem d_L_law_799 : decode c_L_law 799 = .ok (.iload 5, 2) := by decide +kernel
theorem d_L_law_801 : decode c_L_law 801 = .ok (.ifCond .ne 15, 3) := by decide +kernel
theorem d_L_law_804 : decode c_L_law 804 = .ok (.aload_n 3, 1) := by decide +kernel
theorem d_L_law_805 : decode c_L_law 805 = .ok (.iconst 0, 1) := by decide +kernel
theorem d_L_law_806 : decode c_L_law 806 = .ok (.laload, 1) := by decide +kernel
theorem d_L_law_807 : decode c_L_law 807 = .ok (.iload 6, 2) := by decide +kernel
theorem d_L_law_809 : decode c_L_law 809 = .ok (.i2l, 1) := by decide +kernel
theorem d_L_law_810 : decode c_L_law 810 = .ok (.lcmp, 1) := by decide +kernel
theorem d_L_law_811 : decode c_L_law 811 = .ok (.ifCond .eq 5, 3) := by decide +kernel
theorem d_L_law_814 : decode c_L_law 814 = .ok (.iconst 0, 1) := by decide +kernel
theorem d_L_law_815 : decode c_L_law 815 = .ok (.ireturn, 1) := by decide +kernel
theorem d_L_law_816 : decode c_L_law 816 = .ok (.goto 122, 3) := by decide +kernel
theorem d_L_law_819 : decode c_L_law 819 = .ok (.aload_n 1, 1) := by decide +kernel
theorem d_L_law_820 : decode c_L_law 820 = .ok (.aload_n 0, 1) := by decide +kernel
theorem d_L_law_821 : decode c_L_law 821 = .ok (.iload 4, 2) := by decide +kernel
theorem d_L_law_823 : decode c_L_law 823 = .ok (.iconst 1, 1) := by decide +kernel
theorem d_L_law_824 : decode c_L_law 824 = .ok (.iadd, 1) := by decide +kernel
theorem d_L_law_825 : decode c_L_law 825 = .ok (.iaload, 1) := by decide +kernel
theorem d_L_law_826 : decode c_L_law 826 = .ok (.invokevirtual 106, 3) := by decide +kernel
theorem d_L_law_829 : decode c_L_law 829 = .ok (.aload_n 2, 1) := by decide +kernel
theorem d_L_law_830 : decode c_L_law 830 = .ok (.aload_n 0, 1) := by decide +kernel
theorem d_L_law_831 : decode c_L_law 831 = .ok (.iload 4, 2) := by decide +kernel
theorem d_L_law_833 : decode c_L_law 833 = .ok (.iconst 1, 1) := by decide +kernel
theorem d_L_law_834 : decode c_L_law 834 = .ok (.iadd, 1) := by decide +kernel
theorem d_L_law_835 : decode c_L_law 835 = .ok (.iaload, 1) := by decide +kernel
theorem d_L_law_836 : decode c_L_law 836 = .ok (.invokevirtual 109, 3) := by decide +kernel
theorem d_L_law_839 : decode c_L_law 839 = .ok (.if_icmp .eq 99, 3) := by decide +kernel
theorem d_L_law_842 : decode c_L_law 842 = .ok (.iconst 0, 1) := by decide +kernel
theorem d_L_law_843 : decode c_L_law 843 = .ok (.ireturn, 1) := by decide +kernel
theorem d_L_law_844 : decode c_L_law 844 = .ok (.aload_n 1, 1) := by decide +kernel
theorem d_L_law_845 : decode c_L_law 845 = .ok (.aload_n 0, 1) := by decide +kernel
theorem d_L_law_846 : decode c_L_law 846 = .ok (.iload 4, 2) := by decide +kernel
theorem d_L_law_848 : decode c_L_law 848 = .ok (.iconst 1, 1) := by decide +kernel
theorem d_L_law_849 : decode c_L_law 849 = .ok (.iadd, 1) := by decide +kernel
theorem d_L_law_850 : decode c_L_law 850 = .ok (.iaload, 1) := by decide +kernel
theorem d_L_law_851 : decode c_L_law 851 = .ok (.aload_n 0, 1) := by decide +kernel
theorem d_L_law_852 : decode c_L_law 852 = .ok (.iload 4, 2) := by decide +kernel
theorem d_L_law_854 : decode c_L_law 854 = .ok (.iconst 2, 1) := by decide +kernel
theorem d_L_law_855 : decode c_L_law 855 = .ok (.iadd, 1) := by decide +kernel
theorem d_L_law_856 : decode c_L_law 856 = .ok (.iaload, 1) := by decide +kernel
theorem d_L_law_857 : decode c_L_law 857 = .ok (.i2l, 1) := by decide +kernel
theorem d_L_law_858 : decode c_L_law 858 = .ok (.bipush 32, 2) := by decide +kernel
theorem d_L_law_860 : decode c_L_law 860 = .ok (.lshl, 1) := by decide +kernel
theorem d_L_law_861 : decode c_L_law 861 = .ok (.aload_n 0, 1) := by decide +kernel
theorem d_L_law_862 : decode c_L_law 862 = .ok (.iload 4, 2) := by decide +kernel
theorem d_L_law_864 : decode c_L_law 864 = .ok (.iconst 3, 1) := by decide +kernel
theorem d_L_law_865 : decode c_L_law 865 = .ok (.iadd, 1) := by decide +kernel
theorem d_L_law_866 : decode c_L_law 866 = .ok (.iaload, 1) := by decide +kernel
theorem d_L_law_867 : decode c_L_law 867 = .ok (.i2l, 1) := by decide +kernel
theorem d_L_law_868 : decode c_L_law 868 = .ok (.ldc2_w 62, 3) := by decide +kernel
theorem d_L_law_871 : decode c_L_law 871 = .ok (.land, 1) := by decide +kernel
theorem d_L_law_872 : decode c_L_law 872 = .ok (.lor, 1) := by decide +kernel
theorem d_L_law_873 : decode c_L_law 873 = .ok (.invokevirtual 110, 3) := by decide +kernel
theorem d_L_law_876 : decode c_L_law 876 = .ok (.aload_n 2, 1) := by decide +kernel
theorem d_L_law_877 : decode c_L_law 877 = .ok (.aload_n 0, 1) := by decide +kernel
theorem d_L_law_878 : decode c_L_law 878 = .ok (.iload 4, 2) := by decide +kernel
theorem d_L_law_880 : decode c_L_law 880 = .ok (.iconst 1, 1) := by decide +kernel
theorem d_L_law_881 : decode c_L_law 881 = .ok (.iadd, 1) := by decide +kernel
theorem d_L_law_882 : decode c_L_law 882 = .ok (.iaload, 1) := by decide +kernel
theorem d_L_law_883 : decode c_L_law 883 = .ok (.aload_n 0, 1) := by decide +kernel
theorem d_L_law_884 : decode c_L_law 884 = .ok (.iload 4, 2) := by decide +kernel
theorem d_L_law_886 : decode c_L_law 886 = .ok (.iconst 2, 1) := by decide +kernel
theorem d_L_law_887 : decode c_L_law 887 = .ok (.iadd, 1) := by decide +kernel
theorem d_L_law_888 : decode c_L_law 888 = .ok (.iaload, 1) := by decide +kernel
theorem d_L_law_889 : decode c_L_law 889 = .ok (.i2l, 1) := by decide +kernel
theorem d_L_law_890 : decode c_L_law 890 = .ok (.bipush 32, 2) := by decide +kernel
theorem d_L_law_892 : decode c_L_law 892 = .ok (.lshl, 1) := by decide +kernel
theorem d_L_law_893 : decode c_L_law 893 = .ok (.aload_n 0, 1) := by decide +kernel
theorem d_L_law_894 : decode c_L_law 894 = .ok (.iload 4, 2) := by decide +kernel
theorem d_L_law_896 : decode c_L_law 896 = .ok (.iconst 3, 1) := by decide +kernel
theorem d_L_law_897 : decode c_L_law 897 = .ok (.iadd, 1) := by decide +kernel
theorem d_L_law_898 : decode c_L_law 898 = .ok (.iaload, 1) := by decide +kernel
theorem d_L_law_899 : decode c_L_law 899 = .ok (.i2l, 1) := by decide +kernel
theorem d_L_law_900 : decode c_L_law 900 = .ok (.ldc2_w 62, 3) := by decide +kernel
theorem d_L_law_903 : decode c_L_law 903 = .ok (.land, 1) := by decide +kernel
theorem d_L_law_904 : decode c_L_law 904 = .ok (.lor, 1) := by decide +kernel
theorem d_L_law_905 : decode c_L_law 905 = .ok (.invokevirtual 114, 3) := by decide +kernel
theorem d_L_law_908 : decode c_L_law 908 = .ok (.if_icmp .eq 30, 3) := by decide +kernel
theorem d_L_law_911 : decode c_L_law 911 = .ok (.iconst 0, 1) := by decide +kernel
theorem d_L_law_912 : decode c_L_law 912 = .ok (.ireturn, 1) := by decide +kernel
theorem d_L_law_913 : decode c_L_law 913 = .ok (.aload_n 1, 1) := by decide +kernel
theorem d_L_law_914 : decode c_L_law 914 = .ok (.aload_n 0, 1) := by decide +kernel
theorem d_L_law_915 : decode c_L_law 915 = .ok (.iload 4, 2) := by decide +kernel
theorem d_L_law_917 : decode c_L_law 917 = .ok (.iconst 1, 1) := by decide +kernel
theorem d_L_law_918 : decode c_L_law 918 = .ok (.iadd, 1) := by decide +kernel
theorem d_L_law_919 : decode c_L_law 919 = .ok (.iaload, 1) := by decide +kernel
theorem d_L_law_920 : decode c_L_law 920 = .ok (.invokevirtual 115, 3) := by decide +kernel
theorem d_L_law_923 : decode c_L_law 923 = .ok (.aload_n 2, 1) := by decide +kernel
theorem d_L_law_924 : decode c_L_law 924 = .ok (.aload_n 0, 1) := by decide +kernel
theorem d_L_law_925 : decode c_L_law 925 = .ok (.iload 4, 2) := by decide +kernel
theorem d_L_law_927 : decode c_L_law 927 = .ok (.iconst 1, 1) := by decide +kernel
theorem d_L_law_928 : decode c_L_law 928 = .ok (.iadd, 1) := by decide +kernel
theorem d_L_law_929 : decode c_L_law 929 = .ok (.iaload, 1) := by decide +kernel
theorem d_L_law_930 : decode c_L_law 930 = .ok (.invokevirtual 118, 3) := by decide +kernel
theorem d_L_law_933 : decode c_L_law 933 = .ok (.if_icmp .eq 5, 3) := by decide +kernel
theorem d_L_law_936 : decode c_L_law 936 = .ok (.iconst 0, 1) := by decide +kernel
theorem d_L_law_937 : decode c_L_law 937 = .ok (.ireturn, 1) := by decide +kernel
theorem d_L_law_938 : decode c_L_law 938 = .ok (.iinc 4 10, 3) := by decide +kernel
theorem d_L_law_941 : decode c_L_law 941 = .ok (.goto (-918), 3) := by decide +kernel
theorem d_L_law_944 : decode c_L_law 944 = .ok (.iconst 1, 1) := by decide +kernel
theorem d_L_law_945 : decode c_L_law 945 = .ok (.ireturn, 1) := by decide +kernel
end
section
abbrev c_A_fill : ByteArray := prog_20_method_103_code
abbrev y_A_fill : MethodName := ⟨"java/util/Arrays", "fill", "([II)V"⟩
theorem i_A_fill : bIs y_A_fill 4 := Or.inl ⟨_, _, t1_223⟩
theorem d_A_fill_0 : decode c_A_fill 0 = .ok (.iconst 0, 1) := by decide +kernel
theorem d_A_fill_1 : decode c_A_fill 1 = .ok (.istore_n 2, 1) := by decide +kernel
theorem d_A_fill_2 : decode c_A_fill 2 = .ok (.aload_n 0, 1) := by decide +kernel
theorem d_A_fill_3 : decode c_A_fill 3 = .ok (.arraylength, 1) := by decide +kernel
theorem d_A_fill_4 : decode c_A_fill 4 = .ok (.istore_n 3, 1) := by decide +kernel
theorem d_A_fill_5 : decode c_A_fill 5 = .ok (.iload_n 2, 1) := by decide +kernel
theorem d_A_fill_6 : decode c_A_fill 6 = .ok (.iload_n 3, 1) := by decide +kernel
theorem d_A_fill_7 : decode c_A_fill 7 = .ok (.if_icmp .ge 13, 3) := by decide +kernel
theorem d_A_fill_10 : decode c_A_fill 10 = .ok (.aload_n 0, 1) := by decide +kernel
theorem d_A_fill_11 : decode c_A_fill 11 = .ok (.iload_n 2, 1) := by decide +kernel
theorem d_A_fill_12 : decode c_A_fill 12 = .ok (.iload_n 1, 1) := by decide +kernel
theorem d_A_fill_13 : decode c_A_fill 13 = .ok (.iastore, 1) := by decide +kernel
theorem d_A_fill_14 : decode c_A_fill 14 = .ok (.iinc 2 1, 3) := by decide +kernel
theorem d_A_fill_17 : decode c_A_fill 17 = .ok (.goto (-12), 3) := by decide +kernel
theorem d_A_fill_20 : decode c_A_fill 20 = .ok (.return_, 1) := by decide +kernel
end
section
section bR6
variable {p : Program} {l : Launch} {e : Env} {R : Room} {s : State} {m : MethodId} {args : Array Value} {below : List Frame} {meth : Method} {c : Code} {dd : bD} {A : Nat → Prop} {nL mc ms : Nat} {post : Option Value → (Nat → Nat) → (Nat → va_E) → Nat → Prop} {thr : String → (Nat → Nat) → (Nat → va_E) → Nat → Prop} {pc : Nat} {lo : Nat → Option Value} {rest : List Value} {ad : Nat → Nat} {w : Nat → va_E} {N cells slots : Nat} {cc : ByteArray} {own : String} {ret : Option FieldType} {hh : List (Nat × Nat × Nat × Nat)}
theorem bv_ifnonnull {x : Nat} {off : Int} (tgt : Nat) (C : bCx p R s m args meth c cc own nL ret hh dd A) (hdg : decode cc pc = .ok (.ifnonnull off, 3)) (ht : (pc : Int) + off = (tgt : Int)) (k : bV p l e R s m args below meth c dd A nL mc ms post thr tgt lo rest ad w N cells slots) : bV p l e R s m args below meth c dd A nL mc ms post thr pc lo (.ref x :: rest) ad w N cells slots :=
  fun H locs ls hL hP hD hS => lv_ifnonnull C.1 C.2.1 hdg ht (k H locs ls hL hP hD hS)
theorem bv_ifnonnullN {off : Int} (pc' : Nat) (hpc : pc + 3 = pc') (C : bCx p R s m args meth c cc own nL ret hh dd A) (hdg : decode cc pc = .ok (.ifnonnull off, 3)) (k : bV p l e R s m args below meth c dd A nL mc ms post thr pc' lo rest ad w N cells slots) : bV p l e R s m args below meth c dd A nL mc ms post thr pc lo (.null :: rest) ad w N cells slots := by
  subst hpc
  exact fun H locs ls hL hP hD hS => lv_ifnonnullN C.1 C.2.1 hdg (k H locs ls hL hP hD hS)
theorem bv_ifnull {x : Nat} {off : Int} (pc' : Nat) (hpc : pc + 3 = pc') (C : bCx p R s m args meth c cc own nL ret hh dd A) (hdg : decode cc pc = .ok (.ifnull off, 3)) (k : bV p l e R s m args below meth c dd A nL mc ms post thr pc' lo rest ad w N cells slots) : bV p l e R s m args below meth c dd A nL mc ms post thr pc lo (.ref x :: rest) ad w N cells slots := by
  subst hpc
  exact fun H locs ls hL hP hD hS => lv_ifnull C.1 C.2.1 hdg (k H locs ls hL hP hD hS)
theorem bv_ifnullN {off : Int} (tgt : Nat) (C : bCx p R s m args meth c cc own nL ret hh dd A) (hdg : decode cc pc = .ok (.ifnull off, 3)) (ht : (pc : Int) + off = (tgt : Int)) (k : bV p l e R s m args below meth c dd A nL mc ms post thr tgt lo rest ad w N cells slots) : bV p l e R s m args below meth c dd A nL mc ms post thr pc lo (.null :: rest) ad w N cells slots :=
  fun H locs ls hL hP hD hS => lv_ifnullN C.1 C.2.1 hdg ht (k H locs ls hL hP hD hS)
theorem bv_astore_nN {k : Fin 4} (pc' : Nat) (hpc : pc + 1 = pc') (C : bCx p R s m args meth c cc own nL ret hh dd A) (hdg : decode cc pc = .ok (.astore_n k, 1)) (hn : (k : Nat) < nL) (kk : bV p l e R s m args below meth c dd A nL mc ms post thr pc' (bU lo k .null) rest ad w N cells slots) : bV p l e R s m args below meth c dd A nL mc ms post thr pc lo (.null :: rest) ad w N cells slots := by
  subst hpc
  exact fun H locs ls hL hP hD hS => lv_astore_nN C.1 C.2.1 hdg rfl (bH.all hL) hn rfl (fun ls' h' => kk H locs ls' (bH.st1 hL h' (by rfl)) hP hD hS)
theorem bv_astoreN {i : Nat} (pc' : Nat) (hpc : pc + 2 = pc') (C : bCx p R s m args meth c cc own nL ret hh dd A) (hdg : decode cc pc = .ok (.astore i, 2)) (hn : i < nL) (kk : bV p l e R s m args below meth c dd A nL mc ms post thr pc' (bU lo i .null) rest ad w N cells slots) : bV p l e R s m args below meth c dd A nL mc ms post thr pc lo (.null :: rest) ad w N cells slots := by
  subst hpc
  exact fun H locs ls hL hP hD hS => lv_astoreN C.1 C.2.1 hdg (bH.all hL) hn rfl (fun ls' h' => kk H locs ls' (bH.st1 hL h' (by rfl)) hP hD hS)
theorem bv_tabIn {dflt a b : Int} {offs : Array Int} {len : Nat} {x : Int32} {off : Int} (tgt : Nat) (C : bCx p R s m args meth c cc own nL ret hh dd A) (hdg : decode cc pc = .ok (.tableswitch dflt a b offs, len)) (h1 : ¬ x.toInt < a) (h2 : ¬ b < x.toInt) (ho : offs[(x.toInt - a).toNat]? = some off) (ht : (pc : Int) + off = (tgt : Int)) (k : bV p l e R s m args below meth c dd A nL mc ms post thr tgt lo rest ad w N cells slots) : bV p l e R s m args below meth c dd A nL mc ms post thr pc lo (.int x :: rest) ad w N cells slots :=
  fun H locs ls hL hP hD hS => lv_tableIn C.1 C.2.1 hdg h1 h2 ho ht (k H locs ls hL hP hD hS)
theorem bv_tabOut {dflt a b : Int} {offs : Array Int} {len : Nat} {x : Int32} (tgt : Nat) (C : bCx p R s m args meth c cc own nL ret hh dd A) (hdg : decode cc pc = .ok (.tableswitch dflt a b offs, len)) (h : x.toInt < a ∨ b < x.toInt) (ht : (pc : Int) + dflt = (tgt : Int)) (k : bV p l e R s m args below meth c dd A nL mc ms post thr tgt lo rest ad w N cells slots) : bV p l e R s m args below meth c dd A nL mc ms post thr pc lo (.int x :: rest) ad w N cells slots :=
  fun H locs ls hL hP hD hS => lv_tableOut C.1 C.2.1 hdg h ht (k H locs ls hL hP hD hS)
end bR6
end
section
section bLeaf
variable {l : Launch} {dd : bD} {ad : Nat → Nat} {w : Nat → va_E} {N : Nat}
/-- what a method that changes nothing answers -/
abbrev bSame (ad : Nat → Nat) (w : Nat → va_E) (N : Nat) (r : Option Value → Prop) : Option Value → (Nat → Nat) → (Nat → va_E) → Nat → Prop := fun v ad' w' N' => ad = ad' ∧ w = w' ∧ N = N' ∧ r v
abbrev bNo : String → (Nat → Nat) → (Nat → va_E) → Nat → Prop := fun _ _ _ _ => False
/-- Chunk.isFree -/
theorem ct_K_isFree {k aa : Nat} {len : Int32} {by_ : Int64} (hk : k < N) (hw : w k = .inr (0, [.int len, .long by_, .ref aa])) : bK l dd y_K_isFree 0 0 0 0 [.ref (ad k)] ad w N (bSame ad w N (fun v => v = some (.int (if len = 0 then nI 1 else nI 0)))) bNo := by
  refine bK.start [(0, .ref (ad k))] (by decide) t1_216 (Nat.le_of_ble_eq_true rfl) rfl (fun p e s m args below meth c A hnm C => ?_)
  refine bv_aload_n 1 rfl C d_K_isFree_0 rfl ?_
  refine bv_get k 0 4 rfl C k_K hk rfl hw (by decide) t1_84 rfl d_K_isFree_1 ?_
  refine bv_if_ne 11 7 rfl C d_K_isFree_4 (by decide) (fun h => ?_) (fun h => ?_)
  · refine bv_iconst (v := nI 0) 12 rfl C d_K_isFree_11 (by decide) ?_
    exact bv_zreturn C rfl (Or.inl rfl) d_K_isFree_12 (Nat.le_refl _) (Nat.le_refl _) ⟨rfl, rfl, rfl, by rw [if_neg h]⟩
  · refine bv_iconst (v := nI 1) 8 rfl C d_K_isFree_7 (by decide) ?_
    refine bv_goto 12 C d_K_isFree_8 (by decide) ?_
    exact bv_zreturn C rfl (Or.inr rfl) d_K_isFree_12 (Nat.le_refl _) (Nat.le_refl _) ⟨rfl, rfl, rfl, by rw [if_pos h]⟩
/-- Chunk.free -/
theorem ct_K_free {k aa : Nat} {len : Int32} {by_ : Int64} (hk : k < N) (hw : w k = .inr (0, [.int len, .long by_, .ref aa])) : bK l dd y_K_free 0 0 0 0 [.ref (ad k)] ad w N (fun v ad' w' N' => ad = ad' ∧ w' = va_up w k (.inr (0, [.int (nI 0), .long by_, .ref aa])) ∧ N = N' ∧ v = none) bNo := by
  refine bK.start [(0, .ref (ad k))] (by decide) t3_52 (Nat.le_of_ble_eq_true rfl) rfl (fun p e s m args below meth c A hnm C => ?_)
  refine bv_aload_n 1 rfl C d_K_free_0 rfl ?_
  refine bv_iconst (v := nI 0) 2 rfl C d_K_free_1 (by decide) ?_
  refine bv_put k 0 5 rfl C k_K hk rfl hw (by decide) t1_84 rfl rfl rfl (Nat.le_of_ble_eq_true rfl) d_K_free_2 ?_
  exact bv_return C rfl d_K_free_5 (Nat.le_refl _) (Nat.le_refl _) ⟨rfl, rfl, rfl, rfl⟩
/-- Sha256.turnRight -/
theorem ct_H_turnRight {x n : Int32} : bK l dd y_H_turnRight 0 0 0 0 [.int x, .int n] ad w N (bSame ad w N (fun v => ∃ y : Int32, v = some (.int y))) bNo := by
  refine bK.start [(0, .int x), (1, .int n)] (by decide) t2_18 (Nat.le_of_ble_eq_true rfl) rfl (fun p e s m args below meth c A hnm C => ?_)
  refine bv_iload_n 1 rfl C d_H_turnRight_0 rfl ?_
  refine bv_iload_n 2 rfl C d_H_turnRight_1 rfl ?_
  refine bv_iushr 3 rfl C d_H_turnRight_2 rfl ?_
  refine bv_iload_n 4 rfl C d_H_turnRight_3 rfl ?_
  refine bv_bipush (v := nI 32) 6 rfl C d_H_turnRight_4 (by decide) ?_
  refine bv_iload_n 7 rfl C d_H_turnRight_6 rfl ?_
  refine bv_isub 8 rfl C d_H_turnRight_7 ?_
  refine bv_ishl 9 rfl C d_H_turnRight_8 ?_
  refine bv_ior 10 rfl C d_H_turnRight_9 ?_
  exact bv_ireturn C rfl d_H_turnRight_10 (Nat.le_refl _) (Nat.le_refl _) ⟨rfl, rfl, rfl, _, rfl⟩
end bLeaf
end
section
section bCtors
variable {l : Launch} {dd : bD} {ad : Nat → Nat} {w : Nat → va_E} {N : Nat}
theorem bu_two {w : Nat → va_E} {k N : Nat} {e1 e2 e3 : va_E} (h : k ≠ N) : va_up (va_up (va_up w k e1) N e2) k e3 = va_up (va_up w N e2) k e3 := by
  funext i
  by_cases hi : i = k
  · subst hi; simp [va_up]
  · simp [va_up, hi]
theorem bu_same {w : Nat → va_E} {k : Nat} {e1 e2 : va_E} : va_up (va_up w k e1) k e2 = va_up w k e2 := by
  funext i
  by_cases hi : i = k
  · subst hi; simp [va_up]
  · simp [va_up, hi]
/-- Power() -/
theorem ct_P_init {k a : Nat} {x y z : Int32} (hk : k < N) (ha : ad k = a) (hw : w k = .inr (1, [.int x, .int y, .int z])) : bK l dd y_P_init 1 12 0 0 [.ref a] ad w N (fun v ad' w' N' => v = none ∧ N = N' ∧ ad = ad' ∧ w' = va_up w k (.inr (1, [.int (nI 0), .int (-1), .int (nI 0)]))) bNo := by
  refine bK.start [(0, .ref a)] (by decide) t1_32 (Nat.le_of_ble_eq_true rfl) rfl (fun p e s m args below meth c A hnm C => ?_)
  refine bv_aload_n 1 rfl C d_P_init_0 rfl ?_
  refine bv_objInit 4 rfl C t1_33 t1_26 t1_27 (by decide) (by decide) d_P_init_1 ?_
  refine bv_aload_n 5 rfl C d_P_init_4 rfl ?_
  refine bv_iconst (v := nI 0) 6 rfl C d_P_init_5 (by decide) ?_
  refine bv_put k 0 9 rfl C k_P hk ha hw (by decide) t1_34 rfl rfl rfl (Nat.le_of_ble_eq_true rfl) d_P_init_6 ?_
  refine bv_aload_n 10 rfl C d_P_init_9 rfl ?_
  refine bv_iconst (v := -1) 11 rfl C d_P_init_10 (by decide) ?_
  refine bv_put k 1 14 rfl C k_P hk ha (va_up_self _ _ _) (by decide) t1_36 rfl rfl rfl (Nat.le_of_ble_eq_true rfl) d_P_init_11 ?_
  refine bv_aload_n 15 rfl C d_P_init_14 rfl ?_
  refine bv_iconst (v := nI 0) 16 rfl C d_P_init_15 (by decide) ?_
  refine bv_put k 2 19 rfl C k_P hk ha (va_up_self _ _ _) (by decide) t1_37 rfl rfl rfl (Nat.le_of_ble_eq_true rfl) d_P_init_16 ?_
  exact bv_return C rfl d_P_init_19 (Nat.le_refl _) (Nat.le_refl _) ⟨rfl, rfl, rfl, by rw [bu_same, bu_same]; rfl⟩
/-- Chunk() -/
theorem ct_K_init {k a : Nat} {x : Int32} {y : Int64} {z : Value} (hk : k < N) (ha : ad k = a) (hw : w k = .inr (0, [.int x, .long y, z])) : bK l dd y_K_init 1 12 1 8 [.ref a] ad w N (fun v ad' w' N' => v = none ∧ N' = N + 1 ∧ (∀ i, i < N → ad' i = ad i) ∧ w' = va_up (va_up w N (aI dd 8 (fun _ => 0))) k (.inr (0, [.int (nI 0), .long 0, .ref (ad' N)]))) bNo := by
  refine bK.start [(0, .ref a)] (by decide) t1_82 (Nat.le_of_ble_eq_true rfl) rfl (fun p e s m args below meth c A hnm C => ?_)
  refine bv_aload_n 1 rfl C d_K_init_0 rfl ?_
  refine bv_objInit 4 rfl C t1_83 t1_26 t1_27 (by decide) (by decide) d_K_init_1 ?_
  refine bv_aload_n 5 rfl C d_K_init_4 rfl ?_
  refine bv_iconst (v := nI 0) 6 rfl C d_K_init_5 (by decide) ?_
  refine bv_put k 0 9 rfl C k_K hk ha hw (by decide) t1_84 rfl rfl rfl (Nat.le_of_ble_eq_true rfl) d_K_init_6 ?_
  refine bv_aload_n 10 rfl C d_K_init_9 rfl ?_
  refine bv_lconst (v := 0) 11 rfl C d_K_init_10 (by decide) ?_
  refine bv_put k 1 14 rfl C k_K hk ha (va_up_self _ _ _) (by decide) t1_86 rfl rfl rfl (Nat.le_of_ble_eq_true rfl) d_K_init_11 ?_
  refine bv_aload_n 15 rfl C d_K_init_14 rfl ?_
  refine bv_bipush (v := nI 8) 17 rfl C d_K_init_15 (by decide) ?_
  refine bv_newa (atype := .int) (ty := .int) (a0 := (8, .inl (fun _ => 0))) 0 8 19 rfl C rfl rfl (by intro Cn h; cases h) t1_56 (fun cA => rfl) rfl (by decide) (by decide) (by decide) (by decide) d_K_init_17 (fun ad' had => ?_)
  refine bv_putF k 2 22 rfl C k_K (Nat.lt_succ_of_lt hk) ((had k hk).trans ha) (by rw [va_up_ne _ _ (Nat.ne_of_lt hk), va_up_self]) (by decide) t1_87 rfl hnm rfl rfl rfl (Nat.le_of_ble_eq_true rfl) d_K_init_19 ?_
  exact bv_return C rfl d_K_init_22 (Nat.le_refl _) (Nat.le_refl _) ⟨rfl, rfl, had, by rw [bu_same, bu_two (Nat.ne_of_lt hk)]; rfl⟩
/-- Sha256() -/
theorem ct_H_init {k a : Nat} {z : Value} (hk : k < N) (ha : ad k = a) (hw : w k = .inr (4, [z])) : bK l dd y_H_init 1 12 1 64 [.ref a] ad w N (fun v ad' w' N' => v = none ∧ N' = N + 1 ∧ (∀ i, i < N → ad' i = ad i) ∧ w' = va_up (va_up w N (aI dd 64 (fun _ => 0))) k (.inr (4, [.ref (ad' N)]))) bNo := by
  refine bK.start [(0, .ref a)] (by decide) t1_50 (Nat.le_of_ble_eq_true rfl) rfl (fun p e s m args below meth c A hnm C => ?_)
  refine bv_aload_n 1 rfl C d_H_init_0 rfl ?_
  refine bv_objInit 4 rfl C t1_51 t1_26 t1_27 (by decide) (by decide) d_H_init_1 ?_
  refine bv_aload_n 5 rfl C d_H_init_4 rfl ?_
  refine bv_bipush (v := nI 64) 7 rfl C d_H_init_5 (by decide) ?_
  refine bv_newa (atype := .int) (ty := .int) (a0 := (64, .inl (fun _ => 0))) 0 64 9 rfl C rfl rfl (by intro Cn h; cases h) t1_56 (fun cA => rfl) rfl (by decide) (by decide) (by decide) (by decide) d_H_init_7 (fun ad' had => ?_)
  refine bv_putF k 0 12 rfl C k_H (Nat.lt_succ_of_lt hk) ((had k hk).trans ha) (by rw [va_up_ne _ _ (Nat.ne_of_lt hk), hw]) (by decide) t1_52 rfl hnm rfl rfl rfl (Nat.le_of_ble_eq_true rfl) d_H_init_9 ?_
  exact bv_return C rfl d_H_init_12 (Nat.le_refl _) (Nat.le_refl _) ⟨rfl, rfl, had, rfl⟩
/-- Row(3) -/
theorem ct_R_init3 {k a : Nat} {x : Int32} {z : Value} (hk : k < N) (ha : ad k = a) (hw : w k = .inr (2, [z, .int x])) : bK l dd y_R_init 1 12 1 3 [.ref a, .int (nI 3)] ad w N (fun v ad' w' N' => v = none ∧ N' = N + 1 ∧ (∀ i, i < N → ad' i = ad i) ∧ w' = va_up (va_up w N (aI dd 3 (fun _ => 0))) k (.inr (2, [.ref (ad' N), .int (nI 0)]))) bNo := by
  refine bK.start [(0, .ref a), (1, .int (nI 3))] (by decide) t1_67 (Nat.le_of_ble_eq_true rfl) rfl (fun p e s m args below meth c A hnm C => ?_)
  refine bv_aload_n 1 rfl C d_R_init_0 rfl ?_
  refine bv_objInit 4 rfl C t1_68 t1_26 t1_27 (by decide) (by decide) d_R_init_1 ?_
  refine bv_aload_n 5 rfl C d_R_init_4 rfl ?_
  refine bv_iconst (v := nI 0) 6 rfl C d_R_init_5 (by decide) ?_
  refine bv_put k 1 9 rfl C k_R hk ha hw (by decide) t1_71 rfl rfl rfl (Nat.le_of_ble_eq_true rfl) d_R_init_6 ?_
  refine bv_aload_n 10 rfl C d_R_init_9 rfl ?_
  refine bv_iload_n 11 rfl C d_R_init_10 rfl ?_
  refine bv_newa (atype := .int) (ty := .int) (a0 := (3, .inl (fun _ => 0))) 0 3 13 rfl C rfl rfl (by intro Cn h; cases h) t1_56 (fun cA => rfl) rfl (by decide) (by decide) (by decide) (by decide) d_R_init_11 (fun ad' had => ?_)
  refine bv_putF k 0 16 rfl C k_R (Nat.lt_succ_of_lt hk) ((had k hk).trans ha) (by rw [va_up_ne _ _ (Nat.ne_of_lt hk), va_up_self]) (by decide) t1_69 rfl hnm rfl rfl rfl (Nat.le_of_ble_eq_true rfl) d_R_init_13 ?_
  exact bv_return C rfl d_R_init_16 (Nat.le_refl _) (Nat.le_refl _) ⟨rfl, rfl, had, by rw [bu_two (Nat.ne_of_lt hk)]; rfl⟩
/-- Row(18) -/
theorem ct_R_init18 {k a : Nat} {x : Int32} {z : Value} (hk : k < N) (ha : ad k = a) (hw : w k = .inr (2, [z, .int x])) : bK l dd y_R_init 1 12 1 18 [.ref a, .int (nI 18)] ad w N (fun v ad' w' N' => v = none ∧ N' = N + 1 ∧ (∀ i, i < N → ad' i = ad i) ∧ w' = va_up (va_up w N (aI dd 18 (fun _ => 0))) k (.inr (2, [.ref (ad' N), .int (nI 0)]))) bNo := by
  refine bK.start [(0, .ref a), (1, .int (nI 18))] (by decide) t1_67 (Nat.le_of_ble_eq_true rfl) rfl (fun p e s m args below meth c A hnm C => ?_)
  refine bv_aload_n 1 rfl C d_R_init_0 rfl ?_
  refine bv_objInit 4 rfl C t1_68 t1_26 t1_27 (by decide) (by decide) d_R_init_1 ?_
  refine bv_aload_n 5 rfl C d_R_init_4 rfl ?_
  refine bv_iconst (v := nI 0) 6 rfl C d_R_init_5 (by decide) ?_
  refine bv_put k 1 9 rfl C k_R hk ha hw (by decide) t1_71 rfl rfl rfl (Nat.le_of_ble_eq_true rfl) d_R_init_6 ?_
  refine bv_aload_n 10 rfl C d_R_init_9 rfl ?_
  refine bv_iload_n 11 rfl C d_R_init_10 rfl ?_
  refine bv_newa (atype := .int) (ty := .int) (a0 := (18, .inl (fun _ => 0))) 0 18 13 rfl C rfl rfl (by intro Cn h; cases h) t1_56 (fun cA => rfl) rfl (by decide) (by decide) (by decide) (by decide) d_R_init_11 (fun ad' had => ?_)
  refine bv_putF k 0 16 rfl C k_R (Nat.lt_succ_of_lt hk) ((had k hk).trans ha) (by rw [va_up_ne _ _ (Nat.ne_of_lt hk), va_up_self]) (by decide) t1_69 rfl hnm rfl rfl rfl (Nat.le_of_ble_eq_true rfl) d_R_init_13 ?_
  exact bv_return C rfl d_R_init_16 (Nat.le_refl _) (Nat.le_refl _) ⟨rfl, rfl, had, by rw [bu_two (Nat.ne_of_lt hk)]; rfl⟩
/-- Version() -/
theorem ct_V_init {k a : Nat} {x y u : Int32} {z : Value} (hk : k < N) (ha : ad k = a) (hw : w k = .inr (5, [.int x, .int y, .int u, z])) : bK l dd y_V_init 2 40 2 20 [.ref a] ad w N (fun v ad' w' N' => v = none ∧ N' = N + 2 ∧ (∀ i, i < N → ad' i = ad i) ∧ w' = va_up (va_up (va_up w (N + 1) (aI dd 18 (fun _ => 0))) N (.inr (2, [.ref (ad' (N + 1)), .int (nI 0)]))) k (.inr (5, [.int (nI 0), .int (nI 0), .int (nI 0), .ref (ad' N)]))) bNo := by
  refine bK.start [(0, .ref a)] (by decide) t1_125 (Nat.le_of_ble_eq_true rfl) rfl (fun p e s m args below meth c A hnm C => ?_)
  refine bv_aload_n 1 rfl C d_V_init_0 rfl ?_
  refine bv_objInit 4 rfl C t1_126 t1_26 t1_27 (by decide) (by decide) d_V_init_1 ?_
  refine bv_aload_n 5 rfl C d_V_init_4 rfl ?_
  refine bv_iconst (v := nI 0) 6 rfl C d_V_init_5 (by decide) ?_
  refine bv_put k 0 9 rfl C k_V hk ha hw (by decide) t1_129 rfl rfl rfl (Nat.le_of_ble_eq_true rfl) d_V_init_6 ?_
  refine bv_aload_n 10 rfl C d_V_init_9 rfl ?_
  refine bv_iconst (v := nI 0) 11 rfl C d_V_init_10 (by decide) ?_
  refine bv_put k 1 14 rfl C k_V hk ha (va_up_self _ _ _) (by decide) t1_131 rfl rfl rfl (Nat.le_of_ble_eq_true rfl) d_V_init_11 ?_
  refine bv_aload_n 15 rfl C d_V_init_14 rfl ?_
  refine bv_iconst (v := nI 0) 16 rfl C d_V_init_15 (by decide) ?_
  refine bv_put k 2 19 rfl C k_V hk ha (va_up_self _ _ _) (by decide) t1_133 rfl rfl rfl (Nat.le_of_ble_eq_true rfl) d_V_init_16 ?_
  refine bv_aload_n 20 rfl C d_V_init_19 rfl ?_
  refine bv_new (fs := [.null,.int 0]) 23 rfl C k_R t1_127 t1_64 t1_4 (by intro j hj; rcases (show j = 0 ∨ j = 1 by omega) with rfl | rfl <;> rfl) (by decide) (by decide) d_V_init_20 (fun ad1 had => ?_)
  refine bv_dup 24 rfl C d_V_init_23 rfl ?_
  refine bv_bipush (v := nI 18) 26 rfl C d_V_init_24 (by decide) ?_
  refine bv_call (rest := [.ref (ad1 N), .ref a]) 29 rfl C d_V_init_26 (ct_R_init18 (k := N) (a := ad1 N) (Nat.lt_succ_self N) rfl (va_up_self _ _ _)) i_R_init t1_4 (fun H locs ls _ => bs_IN (av := [.int (nI 18)]) C t1_67 n1_128 t1_66 rfl (by decide) rfl rfl d_V_init_26 H locs ls) ⟨by first | decide | omega, by first | decide | omega⟩ (by decide) (by decide) (Nat.le_of_ble_eq_true rfl) (fun v ad' w' N' hpo => ?_) (fun x Cn ad' w' N' hth => ?_)
  · obtain ⟨rfl, rfl, had2, rfl⟩ := hpo
    refine bv_putF k 3 32 rfl C k_V (Nat.lt_succ_of_lt (Nat.lt_succ_of_lt hk)) ((had2 k (Nat.lt_succ_of_lt hk)).trans ((had k hk).trans ha)) (by rw [va_up_ne _ _ (Nat.ne_of_lt hk), va_up_ne _ _ (Nat.ne_of_lt (Nat.lt_succ_of_lt hk)), va_up_ne _ _ (Nat.ne_of_lt hk), va_up_self]) (by decide) t1_135 rfl hnm rfl rfl rfl (Nat.le_of_ble_eq_true rfl) d_V_init_29 ?_
    exact bv_return C rfl d_V_init_32 (Nat.le_refl _) (Nat.le_refl _) ⟨rfl, rfl, fun i hi => (had2 i (Nat.lt_succ_of_lt hi)).trans (had i hi), by rw [← had2 N (Nat.lt_succ_self N)]; (funext i; simp only [va_up]; repeat' split) <;> first | rfl | (exfalso; omega)⟩
  · exact hth.elim
end bCtors
/-- a session's cells while its rows are laid -/
def bSesI (dd : bD) (ad0 : Nat → Nat) (w0 : Nat → va_E) (k N i : Nat) (ad : Nat → Nat) (w : Nat → va_E) : Prop :=
  (∀ j, j < N → ad j = ad0 j) ∧ w k = .inr (3, [.int (nI 0), .int (nI 0), .int (nI 0), .ref (ad N)]) ∧ (∃ f, w N = aR dd 4 6 f ∧ ∀ j, j < i → f j = some (ad (N + 1 + 2 * j))) ∧ (∀ j, j < i → w (N + 1 + 2 * j) = .inr (2, [.ref (ad (N + 2 + 2 * j)), .int (nI 0)]) ∧ w (N + 2 + 2 * j) = aI dd 3 (fun _ => 0)) ∧ (∀ j, j < N → j ≠ k → w j = w0 j)
section bLoopS
variable {p : Program} {l : Launch} {e : Env} {R : Room} {s : State} {m : MethodId} {args : Array Value} {below : List Frame} {meth : Method} {c : Code} {dd : bD} {A : Nat → Prop} {mc ms : Nat} {post : Option Value → (Nat → Nat) → (Nat → va_E) → Nat → Prop} {thr : String → (Nat → Nat) → (Nat → va_E) → Nat → Prop} {ad : Nat → Nat} {w : Nat → va_E} {N : Nat}
theorem lp_S_init (C : bCx p R s m args meth c c_S_init R_S 2 none [] dd A) (hRc : 13 ≤ R.cells) (hRs : 36 ≤ R.slots) (hRf : 2 ≤ R.frames) (hRl : 40 ≤ R.locals) {k a : Nat} (hk : k < N) (ha : ad k = a)
    (hx : ∀ (ad1 : Nat → Nat) (w1 : Nat → va_E), bSesI dd ad w k N 6 ad1 w1 → bV p l e R s m args below meth c dd A 2 mc ms post thr 56 (bO [(0, .ref a), (1, .int (nI 6))]) [] ad1 w1 (N + 13) 13 36) :
    ∀ (d i : Nat) (ad1 : Nat → Nat) (w1 : Nat → va_E) (N1 c1 s1 : Nat), i + d = 6 → N1 = N + 1 + 2 * i → c1 = 1 + 2 * i → s1 = 6 + 5 * i → bSesI dd ad w k N i ad1 w1 → bV p l e R s m args below meth c dd A 2 mc ms post thr 30 (bO [(0, .ref a), (1, .int (nI i))]) [] ad1 w1 N1 c1 s1 := by
  intro d
  induction d with
  | zero =>
    intro i ad1 w1 N1 c1 s1 hi hN hc hs hI
    obtain rfl : i = 6 := by omega
    subst hN; subst hc; subst hs
    refine bv_iload_n 31 rfl C d_S_init_30 rfl ?_
    refine bv_bipush (v := nI 6) 33 rfl C d_S_init_31 (by decide) ?_
    refine bv_icmp_ge 56 36 rfl C d_S_init_33 (by decide) (fun h => ?_) (fun h => absurd (nI_le (by decide) (by decide)) h)
    exact hx ad1 w1 hI
  | succ d ih =>
    intro i ad1 w1 N1 c1 s1 hi hN hc hs hI
    obtain ⟨h1, h2, ⟨f, h3, h3'⟩, h4, h5⟩ := hI
    refine bv_iload_n 31 rfl C d_S_init_30 rfl ?_
    refine bv_bipush (v := nI 6) 33 rfl C d_S_init_31 (by decide) ?_
    refine bv_icmp_ge 56 36 rfl C d_S_init_33 (by decide) (fun h => absurd h (nI_ge (by omega) (by decide))) (fun h => ?_)
    refine bv_aload_n 37 rfl C d_S_init_36 rfl ?_
    refine bv_get k 3 40 rfl C k_S (by omega) ((h1 k hk).trans ha) h2 (by decide) t1_110 rfl d_S_init_37 ?_
    refine bv_iload_n 41 rfl C d_S_init_40 rfl ?_
    refine bv_new (fs := [.null,.int 0]) 44 rfl C k_R t1_101 t1_64 t1_4 (by intro j hj; rcases (show j = 0 ∨ j = 1 by omega) with rfl | rfl <;> rfl) (by omega) (by omega) d_S_init_41 (fun ad2 had1 => ?_)
    refine bv_dup 45 rfl C d_S_init_44 rfl ?_
    refine bv_iconst (v := nI 3) 46 rfl C d_S_init_45 (by decide) ?_
    refine bv_call (rest := [.ref (ad2 N1), .int (nI i), .ref (ad1 N)]) 49 rfl C d_S_init_46 (ct_R_init3 (k := N1) (a := ad2 N1) (Nat.lt_succ_self _) rfl (va_up_self _ _ _)) i_R_init t1_4 (fun H locs ls _ => bs_IN (av := [.int (nI 3)]) C t1_67 n1_103 t1_66 rfl (by decide) rfl rfl d_S_init_46 H locs ls) ⟨by first | decide | omega, by first | decide | omega⟩ (by omega) (by omega) (Nat.le_of_ble_eq_true rfl) (fun v ad3 w3 N3 hpo => ?_) (fun x Cn ad' w' N' hth => ?_)
    · obtain ⟨rfl, rfl, had2, rfl⟩ := hpo
      have g1 : ∀ j, j < N1 → ad3 j = ad1 j := fun j hj => (had2 j (by omega)).trans (had1 j hj)
      have g2 : ad3 N1 = ad2 N1 := had2 N1 (by omega)
      refine bv_aast 4 N i 50 N1 rfl C rfl rfl (by omega) (g1 N (by omega)) (by rw [va_up_ne _ _ (by omega), va_up_ne _ _ (by omega), va_up_ne _ _ (by omega), h3]) (by omega) g2 (va_up_self _ _ _) rfl (by omega) (by decide) d_S_init_49 ?_
      refine bv_iinc 53 rfl C d_S_init_50 rfl (by first | exact b_inc _ | rfl) (by decide) ?_
      refine bv_goto 30 C d_S_init_53 (by decide) ?_
      refine bv_wk [(0, .ref a), (1, .int (nI (i + 1)))] ⟨rfl, rfl, trivial⟩ ?_
      refine ih (i + 1) ad3 _ _ _ _ (by omega) (by omega) (by omega) (by omega) ⟨fun j hj => (g1 j (by omega)).trans (h1 j hj), ?_, ⟨_, va_up_self _ _ _, fun j hj => ?_⟩, fun j hj => ⟨?_, ?_⟩, fun j hj hjk => ?_⟩
      · rw [va_up_ne _ _ (by omega), va_up_ne _ _ (by omega), va_up_ne _ _ (by omega), va_up_ne _ _ (by omega), h2, g1 N (by omega)]
      · by_cases hji : j = i
        · subst hji
          rw [va_up_self, ← g2, hN]
        · rw [va_up_ne _ _ hji, h3' j (by omega), g1 _ (by omega)]
      · by_cases hji : j = i
        · subst hji
          rw [← hN, va_up_ne _ _ (by omega), va_up_self, show N + 2 + 2 * j = N1 + 1 by omega]
        · rw [va_up_ne _ _ (by omega), va_up_ne _ _ (by omega), va_up_ne _ _ (by omega), va_up_ne _ _ (by omega), (h4 j (by omega)).1, g1 _ (by omega)]
      · by_cases hji : j = i
        · subst hji
          rw [show N + 2 + 2 * j = N1 + 1 by omega, va_up_ne _ _ (by omega), va_up_ne _ _ (by omega), va_up_self]
        · rw [va_up_ne _ _ (by omega), va_up_ne _ _ (by omega), va_up_ne _ _ (by omega), va_up_ne _ _ (by omega), (h4 j (by omega)).2]
      · rw [va_up_ne _ _ (by omega), va_up_ne _ _ (by omega), va_up_ne _ _ (by omega), va_up_ne _ _ (by omega), h5 j hj hjk]
    · exact hth.elim
end bLoopS
end
section
section bSin
variable {l : Launch} {dd : bD} {ad : Nat → Nat} {w : Nat → va_E} {N : Nat}
/-- Session() -/
theorem ct_S_init {k a : Nat} {x y u : Int32} {z : Value} (hk : k < N) (ha : ad k = a) (hw : w k = .inr (3, [.int x, .int y, .int u, z])) : bK l dd y_S_init 2 40 13 36 [.ref a] ad w N (fun v ad' w' N' => v = none ∧ N' = N + 13 ∧ bSesI dd ad w k N 6 ad' w') bNo := by
  refine bK.start [(0, .ref a)] (by decide) t1_99 (Nat.le_of_ble_eq_true rfl) rfl (fun p e s m args below meth c A hnm C => ?_)
  refine bv_aload_n 1 rfl C d_S_init_0 rfl ?_
  refine bv_objInit 4 rfl C t1_100 t1_26 t1_27 (by decide) (by decide) d_S_init_1 ?_
  refine bv_aload_n 5 rfl C d_S_init_4 rfl ?_
  refine bv_iconst (v := nI 0) 6 rfl C d_S_init_5 (by decide) ?_
  refine bv_put k 0 9 rfl C k_S hk ha hw (by decide) t1_104 rfl rfl rfl (Nat.le_of_ble_eq_true rfl) d_S_init_6 ?_
  refine bv_aload_n 10 rfl C d_S_init_9 rfl ?_
  refine bv_iconst (v := nI 0) 11 rfl C d_S_init_10 (by decide) ?_
  refine bv_put k 1 14 rfl C k_S hk ha (va_up_self _ _ _) (by decide) t1_106 rfl rfl rfl (Nat.le_of_ble_eq_true rfl) d_S_init_11 ?_
  refine bv_aload_n 15 rfl C d_S_init_14 rfl ?_
  refine bv_iconst (v := nI 0) 16 rfl C d_S_init_15 (by decide) ?_
  refine bv_put k 2 19 rfl C k_S hk ha (va_up_self _ _ _) (by decide) t1_108 rfl rfl rfl (Nat.le_of_ble_eq_true rfl) d_S_init_16 ?_
  refine bv_aload_n 20 rfl C d_S_init_19 rfl ?_
  refine bv_bipush (v := nI 6) 22 rfl C d_S_init_20 (by decide) ?_
  refine bv_newq 4 6 25 rfl C rfl t1_101 (by simp) rfl (by decide) (by decide) (by decide) (by decide) d_S_init_22 (fun ad1 had1 => ?_)
  refine bv_putF k 3 28 rfl C k_S (Nat.lt_succ_of_lt hk) ((had1 k hk).trans ha) (by rw [va_up_ne _ _ (Nat.ne_of_lt hk), va_up_self]) (by decide) t1_110 rfl hnm rfl rfl rfl (Nat.le_of_ble_eq_true rfl) d_S_init_25 ?_
  refine bv_iconst (v := nI 0) 29 rfl C d_S_init_28 (by decide) ?_
  refine bv_istore_n 30 rfl C d_S_init_29 (by decide) ?_
  refine bv_wk [(0, .ref a), (1, .int (nI 0))] ⟨rfl, rfl, trivial⟩ ?_
  refine lp_S_init (ad := ad) (w := w) (N := N) C (by decide) (by decide) (by decide) (by decide) hk ha (fun ad2 w2 hI => ?_) 6 0 ad1 _ _ _ _ rfl rfl rfl rfl ⟨had1, ?_, ⟨fun _ => none, ?_, fun j hj => absurd hj (Nat.not_lt_zero j)⟩, fun j hj => absurd hj (Nat.not_lt_zero j), fun j hj hjk => ?_⟩
  · exact bv_return C rfl d_S_init_56 (Nat.le_refl _) (Nat.le_refl _) ⟨rfl, rfl, hI⟩
  · rw [va_up_self]; rfl
  · rw [va_up_ne _ _ (Nat.ne_of_gt hk), va_up_self]
  · rw [va_up_ne _ _ hjk, va_up_ne _ _ (Nat.ne_of_lt hj), va_up_ne _ _ hjk, va_up_ne _ _ hjk, va_up_ne _ _ hjk]
end bSin
/-- so many fresh chunks from key b on, in the array at key ka -/
def bChI (dd : bD) (ad0 : Nat → Nat) (w0 : Nat → va_E) (ka b cnt i : Nat) (ad : Nat → Nat) (w : Nat → va_E) : Prop :=
  (∀ j, j < b → ad j = ad0 j) ∧ (∀ j, j < b → j ≠ ka → w j = w0 j) ∧ (∃ f, w ka = aR dd 3 cnt f ∧ ∀ j, j < i → f j = some (ad (b + 2 * j))) ∧ ∀ j, j < i → w (b + 2 * j) = .inr (0, [.int (nI 0), .long 0, .ref (ad (b + 2 * j + 1))]) ∧ w (b + 2 * j + 1) = aI dd 8 (fun _ => 0)
/-- so many fresh versions -/
def bVeI (dd : bD) (ad0 : Nat → Nat) (w0 : Nat → va_E) (i : Nat) (ad : Nat → Nat) (w : Nat → va_E) : Prop :=
  (∀ j, j < 179 → ad j = ad0 j) ∧ (∀ j, j < 179 → j ≠ 6 → w j = w0 j) ∧ (∃ f, w 6 = aR dd 6 40 f ∧ ∀ j, j < i → f j = some (ad (179 + 3 * j))) ∧ ∀ j, j < i → w (179 + 3 * j) = .inr (5, [.int (nI 0), .int (nI 0), .int (nI 0), .ref (ad (179 + 3 * j + 1))]) ∧ w (179 + 3 * j + 1) = .inr (2, [.ref (ad (179 + 3 * j + 2)), .int (nI 0)]) ∧ w (179 + 3 * j + 2) = aI dd 18 (fun _ => 0)
/-- one fresh session at key k -/
def bSesF (dd : bD) (ad : Nat → Nat) (w : Nat → va_E) (k : Nat) : Prop :=
  w k = .inr (3, [.int (nI 0), .int (nI 0), .int (nI 0), .ref (ad (k + 1))]) ∧ (∃ f, w (k + 1) = aR dd 4 6 f ∧ ∀ j, j < 6 → f j = some (ad (k + 2 + 2 * j))) ∧ ∀ j, j < 6 → w (k + 2 + 2 * j) = .inr (2, [.ref (ad (k + 3 + 2 * j)), .int (nI 0)]) ∧ w (k + 3 + 2 * j) = aI dd 3 (fun _ => 0)
theorem bSesF.to {dd : bD} {ad ad' : Nat → Nat} {w w' : Nat → va_E} {k : Nat} (h : bSesF dd ad w k) (ha : ∀ j, k ≤ j → j < k + 14 → ad' j = ad j) (hw : ∀ j, k ≤ j → j < k + 14 → w' j = w j) : bSesF dd ad' w' k := by
  obtain ⟨h1, ⟨f, h2, h3⟩, h4⟩ := h
  refine ⟨by rw [hw k (by omega) (by omega), h1, ha (k + 1) (by omega) (by omega)], ⟨f, by rw [hw _ (by omega) (by omega), h2], fun j hj => by rw [h3 j hj, ha _ (by omega) (by omega)]⟩, fun j hj => ⟨?_, ?_⟩⟩
  · rw [hw _ (by omega) (by omega), (h4 j hj).1, ha _ (by omega) (by omega)]
  · rw [hw _ (by omega) (by omega), (h4 j hj).2]
theorem bSesI.toF {dd : bD} {ad0 ad : Nat → Nat} {w0 w : Nat → va_E} {k : Nat} (h : bSesI dd ad0 w0 k (k + 1) 6 ad w) : bSesF dd ad w k := by
  obtain ⟨-, h1, ⟨f, h2, h3⟩, h4, -⟩ := h
  refine ⟨h1, ⟨f, h2, fun j hj => by rw [h3 j hj, show k + 1 + 1 + 2 * j = k + 2 + 2 * j by omega]⟩, fun j hj => ?_⟩
  have h5 := h4 j hj
  rw [show k + 1 + 1 + 2 * j = k + 2 + 2 * j by omega, show k + 1 + 2 + 2 * j = k + 3 + 2 * j by omega] at h5
  exact h5
/-- so many fresh sessions -/
def bSeI (dd : bD) (ad0 : Nat → Nat) (w0 : Nat → va_E) (i : Nat) (ad : Nat → Nat) (w : Nat → va_E) : Prop :=
  (∀ j, j < 109 → ad j = ad0 j) ∧ (∀ j, j < 109 → j ≠ 5 → w j = w0 j) ∧ (∃ f, w 5 = aR dd 5 5 f ∧ ∀ j, j < i → f j = some (ad (109 + 14 * j))) ∧ ∀ j, j < i → bSesF dd ad w (109 + 14 * j)
section bLoopB
variable {p : Program} {l : Launch} {e : Env} {R : Room} {s : State} {m : MethodId} {args : Array Value} {below : List Frame} {meth : Method} {c : Code} {dd : bD} {A : Nat → Prop} {mc ms : Nat} {post : Option Value → (Nat → Nat) → (Nat → va_E) → Nat → Prop} {thr : String → (Nat → Nat) → (Nat → va_E) → Nat → Prop} {ad : Nat → Nat} {w : Nat → va_E} {N : Nat}

theorem lp_B_slots (C : bCx p R s m args meth c c_B_init R_B 2 none [] dd A) (hRc : 304 ≤ R.cells) (hRs : 1949 ≤ R.slots) (hRf : 3 ≤ R.frames) (hRl : 61 ≤ R.locals) {a qs : Nat} {fs : List Value} (ha : ad 0 = a) (hq : ad 4 = qs) (h0 : w 0 = .inr (6, fs)) (hf : fs[2]? = some (.ref qs))
    (hx : ∀ (ad1 : Nat → Nat) (w1 : Nat → va_E), bChI dd ad w 4 13 48 48 ad1 w1 → bV p l e R s m args below meth c dd A 2 mc ms post thr 123 (bO [(0, .ref a), (1, .int (nI 48))]) [] ad1 w1 109 108 756) :
    ∀ (d i : Nat) (ad1 : Nat → Nat) (w1 : Nat → va_E) (N1 c1 s1 : Nat), i + d = 48 → N1 = 13 + 2 * i → c1 = 12 + 2 * i → s1 = 228 + 11 * i → bChI dd ad w 4 13 48 i ad1 w1 → bV p l e R s m args below meth c dd A 2 mc ms post thr 98 (bO [(0, .ref a), (1, .int (nI i))]) [] ad1 w1 N1 c1 s1 := by
  intro d
  induction d with
  | zero =>
    intro i ad1 w1 N1 c1 s1 hi hN hc hs hI
    obtain rfl : i = 48 := by omega
    subst hN; subst hc; subst hs
    refine bv_iload_n 99 rfl C d_B_init_98 rfl ?_
    refine bv_bipush (v := nI 48) 101 rfl C d_B_init_99 (by decide) ?_
    refine bv_icmp_ge 123 104 rfl C d_B_init_101 (by decide) (fun h => ?_) (fun h => absurd (nI_le (by decide) (by decide)) h)
    exact hx ad1 w1 hI
  | succ d ih =>
    intro i ad1 w1 N1 c1 s1 hi hN hc hs hI
    obtain ⟨h1, h2, ⟨f, h3, h3'⟩, h4⟩ := hI
    refine bv_iload_n 99 rfl C d_B_init_98 rfl ?_
    refine bv_bipush (v := nI 48) 101 rfl C d_B_init_99 (by decide) ?_
    refine bv_icmp_ge 123 104 rfl C d_B_init_101 (by decide) (fun h => absurd h (nI_ge (by omega) (by decide))) (fun h => ?_)
    refine bv_aload_n 105 rfl C d_B_init_104 rfl ?_
    refine bv_get 0 2 108 rfl C k_B (by omega) ((h1 0 (by omega)).trans ha) ((h2 0 (by omega) (by decide)).trans h0) (by decide) t1_148 hf d_B_init_105 ?_
    refine bv_iload_n 109 rfl C d_B_init_108 rfl ?_
    refine bv_new (fs := [.int 0,.long 0,.null]) 112 rfl C k_K t1_57 t1_79 t1_5 (by intro j hj; rcases (show j = 0 ∨ j = 1 ∨ j = 2 by omega) with rfl | rfl | rfl <;> rfl) (by omega) (by omega) d_B_init_109 (fun ad2 had1 => ?_)
    refine bv_dup 113 rfl C d_B_init_112 rfl ?_
    refine bv_call (rest := [.ref (ad2 N1), .int (nI i), .ref qs]) 116 rfl C d_B_init_113 (ct_K_init (k := N1) (a := ad2 N1) (Nat.lt_succ_self _) rfl (va_up_self _ _ _)) i_K_init t1_5 (fun H locs ls _ => bs_IN (av := []) C t1_82 n1_80 t1_81 rfl (by decide) rfl rfl d_B_init_113 H locs ls) ⟨by first | decide | omega, by first | decide | omega⟩ (by omega) (by omega) (Nat.le_of_ble_eq_true rfl) (fun v ad3 w3 N3 hpo => ?_) (fun x Cn ad' w' N' hth => ?_)
    · obtain ⟨rfl, rfl, had2, rfl⟩ := hpo
      have g1 : ∀ j, j < N1 → ad3 j = ad1 j := fun j hj => (had2 j (by omega)).trans (had1 j hj)
      have g2 : ad3 N1 = ad2 N1 := had2 N1 (by omega)
      refine bv_aast 3 4 i 117 N1 rfl C rfl rfl (by omega) ((g1 4 (by omega)).trans ((h1 4 (by omega)).trans hq)) (by rw [va_up_ne _ _ (by omega), va_up_ne _ _ (by omega), va_up_ne _ _ (by omega), h3]) (by omega) g2 (va_up_self _ _ _) rfl (by omega) (by decide) d_B_init_116 ?_
      refine bv_iinc 120 rfl C d_B_init_117 rfl (by first | exact b_inc _ | rfl) (by decide) ?_
      refine bv_goto 98 C d_B_init_120 (by decide) ?_
      refine bv_wk [(0, .ref a), (1, .int (nI (i + 1)))] ⟨rfl, rfl, trivial⟩ ?_
      refine ih (i + 1) ad3 _ _ _ _ (by omega) (by omega) (by omega) (by omega) ⟨fun j hj => (g1 j (by omega)).trans (h1 j hj), fun j hj hjk => ?_, ⟨_, va_up_self _ _ _, fun j hj => ?_⟩, fun j hj => ⟨?_, ?_⟩⟩
      · rw [va_up_ne _ _ hjk, va_up_ne _ _ (by omega), va_up_ne _ _ (by omega), va_up_ne _ _ (by omega), h2 j hj hjk]
      · by_cases hji : j = i
        · subst hji
          rw [va_up_self, ← g2, hN]
        · rw [va_up_ne _ _ hji, h3' j (by omega), g1 _ (by omega)]
      · by_cases hji : j = i
        · subst hji
          rw [← hN, va_up_ne _ _ (by omega), va_up_self]
        · rw [va_up_ne _ _ (by omega), va_up_ne _ _ (by omega), va_up_ne _ _ (by omega), va_up_ne _ _ (by omega), (h4 j (by omega)).1, g1 _ (by omega)]
      · by_cases hji : j = i
        · subst hji
          rw [← hN, va_up_ne _ _ (by omega), va_up_ne _ _ (by omega), va_up_self]
        · rw [va_up_ne _ _ (by omega), va_up_ne _ _ (by omega), va_up_ne _ _ (by omega), va_up_ne _ _ (by omega), (h4 j (by omega)).2]
    · exact hth.elim
theorem lp_B_incoming (C : bCx p R s m args meth c c_B_init R_B 2 none [] dd A) (hRc : 304 ≤ R.cells) (hRs : 1949 ≤ R.slots) (hRf : 3 ≤ R.frames) (hRl : 61 ≤ R.locals) {a qs : Nat} {fs : List Value} (ha : ad 0 = a) (hq : ad 7 = qs) (h0 : w 0 = .inr (6, fs)) (hf : fs[6]? = some (.ref qs))
    (hx : ∀ (ad1 : Nat → Nat) (w1 : Nat → va_E), bChI dd ad w 7 299 3 3 ad1 w1 → bV p l e R s m args below meth c dd A 2 mc ms post thr 202 (bO [(0, .ref a), (1, .int (nI 3))]) [] ad1 w1 305 304 1949) :
    ∀ (d i : Nat) (ad1 : Nat → Nat) (w1 : Nat → va_E) (N1 c1 s1 : Nat), i + d = 3 → N1 = 299 + 2 * i → c1 = 298 + 2 * i → s1 = 1916 + 11 * i → bChI dd ad w 7 299 3 i ad1 w1 → bV p l e R s m args below meth c dd A 2 mc ms post thr 178 (bO [(0, .ref a), (1, .int (nI i))]) [] ad1 w1 N1 c1 s1 := by
  intro d
  induction d with
  | zero =>
    intro i ad1 w1 N1 c1 s1 hi hN hc hs hI
    obtain rfl : i = 3 := by omega
    subst hN; subst hc; subst hs
    refine bv_iload_n 179 rfl C d_B_init_178 rfl ?_
    refine bv_iconst (v := nI 3) 180 rfl C d_B_init_179 (by decide) ?_
    refine bv_icmp_ge 202 183 rfl C d_B_init_180 (by decide) (fun h => ?_) (fun h => absurd (nI_le (by decide) (by decide)) h)
    exact hx ad1 w1 hI
  | succ d ih =>
    intro i ad1 w1 N1 c1 s1 hi hN hc hs hI
    obtain ⟨h1, h2, ⟨f, h3, h3'⟩, h4⟩ := hI
    refine bv_iload_n 179 rfl C d_B_init_178 rfl ?_
    refine bv_iconst (v := nI 3) 180 rfl C d_B_init_179 (by decide) ?_
    refine bv_icmp_ge 202 183 rfl C d_B_init_180 (by decide) (fun h => absurd h (nI_ge (by omega) (by decide))) (fun h => ?_)
    refine bv_aload_n 184 rfl C d_B_init_183 rfl ?_
    refine bv_get 0 6 187 rfl C k_B (by omega) ((h1 0 (by omega)).trans ha) ((h2 0 (by omega) (by decide)).trans h0) (by decide) t1_152 hf d_B_init_184 ?_
    refine bv_iload_n 188 rfl C d_B_init_187 rfl ?_
    refine bv_new (fs := [.int 0,.long 0,.null]) 191 rfl C k_K t1_57 t1_79 t1_5 (by intro j hj; rcases (show j = 0 ∨ j = 1 ∨ j = 2 by omega) with rfl | rfl | rfl <;> rfl) (by omega) (by omega) d_B_init_188 (fun ad2 had1 => ?_)
    refine bv_dup 192 rfl C d_B_init_191 rfl ?_
    refine bv_call (rest := [.ref (ad2 N1), .int (nI i), .ref qs]) 195 rfl C d_B_init_192 (ct_K_init (k := N1) (a := ad2 N1) (Nat.lt_succ_self _) rfl (va_up_self _ _ _)) i_K_init t1_5 (fun H locs ls _ => bs_IN (av := []) C t1_82 n1_80 t1_81 rfl (by decide) rfl rfl d_B_init_192 H locs ls) ⟨by first | decide | omega, by first | decide | omega⟩ (by omega) (by omega) (Nat.le_of_ble_eq_true rfl) (fun v ad3 w3 N3 hpo => ?_) (fun x Cn ad' w' N' hth => ?_)
    · obtain ⟨rfl, rfl, had2, rfl⟩ := hpo
      have g1 : ∀ j, j < N1 → ad3 j = ad1 j := fun j hj => (had2 j (by omega)).trans (had1 j hj)
      have g2 : ad3 N1 = ad2 N1 := had2 N1 (by omega)
      refine bv_aast 3 7 i 196 N1 rfl C rfl rfl (by omega) ((g1 7 (by omega)).trans ((h1 7 (by omega)).trans hq)) (by rw [va_up_ne _ _ (by omega), va_up_ne _ _ (by omega), va_up_ne _ _ (by omega), h3]) (by omega) g2 (va_up_self _ _ _) rfl (by omega) (by decide) d_B_init_195 ?_
      refine bv_iinc 199 rfl C d_B_init_196 rfl (by first | exact b_inc _ | rfl) (by decide) ?_
      refine bv_goto 178 C d_B_init_199 (by decide) ?_
      refine bv_wk [(0, .ref a), (1, .int (nI (i + 1)))] ⟨rfl, rfl, trivial⟩ ?_
      refine ih (i + 1) ad3 _ _ _ _ (by omega) (by omega) (by omega) (by omega) ⟨fun j hj => (g1 j (by omega)).trans (h1 j hj), fun j hj hjk => ?_, ⟨_, va_up_self _ _ _, fun j hj => ?_⟩, fun j hj => ⟨?_, ?_⟩⟩
      · rw [va_up_ne _ _ hjk, va_up_ne _ _ (by omega), va_up_ne _ _ (by omega), va_up_ne _ _ (by omega), h2 j hj hjk]
      · by_cases hji : j = i
        · subst hji
          rw [va_up_self, ← g2, hN]
        · rw [va_up_ne _ _ hji, h3' j (by omega), g1 _ (by omega)]
      · by_cases hji : j = i
        · subst hji
          rw [← hN, va_up_ne _ _ (by omega), va_up_self]
        · rw [va_up_ne _ _ (by omega), va_up_ne _ _ (by omega), va_up_ne _ _ (by omega), va_up_ne _ _ (by omega), (h4 j (by omega)).1, g1 _ (by omega)]
      · by_cases hji : j = i
        · subst hji
          rw [← hN, va_up_ne _ _ (by omega), va_up_ne _ _ (by omega), va_up_self]
        · rw [va_up_ne _ _ (by omega), va_up_ne _ _ (by omega), va_up_ne _ _ (by omega), va_up_ne _ _ (by omega), (h4 j (by omega)).2]
    · exact hth.elim
theorem lp_B_sess (C : bCx p R s m args meth c c_B_init R_B 2 none [] dd A) (hRc : 304 ≤ R.cells) (hRs : 1949 ≤ R.slots) (hRf : 3 ≤ R.frames) (hRl : 61 ≤ R.locals) {a qs : Nat} {fs : List Value} (ha : ad 0 = a) (hq : ad 5 = qs) (h0 : w 0 = .inr (6, fs)) (hf : fs[3]? = some (.ref qs))
    (hx : ∀ (ad1 : Nat → Nat) (w1 : Nat → va_E), bSeI dd ad w 5 ad1 w1 → bV p l e R s m args below meth c dd A 2 mc ms post thr 149 (bO [(0, .ref a), (1, .int (nI 5))]) [] ad1 w1 179 178 956) :
    ∀ (d i : Nat) (ad1 : Nat → Nat) (w1 : Nat → va_E) (N1 c1 s1 : Nat), i + d = 5 → N1 = 109 + 14 * i → c1 = 108 + 14 * i → s1 = 756 + 40 * i → bSeI dd ad w i ad1 w1 → bV p l e R s m args below meth c dd A 2 mc ms post thr 125 (bO [(0, .ref a), (1, .int (nI i))]) [] ad1 w1 N1 c1 s1 := by
  intro d
  induction d with
  | zero =>
    intro i ad1 w1 N1 c1 s1 hi hN hc hs hI
    obtain rfl : i = 5 := by omega
    subst hN; subst hc; subst hs
    refine bv_iload_n 126 rfl C d_B_init_125 rfl ?_
    refine bv_iconst (v := nI 5) 127 rfl C d_B_init_126 (by decide) ?_
    refine bv_icmp_ge 149 130 rfl C d_B_init_127 (by decide) (fun h => ?_) (fun h => absurd (nI_le (by decide) (by decide)) h)
    exact hx ad1 w1 hI
  | succ d ih =>
    intro i ad1 w1 N1 c1 s1 hi hN hc hs hI
    obtain ⟨h1, h2, ⟨f, h3, h3'⟩, h4⟩ := hI
    refine bv_iload_n 126 rfl C d_B_init_125 rfl ?_
    refine bv_iconst (v := nI 5) 127 rfl C d_B_init_126 (by decide) ?_
    refine bv_icmp_ge 149 130 rfl C d_B_init_127 (by decide) (fun h => absurd h (nI_ge (by omega) (by decide))) (fun h => ?_)
    refine bv_aload_n 131 rfl C d_B_init_130 rfl ?_
    refine bv_get 0 3 134 rfl C k_B (by omega) ((h1 0 (by omega)).trans ha) ((h2 0 (by omega) (by decide)).trans h0) (by decide) t1_149 hf d_B_init_131 ?_
    refine bv_iload_n 135 rfl C d_B_init_134 rfl ?_
    refine bv_new (fs := [.int 0,.int 0,.int 0,.null]) 138 rfl C k_S t1_59 t1_96 t1_6 (by intro j hj; rcases (show j = 0 ∨ j = 1 ∨ j = 2 ∨ j = 3 by omega) with rfl | rfl | rfl | rfl <;> rfl) (by omega) (by omega) d_B_init_135 (fun ad2 had1 => ?_)
    refine bv_dup 139 rfl C d_B_init_138 rfl ?_
    refine bv_call (rest := [.ref (ad2 N1), .int (nI i), .ref qs]) 142 rfl C d_B_init_139 (ct_S_init (k := N1) (a := ad2 N1) (Nat.lt_succ_self _) rfl (va_up_self _ _ _)) i_S_init t1_6 (fun H locs ls _ => bs_IN (av := []) C t1_99 n1_97 t1_98 rfl (by decide) rfl rfl d_B_init_139 H locs ls) ⟨by first | decide | omega, by first | decide | omega⟩ (by omega) (by omega) (Nat.le_of_ble_eq_true rfl) (fun v ad3 w3 N3 hpo => ?_) (fun x Cn ad' w' N' hth => ?_)
    · obtain ⟨rfl, rfl, hSI⟩ := hpo
      have hSF := bSesI.toF hSI
      obtain ⟨had2, -, -, -, hk5⟩ := hSI
      have g1 : ∀ j, j < N1 → ad3 j = ad1 j := fun j hj => (had2 j (by omega)).trans (had1 j hj)
      have g2 : ad3 N1 = ad2 N1 := had2 N1 (by omega)
      have g3 : ∀ j, j < N1 → w3 j = w1 j := fun j hj => by rw [hk5 j (by omega) (by omega), va_up_ne _ _ (by omega)]
      refine bv_aast 5 5 i 143 N1 rfl C rfl rfl (by omega) ((g1 5 (by omega)).trans ((h1 5 (by omega)).trans hq)) (by rw [g3 5 (by omega), h3]) (by omega) g2 hSF.1 rfl (by omega) (by decide) d_B_init_142 ?_
      refine bv_iinc 146 rfl C d_B_init_143 rfl (by first | exact b_inc _ | rfl) (by decide) ?_
      refine bv_goto 125 C d_B_init_146 (by decide) ?_
      refine bv_wk [(0, .ref a), (1, .int (nI (i + 1)))] ⟨rfl, rfl, trivial⟩ ?_
      refine ih (i + 1) ad3 _ _ _ _ (by omega) (by omega) (by omega) (by omega) ⟨fun j hj => (g1 j (by omega)).trans (h1 j hj), fun j hj hjk => ?_, ⟨_, va_up_self _ _ _, fun j hj => ?_⟩, fun j hj => ?_⟩
      · rw [va_up_ne _ _ hjk, g3 j (by omega), h2 j hj hjk]
      · by_cases hji : j = i
        · subst hji
          rw [va_up_self, ← g2, hN]
        · rw [va_up_ne _ _ hji, h3' j (by omega), g1 _ (by omega)]
      · by_cases hji : j = i
        · subst hji
          rw [← hN]
          exact hSF.to (fun _ _ _ => rfl) (fun q _ _ => va_up_ne _ _ (by omega))
        · exact (h4 j (by omega)).to (fun q _ _ => g1 q (by omega)) (fun q _ _ => by rw [va_up_ne _ _ (by omega), g3 q (by omega)])
    · exact hth.elim
theorem lp_B_vers (C : bCx p R s m args meth c c_B_init R_B 2 none [] dd A) (hRc : 304 ≤ R.cells) (hRs : 1949 ≤ R.slots) (hRf : 3 ≤ R.frames) (hRl : 61 ≤ R.locals) {a qs : Nat} {fs : List Value} (ha : ad 0 = a) (hq : ad 6 = qs) (h0 : w 0 = .inr (6, fs)) (hf : fs[4]? = some (.ref qs))
    (hx : ∀ (ad1 : Nat → Nat) (w1 : Nat → va_E), bVeI dd ad w 40 ad1 w1 → bV p l e R s m args below meth c dd A 2 mc ms post thr 176 (bO [(0, .ref a), (1, .int (nI 40))]) [] ad1 w1 299 298 1916) :
    ∀ (d i : Nat) (ad1 : Nat → Nat) (w1 : Nat → va_E) (N1 c1 s1 : Nat), i + d = 40 → N1 = 179 + 3 * i → c1 = 178 + 3 * i → s1 = 956 + 24 * i → bVeI dd ad w i ad1 w1 → bV p l e R s m args below meth c dd A 2 mc ms post thr 151 (bO [(0, .ref a), (1, .int (nI i))]) [] ad1 w1 N1 c1 s1 := by
  intro d
  induction d with
  | zero =>
    intro i ad1 w1 N1 c1 s1 hi hN hc hs hI
    obtain rfl : i = 40 := by omega
    subst hN; subst hc; subst hs
    refine bv_iload_n 152 rfl C d_B_init_151 rfl ?_
    refine bv_bipush (v := nI 40) 154 rfl C d_B_init_152 (by decide) ?_
    refine bv_icmp_ge 176 157 rfl C d_B_init_154 (by decide) (fun h => ?_) (fun h => absurd (nI_le (by decide) (by decide)) h)
    exact hx ad1 w1 hI
  | succ d ih =>
    intro i ad1 w1 N1 c1 s1 hi hN hc hs hI
    obtain ⟨h1, h2, ⟨f, h3, h3'⟩, h4⟩ := hI
    refine bv_iload_n 152 rfl C d_B_init_151 rfl ?_
    refine bv_bipush (v := nI 40) 154 rfl C d_B_init_152 (by decide) ?_
    refine bv_icmp_ge 176 157 rfl C d_B_init_154 (by decide) (fun h => absurd h (nI_ge (by omega) (by decide))) (fun h => ?_)
    refine bv_aload_n 158 rfl C d_B_init_157 rfl ?_
    refine bv_get 0 4 161 rfl C k_B (by omega) ((h1 0 (by omega)).trans ha) ((h2 0 (by omega) (by decide)).trans h0) (by decide) t1_150 hf d_B_init_158 ?_
    refine bv_iload_n 162 rfl C d_B_init_161 rfl ?_
    refine bv_new (fs := [.int 0,.int 0,.int 0,.null]) 165 rfl C k_V t1_61 t1_122 t1_7 (by intro j hj; rcases (show j = 0 ∨ j = 1 ∨ j = 2 ∨ j = 3 by omega) with rfl | rfl | rfl | rfl <;> rfl) (by omega) (by omega) d_B_init_162 (fun ad2 had1 => ?_)
    refine bv_dup 166 rfl C d_B_init_165 rfl ?_
    refine bv_call (rest := [.ref (ad2 N1), .int (nI i), .ref qs]) 169 rfl C d_B_init_166 (ct_V_init (k := N1) (a := ad2 N1) (Nat.lt_succ_self _) rfl (va_up_self _ _ _)) i_V_init t1_7 (fun H locs ls _ => bs_IN (av := []) C t1_125 n1_123 t1_124 rfl (by decide) rfl rfl d_B_init_166 H locs ls) ⟨by first | decide | omega, by first | decide | omega⟩ (by omega) (by omega) (Nat.le_of_ble_eq_true rfl) (fun v ad3 w3 N3 hpo => ?_) (fun x Cn ad' w' N' hth => ?_)
    · obtain ⟨rfl, rfl, had2, rfl⟩ := hpo
      have g1 : ∀ j, j < N1 → ad3 j = ad1 j := fun j hj => (had2 j (by omega)).trans (had1 j hj)
      have g2 : ad3 N1 = ad2 N1 := had2 N1 (by omega)
      refine bv_aast 6 6 i 170 N1 rfl C rfl rfl (by omega) ((g1 6 (by omega)).trans ((h1 6 (by omega)).trans hq)) (by rw [va_up_ne _ _ (by omega), va_up_ne _ _ (by omega), va_up_ne _ _ (by omega), va_up_ne _ _ (by omega), h3]) (by omega) g2 (va_up_self _ _ _) rfl (by omega) (by decide) d_B_init_169 ?_
      refine bv_iinc 173 rfl C d_B_init_170 rfl (by first | exact b_inc _ | rfl) (by decide) ?_
      refine bv_goto 151 C d_B_init_173 (by decide) ?_
      refine bv_wk [(0, .ref a), (1, .int (nI (i + 1)))] ⟨rfl, rfl, trivial⟩ ?_
      refine ih (i + 1) ad3 _ _ _ _ (by omega) (by omega) (by omega) (by omega) ⟨fun j hj => (g1 j (by omega)).trans (h1 j hj), fun j hj hjk => ?_, ⟨_, va_up_self _ _ _, fun j hj => ?_⟩, fun j hj => ⟨?_, ?_, ?_⟩⟩
      · rw [va_up_ne _ _ hjk, va_up_ne _ _ (by omega), va_up_ne _ _ (by omega), va_up_ne _ _ (by omega), va_up_ne _ _ (by omega), h2 j hj hjk]
      · by_cases hji : j = i
        · subst hji
          rw [va_up_self, ← g2, hN]
        · rw [va_up_ne _ _ hji, h3' j (by omega), g1 _ (by omega)]
      · by_cases hji : j = i
        · subst hji
          rw [← hN, va_up_ne _ _ (by omega), va_up_self]
        · rw [va_up_ne _ _ (by omega), va_up_ne _ _ (by omega), va_up_ne _ _ (by omega), va_up_ne _ _ (by omega), va_up_ne _ _ (by omega), (h4 j (by omega)).1, g1 _ (by omega)]
      · by_cases hji : j = i
        · subst hji
          rw [← hN, va_up_ne _ _ (by omega), va_up_ne _ _ (by omega), va_up_self]
        · rw [va_up_ne _ _ (by omega), va_up_ne _ _ (by omega), va_up_ne _ _ (by omega), va_up_ne _ _ (by omega), va_up_ne _ _ (by omega), (h4 j (by omega)).2.1, g1 _ (by omega)]
      · by_cases hji : j = i
        · subst hji
          rw [← hN, va_up_ne _ _ (by omega), va_up_ne _ _ (by omega), va_up_ne _ _ (by omega), va_up_self]
        · rw [va_up_ne _ _ (by omega), va_up_ne _ _ (by omega), va_up_ne _ _ (by omega), va_up_ne _ _ (by omega), va_up_ne _ _ (by omega), (h4 j (by omega)).2.2]
    · exact hth.elim
end bLoopB
end
section
/-- the system behind its constructor: cells 0 to 304 -/
def FB (dd : bD) (ad : Nat → Nat) (w : Nat → va_E) : Prop :=
  (w 0 = .inr (6, [.ref (ad 1), .ref (ad 2), .ref (ad 4), .ref (ad 5), .ref (ad 6), .int (nI 0), .ref (ad 7), .ref (ad 8), .ref (ad 10), .ref (ad 12)]) ∧ w 1 = .inr (1, [.int (nI 0), .int (-1), .int (nI 0)]) ∧ w 2 = .inr (4, [.ref (ad 3)]) ∧ w 3 = aI dd 64 (fun _ => 0) ∧ w 8 = .inr (2, [.ref (ad 9), .int (nI 0)]) ∧ w 9 = aI dd 3 (fun _ => 0) ∧ w 10 = .inr (0, [.int (nI 0), .long 0, .ref (ad 11)]) ∧ w 11 = aI dd 8 (fun _ => 0) ∧ w 12 = aI dd 48 (fun _ => 0)) ∧
  ((∃ f, w 4 = aR dd 3 48 f ∧ ∀ j, j < 48 → f j = some (ad (13 + 2 * j))) ∧ ∀ j, j < 48 → w (13 + 2 * j) = .inr (0, [.int (nI 0), .long 0, .ref (ad (13 + 2 * j + 1))]) ∧ w (13 + 2 * j + 1) = aI dd 8 (fun _ => 0)) ∧
  ((∃ f, w 5 = aR dd 5 5 f ∧ ∀ j, j < 5 → f j = some (ad (109 + 14 * j))) ∧ ∀ j, j < 5 → bSesF dd ad w (109 + 14 * j)) ∧
  ((∃ f, w 6 = aR dd 6 40 f ∧ ∀ j, j < 40 → f j = some (ad (179 + 3 * j))) ∧ ∀ j, j < 40 → w (179 + 3 * j) = .inr (5, [.int (nI 0), .int (nI 0), .int (nI 0), .ref (ad (179 + 3 * j + 1))]) ∧ w (179 + 3 * j + 1) = .inr (2, [.ref (ad (179 + 3 * j + 2)), .int (nI 0)]) ∧ w (179 + 3 * j + 2) = aI dd 18 (fun _ => 0)) ∧
  ((∃ f, w 7 = aR dd 3 3 f ∧ ∀ j, j < 3 → f j = some (ad (299 + 2 * j))) ∧ ∀ j, j < 3 → w (299 + 2 * j) = .inr (0, [.int (nI 0), .long 0, .ref (ad (299 + 2 * j + 1))]) ∧ w (299 + 2 * j + 1) = aI dd 8 (fun _ => 0))
theorem FB.of {dd : bD} {ad0 ad1 ad2 ad3 ad4 : Nat → Nat} {w0 w1 w2 w3 w4 : Nat → va_E} (h0 : (w0 0 = .inr (6, [.ref (ad0 1), .ref (ad0 2), .ref (ad0 4), .ref (ad0 5), .ref (ad0 6), .int (nI 0), .ref (ad0 7), .ref (ad0 8), .ref (ad0 10), .ref (ad0 12)]) ∧ w0 1 = .inr (1, [.int (nI 0), .int (-1), .int (nI 0)]) ∧ w0 2 = .inr (4, [.ref (ad0 3)]) ∧ w0 3 = aI dd 64 (fun _ => 0) ∧ w0 8 = .inr (2, [.ref (ad0 9), .int (nI 0)]) ∧ w0 9 = aI dd 3 (fun _ => 0) ∧ w0 10 = .inr (0, [.int (nI 0), .long 0, .ref (ad0 11)]) ∧ w0 11 = aI dd 8 (fun _ => 0) ∧ w0 12 = aI dd 48 (fun _ => 0)))
    (h1 : bChI dd ad0 w0 4 13 48 48 ad1 w1) (h2 : bSeI dd ad1 w1 5 ad2 w2) (h3 : bVeI dd ad2 w2 40 ad3 w3) (h4 : bChI dd ad3 w3 7 299 3 3 ad4 w4) : FB dd ad4 w4 := by
  obtain ⟨a1, b1, ⟨f1, c1, c1'⟩, d1⟩ := h1
  obtain ⟨a2, b2, ⟨f2, c2, c2'⟩, d2⟩ := h2
  obtain ⟨a3, b3, ⟨f3, c3, c3'⟩, d3⟩ := h3
  obtain ⟨a4, b4, ⟨f4, c4, c4'⟩, d4⟩ := h4
  have A0 : ∀ j, j < 13 → ad4 j = ad0 j := fun j hj => (a4 j (by omega)).trans ((a3 j (by omega)).trans ((a2 j (by omega)).trans (a1 j hj)))
  have A1 : ∀ j, j < 109 → ad4 j = ad1 j := fun j hj => (a4 j (by omega)).trans ((a3 j (by omega)).trans (a2 j hj))
  have A2 : ∀ j, j < 179 → ad4 j = ad2 j := fun j hj => (a4 j (by omega)).trans (a3 j hj)
  have B0 : ∀ j, j < 13 → j ≠ 4 → j ≠ 5 → j ≠ 6 → j ≠ 7 → w4 j = w0 j := fun j hj n4 n5 n6 n7 => (b4 j (by omega) n7).trans ((b3 j (by omega) n6).trans ((b2 j (by omega) n5).trans (b1 j hj n4)))
  have B1 : ∀ j, j < 109 → j ≠ 5 → j ≠ 6 → j ≠ 7 → w4 j = w1 j := fun j hj n5 n6 n7 => (b4 j (by omega) n7).trans ((b3 j (by omega) n6).trans (b2 j hj n5))
  have B2 : ∀ j, j < 179 → j ≠ 6 → j ≠ 7 → w4 j = w2 j := fun j hj n6 n7 => (b4 j (by omega) n7).trans (b3 j hj n6)
  obtain ⟨e0, e1, e2, e3, e8, e9, e10, e11, e12⟩ := h0
  refine ⟨⟨?_, ?_, ?_, ?_, ?_, ?_, ?_, ?_, ?_⟩, ⟨⟨f1, ?_, fun j hj => ?_⟩, fun j hj => ⟨?_, ?_⟩⟩, ⟨⟨f2, ?_, fun j hj => ?_⟩, fun j hj => ?_⟩, ⟨⟨f3, ?_, fun j hj => ?_⟩, fun j hj => ⟨?_, ?_, ?_⟩⟩, ⟨⟨f4, c4, c4'⟩, d4⟩⟩
  · rw [B0 0 (by decide) (by decide) (by decide) (by decide) (by decide), e0, A0 1 (by decide), A0 2 (by decide), A0 4 (by decide), A0 5 (by decide), A0 6 (by decide), A0 7 (by decide), A0 8 (by decide), A0 10 (by decide), A0 12 (by decide)]
  · rw [B0 1 (by decide) (by decide) (by decide) (by decide) (by decide), e1]
  · rw [B0 2 (by decide) (by decide) (by decide) (by decide) (by decide), e2, A0 3 (by decide)]
  · rw [B0 3 (by decide) (by decide) (by decide) (by decide) (by decide), e3]
  · rw [B0 8 (by decide) (by decide) (by decide) (by decide) (by decide), e8, A0 9 (by decide)]
  · rw [B0 9 (by decide) (by decide) (by decide) (by decide) (by decide), e9]
  · rw [B0 10 (by decide) (by decide) (by decide) (by decide) (by decide), e10, A0 11 (by decide)]
  · rw [B0 11 (by decide) (by decide) (by decide) (by decide) (by decide), e11]
  · rw [B0 12 (by decide) (by decide) (by decide) (by decide) (by decide), e12]
  · rw [B1 4 (by decide) (by decide) (by decide) (by decide), c1]
  · rw [c1' j hj, A1 _ (by omega)]
  · rw [B1 _ (by omega) (by omega) (by omega) (by omega), (d1 j hj).1, A1 _ (by omega)]
  · rw [B1 _ (by omega) (by omega) (by omega) (by omega), (d1 j hj).2]
  · rw [B2 5 (by decide) (by decide) (by decide), c2]
  · rw [c2' j hj, A2 _ (by omega)]
  · exact (d2 j hj).to (fun q _ _ => A2 q (by omega)) (fun q _ _ => B2 q (by omega) (by omega) (by omega))
  · rw [b4 6 (by decide) (by decide), c3]
  · rw [c3' j hj, a4 _ (by omega)]
  · rw [b4 _ (by omega) (by omega), (d3 j hj).1, a4 _ (by omega)]
  · rw [b4 _ (by omega) (by omega), (d3 j hj).2.1, a4 _ (by omega)]
  · rw [b4 _ (by omega) (by omega), (d3 j hj).2.2]
section bBin
variable {l : Launch} {dd : bD} {ad : Nat → Nat} {w : Nat → va_E}
/-- BlobStore() -/
theorem ct_B_init {a : Nat} (ha : ad 0 = a) (hw : w 0 = .inr (6, [.null, .null, .null, .null, .null, .int 0, .null, .null, .null, .null])) : bK l dd y_B_init 3 61 304 1949 [.ref a] ad w 1 (fun v ad' w' N' => v = none ∧ N' = 305 ∧ ad' 0 = ad 0 ∧ FB dd ad' w') bNo := by
  refine bK.start [(0, .ref a)] (by decide) t1_24 (Nat.le_of_ble_eq_true rfl) rfl (fun p e s m args below meth c A hnm C => ?_)
  have e0_0 : ad 0 = a := ha
  refine bv_aload_n 1 rfl C d_B_init_0 rfl ?_
  refine bv_objInit 4 rfl C t1_25 t1_26 t1_27 (by decide) (by decide) d_B_init_1 ?_
  refine bv_aload_n 5 rfl C d_B_init_4 rfl ?_
  refine bv_new (fs := [.int 0,.int 0,.int 0]) 8 rfl C k_P t1_28 t1_29 t1_2 (by intro j hj; rcases (show j = 0 ∨ j = 1 ∨ j = 2 by omega) with rfl | rfl | rfl <;> rfl) (by decide) (by decide) d_B_init_5 (fun ad1 had1 => ?_)
  have e0_1 : ad1 0 = a := (had1 0 (by decide)).trans e0_0
  obtain ⟨q1, e1_1⟩ : ∃ q, ad1 1 = q := ⟨_, rfl⟩
  rw [e1_1]
  refine bv_dup 9 rfl C d_B_init_8 rfl ?_
  refine bv_call (rest := [.ref q1, .ref a]) 12 rfl C d_B_init_9 (ct_P_init (k := 1) (a := q1) (by decide) e1_1 (va_up_self _ _ _)) i_P_init t1_2 (fun H locs ls _ => bs_IN (av := []) C t1_32 n1_30 t1_31 rfl (by decide) rfl rfl d_B_init_9 H locs ls) ⟨by first | decide | omega, by first | decide | omega⟩ (by decide) (by decide) (Nat.le_of_ble_eq_true rfl) (fun v ad2 w2 N2 hpo => ?_) (fun x Cn ad' w' N' hth => hth.elim)
  obtain ⟨rfl, rfl, rfl, rfl⟩ := hpo
  refine bv_putF 0 0 15 rfl C k_B (by decide) e0_1 (by simp [va_up, hw]; rfl) (by decide) t1_146 rfl hnm rfl rfl rfl (Nat.le_of_ble_eq_true rfl) d_B_init_12 ?_
  refine bv_aload_n 16 rfl C d_B_init_15 rfl ?_
  refine bv_new (fs := [.null]) 19 rfl C k_H t1_46 t1_47 t1_3 (by intro j hj; rcases (show j = 0 by omega) with rfl <;> rfl) (by decide) (by decide) d_B_init_16 (fun ad2 had2 => ?_)
  have e0_2 : ad2 0 = a := (had2 0 (by decide)).trans e0_1
  have e1_2 : ad2 1 = q1 := (had2 1 (by decide)).trans e1_1
  obtain ⟨q2, e2_2⟩ : ∃ q, ad2 2 = q := ⟨_, rfl⟩
  rw [e2_2]
  refine bv_dup 20 rfl C d_B_init_19 rfl ?_
  refine bv_call (rest := [.ref q2, .ref a]) 23 rfl C d_B_init_20 (ct_H_init (k := 2) (a := q2) (by decide) e2_2 (va_up_self _ _ _)) i_H_init t1_3 (fun H locs ls _ => bs_IN (av := []) C t1_50 n1_48 t1_49 rfl (by decide) rfl rfl d_B_init_20 H locs ls) ⟨by first | decide | omega, by first | decide | omega⟩ (by decide) (by decide) (Nat.le_of_ble_eq_true rfl) (fun v ad3 w3 N3 hpo => ?_) (fun x Cn ad' w' N' hth => hth.elim)
  obtain ⟨rfl, rfl, had3, rfl⟩ := hpo
  have e0_3 : ad3 0 = a := (had3 0 (by decide)).trans e0_2
  have e1_3 : ad3 1 = q1 := (had3 1 (by decide)).trans e1_2
  have e2_3 : ad3 2 = q2 := (had3 2 (by decide)).trans e2_2
  obtain ⟨q3, e3_3⟩ : ∃ q, ad3 3 = q := ⟨_, rfl⟩
  refine bv_putF 0 1 26 rfl C k_B (by decide) e0_3 (by simp [va_up]; rfl) (by decide) t1_147 rfl hnm rfl rfl rfl (Nat.le_of_ble_eq_true rfl) d_B_init_23 ?_
  refine bv_aload_n 27 rfl C d_B_init_26 rfl ?_
  refine bv_bipush (v := nI 48) 29 rfl C d_B_init_27 (by decide) ?_
  refine bv_newq 3 48 32 rfl C rfl t1_57 (by simp) rfl (by decide) (by decide) (by decide) (by decide) d_B_init_29 (fun ad4 had4 => ?_)
  have e0_4 : ad4 0 = a := (had4 0 (by decide)).trans e0_3
  have e1_4 : ad4 1 = q1 := (had4 1 (by decide)).trans e1_3
  have e2_4 : ad4 2 = q2 := (had4 2 (by decide)).trans e2_3
  have e3_4 : ad4 3 = q3 := (had4 3 (by decide)).trans e3_3
  obtain ⟨q4, e4_4⟩ : ∃ q, ad4 4 = q := ⟨_, rfl⟩
  rw [e4_4]
  refine bv_putF 0 2 35 rfl C k_B (by decide) e0_4 (by simp [va_up]; rfl) (by decide) t1_148 rfl hnm rfl rfl rfl (Nat.le_of_ble_eq_true rfl) d_B_init_32 ?_
  refine bv_aload_n 36 rfl C d_B_init_35 rfl ?_
  refine bv_iconst (v := nI 5) 37 rfl C d_B_init_36 (by decide) ?_
  refine bv_newq 5 5 40 rfl C rfl t1_59 (by simp) rfl (by decide) (by decide) (by decide) (by decide) d_B_init_37 (fun ad5 had5 => ?_)
  have e0_5 : ad5 0 = a := (had5 0 (by decide)).trans e0_4
  have e1_5 : ad5 1 = q1 := (had5 1 (by decide)).trans e1_4
  have e2_5 : ad5 2 = q2 := (had5 2 (by decide)).trans e2_4
  have e3_5 : ad5 3 = q3 := (had5 3 (by decide)).trans e3_4
  have e4_5 : ad5 4 = q4 := (had5 4 (by decide)).trans e4_4
  obtain ⟨q5, e5_5⟩ : ∃ q, ad5 5 = q := ⟨_, rfl⟩
  rw [e5_5]
  refine bv_putF 0 3 43 rfl C k_B (by decide) e0_5 (by simp [va_up]; rfl) (by decide) t1_149 rfl hnm rfl rfl rfl (Nat.le_of_ble_eq_true rfl) d_B_init_40 ?_
  refine bv_aload_n 44 rfl C d_B_init_43 rfl ?_
  refine bv_bipush (v := nI 40) 46 rfl C d_B_init_44 (by decide) ?_
  refine bv_newq 6 40 49 rfl C rfl t1_61 (by simp) rfl (by decide) (by decide) (by decide) (by decide) d_B_init_46 (fun ad6 had6 => ?_)
  have e0_6 : ad6 0 = a := (had6 0 (by decide)).trans e0_5
  have e1_6 : ad6 1 = q1 := (had6 1 (by decide)).trans e1_5
  have e2_6 : ad6 2 = q2 := (had6 2 (by decide)).trans e2_5
  have e3_6 : ad6 3 = q3 := (had6 3 (by decide)).trans e3_5
  have e4_6 : ad6 4 = q4 := (had6 4 (by decide)).trans e4_5
  have e5_6 : ad6 5 = q5 := (had6 5 (by decide)).trans e5_5
  obtain ⟨q6, e6_6⟩ : ∃ q, ad6 6 = q := ⟨_, rfl⟩
  rw [e6_6]
  refine bv_putF 0 4 52 rfl C k_B (by decide) e0_6 (by simp [va_up]; rfl) (by decide) t1_150 rfl hnm rfl rfl rfl (Nat.le_of_ble_eq_true rfl) d_B_init_49 ?_
  refine bv_aload_n 53 rfl C d_B_init_52 rfl ?_
  refine bv_iconst (v := nI 0) 54 rfl C d_B_init_53 (by decide) ?_
  refine bv_put 0 5 57 rfl C k_B (by decide) e0_6 (by simp [va_up]; rfl) (by decide) t1_151 rfl rfl rfl (Nat.le_of_ble_eq_true rfl) d_B_init_54 ?_
  refine bv_aload_n 58 rfl C d_B_init_57 rfl ?_
  refine bv_iconst (v := nI 3) 59 rfl C d_B_init_58 (by decide) ?_
  refine bv_newq 3 3 62 rfl C rfl t1_57 (by simp) rfl (by decide) (by decide) (by decide) (by decide) d_B_init_59 (fun ad7 had7 => ?_)
  have e0_7 : ad7 0 = a := (had7 0 (by decide)).trans e0_6
  have e1_7 : ad7 1 = q1 := (had7 1 (by decide)).trans e1_6
  have e2_7 : ad7 2 = q2 := (had7 2 (by decide)).trans e2_6
  have e3_7 : ad7 3 = q3 := (had7 3 (by decide)).trans e3_6
  have e4_7 : ad7 4 = q4 := (had7 4 (by decide)).trans e4_6
  have e5_7 : ad7 5 = q5 := (had7 5 (by decide)).trans e5_6
  have e6_7 : ad7 6 = q6 := (had7 6 (by decide)).trans e6_6
  obtain ⟨q7, e7_7⟩ : ∃ q, ad7 7 = q := ⟨_, rfl⟩
  rw [e7_7]
  refine bv_putF 0 6 65 rfl C k_B (by decide) e0_7 (by simp [va_up]; rfl) (by decide) t1_152 rfl hnm rfl rfl rfl (Nat.le_of_ble_eq_true rfl) d_B_init_62 ?_
  refine bv_aload_n 66 rfl C d_B_init_65 rfl ?_
  refine bv_new (fs := [.null,.int 0]) 69 rfl C k_R t1_63 t1_64 t1_4 (by intro j hj; rcases (show j = 0 ∨ j = 1 by omega) with rfl | rfl <;> rfl) (by decide) (by decide) d_B_init_66 (fun ad8 had8 => ?_)
  have e0_8 : ad8 0 = a := (had8 0 (by decide)).trans e0_7
  have e1_8 : ad8 1 = q1 := (had8 1 (by decide)).trans e1_7
  have e2_8 : ad8 2 = q2 := (had8 2 (by decide)).trans e2_7
  have e3_8 : ad8 3 = q3 := (had8 3 (by decide)).trans e3_7
  have e4_8 : ad8 4 = q4 := (had8 4 (by decide)).trans e4_7
  have e5_8 : ad8 5 = q5 := (had8 5 (by decide)).trans e5_7
  have e6_8 : ad8 6 = q6 := (had8 6 (by decide)).trans e6_7
  have e7_8 : ad8 7 = q7 := (had8 7 (by decide)).trans e7_7
  obtain ⟨q8, e8_8⟩ : ∃ q, ad8 8 = q := ⟨_, rfl⟩
  rw [e8_8]
  refine bv_dup 70 rfl C d_B_init_69 rfl ?_
  refine bv_iconst (v := nI 3) 71 rfl C d_B_init_70 (by decide) ?_
  refine bv_call (rest := [.ref q8, .ref a]) 74 rfl C d_B_init_71 (ct_R_init3 (k := 8) (a := q8) (by decide) e8_8 (va_up_self _ _ _)) i_R_init t1_4 (fun H locs ls _ => bs_IN (av := [.int (nI 3)]) C t1_67 n1_65 t1_66 rfl (by decide) rfl rfl d_B_init_71 H locs ls) ⟨by first | decide | omega, by first | decide | omega⟩ (by decide) (by decide) (Nat.le_of_ble_eq_true rfl) (fun v ad9 w9 N9 hpo => ?_) (fun x Cn ad' w' N' hth => hth.elim)
  obtain ⟨rfl, rfl, had9, rfl⟩ := hpo
  have e0_9 : ad9 0 = a := (had9 0 (by decide)).trans e0_8
  have e1_9 : ad9 1 = q1 := (had9 1 (by decide)).trans e1_8
  have e2_9 : ad9 2 = q2 := (had9 2 (by decide)).trans e2_8
  have e3_9 : ad9 3 = q3 := (had9 3 (by decide)).trans e3_8
  have e4_9 : ad9 4 = q4 := (had9 4 (by decide)).trans e4_8
  have e5_9 : ad9 5 = q5 := (had9 5 (by decide)).trans e5_8
  have e6_9 : ad9 6 = q6 := (had9 6 (by decide)).trans e6_8
  have e7_9 : ad9 7 = q7 := (had9 7 (by decide)).trans e7_8
  have e8_9 : ad9 8 = q8 := (had9 8 (by decide)).trans e8_8
  obtain ⟨q9, e9_9⟩ : ∃ q, ad9 9 = q := ⟨_, rfl⟩
  refine bv_putF 0 7 77 rfl C k_B (by decide) e0_9 (by simp [va_up]; rfl) (by decide) t1_153 rfl hnm rfl rfl rfl (Nat.le_of_ble_eq_true rfl) d_B_init_74 ?_
  refine bv_aload_n 78 rfl C d_B_init_77 rfl ?_
  refine bv_new (fs := [.int 0,.long 0,.null]) 81 rfl C k_K t1_57 t1_79 t1_5 (by intro j hj; rcases (show j = 0 ∨ j = 1 ∨ j = 2 by omega) with rfl | rfl | rfl <;> rfl) (by decide) (by decide) d_B_init_78 (fun ad10 had10 => ?_)
  have e0_10 : ad10 0 = a := (had10 0 (by decide)).trans e0_9
  have e1_10 : ad10 1 = q1 := (had10 1 (by decide)).trans e1_9
  have e2_10 : ad10 2 = q2 := (had10 2 (by decide)).trans e2_9
  have e3_10 : ad10 3 = q3 := (had10 3 (by decide)).trans e3_9
  have e4_10 : ad10 4 = q4 := (had10 4 (by decide)).trans e4_9
  have e5_10 : ad10 5 = q5 := (had10 5 (by decide)).trans e5_9
  have e6_10 : ad10 6 = q6 := (had10 6 (by decide)).trans e6_9
  have e7_10 : ad10 7 = q7 := (had10 7 (by decide)).trans e7_9
  have e8_10 : ad10 8 = q8 := (had10 8 (by decide)).trans e8_9
  have e9_10 : ad10 9 = q9 := (had10 9 (by decide)).trans e9_9
  obtain ⟨q10, e10_10⟩ : ∃ q, ad10 10 = q := ⟨_, rfl⟩
  rw [e10_10]
  refine bv_dup 82 rfl C d_B_init_81 rfl ?_
  refine bv_call (rest := [.ref q10, .ref a]) 85 rfl C d_B_init_82 (ct_K_init (k := 10) (a := q10) (by decide) e10_10 (va_up_self _ _ _)) i_K_init t1_5 (fun H locs ls _ => bs_IN (av := []) C t1_82 n1_80 t1_81 rfl (by decide) rfl rfl d_B_init_82 H locs ls) ⟨by first | decide | omega, by first | decide | omega⟩ (by decide) (by decide) (Nat.le_of_ble_eq_true rfl) (fun v ad11 w11 N11 hpo => ?_) (fun x Cn ad' w' N' hth => hth.elim)
  obtain ⟨rfl, rfl, had11, rfl⟩ := hpo
  have e0_11 : ad11 0 = a := (had11 0 (by decide)).trans e0_10
  have e1_11 : ad11 1 = q1 := (had11 1 (by decide)).trans e1_10
  have e2_11 : ad11 2 = q2 := (had11 2 (by decide)).trans e2_10
  have e3_11 : ad11 3 = q3 := (had11 3 (by decide)).trans e3_10
  have e4_11 : ad11 4 = q4 := (had11 4 (by decide)).trans e4_10
  have e5_11 : ad11 5 = q5 := (had11 5 (by decide)).trans e5_10
  have e6_11 : ad11 6 = q6 := (had11 6 (by decide)).trans e6_10
  have e7_11 : ad11 7 = q7 := (had11 7 (by decide)).trans e7_10
  have e8_11 : ad11 8 = q8 := (had11 8 (by decide)).trans e8_10
  have e9_11 : ad11 9 = q9 := (had11 9 (by decide)).trans e9_10
  have e10_11 : ad11 10 = q10 := (had11 10 (by decide)).trans e10_10
  obtain ⟨q11, e11_11⟩ : ∃ q, ad11 11 = q := ⟨_, rfl⟩
  refine bv_putF 0 8 88 rfl C k_B (by decide) e0_11 (by simp [va_up]; rfl) (by decide) t1_154 rfl hnm rfl rfl rfl (Nat.le_of_ble_eq_true rfl) d_B_init_85 ?_
  refine bv_aload_n 89 rfl C d_B_init_88 rfl ?_
  refine bv_bipush (v := nI 48) 91 rfl C d_B_init_89 (by decide) ?_
  refine bv_newa (atype := .int) (ty := .int) (a0 := (48, .inl (fun _ => 0))) 0 48 93 rfl C rfl rfl (by intro Cn h; cases h) t1_56 (fun cA => rfl) rfl (by decide) (by decide) (by decide) (by decide) d_B_init_91 (fun ad12 had12 => ?_)
  have e0_12 : ad12 0 = a := (had12 0 (by decide)).trans e0_11
  have e1_12 : ad12 1 = q1 := (had12 1 (by decide)).trans e1_11
  have e2_12 : ad12 2 = q2 := (had12 2 (by decide)).trans e2_11
  have e3_12 : ad12 3 = q3 := (had12 3 (by decide)).trans e3_11
  have e4_12 : ad12 4 = q4 := (had12 4 (by decide)).trans e4_11
  have e5_12 : ad12 5 = q5 := (had12 5 (by decide)).trans e5_11
  have e6_12 : ad12 6 = q6 := (had12 6 (by decide)).trans e6_11
  have e7_12 : ad12 7 = q7 := (had12 7 (by decide)).trans e7_11
  have e8_12 : ad12 8 = q8 := (had12 8 (by decide)).trans e8_11
  have e9_12 : ad12 9 = q9 := (had12 9 (by decide)).trans e9_11
  have e10_12 : ad12 10 = q10 := (had12 10 (by decide)).trans e10_11
  have e11_12 : ad12 11 = q11 := (had12 11 (by decide)).trans e11_11
  obtain ⟨q12, e12_12⟩ : ∃ q, ad12 12 = q := ⟨_, rfl⟩
  rw [e12_12]
  refine bv_putF 0 9 96 rfl C k_B (by decide) e0_12 (by simp [va_up]; rfl) (by decide) t1_155 rfl hnm rfl rfl rfl (Nat.le_of_ble_eq_true rfl) d_B_init_93 ?_
  refine bv_iconst (v := nI 0) 97 rfl C d_B_init_96 (by decide) ?_
  refine bv_istore_n 98 rfl C d_B_init_97 (by decide) ?_
  refine bv_wk [(0, .ref a), (1, .int (nI 0))] ⟨rfl, rfl, trivial⟩ ?_
  refine bv_cs 12 228 (by decide) (by decide) ?_
  obtain ⟨W, hW⟩ : ∃ W : Nat → va_E, W = _ := ⟨_, rfl⟩
  refine bv_w W (fun k _ => by rw [hW]) ?_
  have H0 : (W 0 = .inr (6, [.ref (ad12 1), .ref (ad12 2), .ref (ad12 4), .ref (ad12 5), .ref (ad12 6), .int (nI 0), .ref (ad12 7), .ref (ad12 8), .ref (ad12 10), .ref (ad12 12)]) ∧ W 1 = .inr (1, [.int (nI 0), .int (-1), .int (nI 0)]) ∧ W 2 = .inr (4, [.ref (ad12 3)]) ∧ W 3 = aI dd 64 (fun _ => 0) ∧ W 8 = .inr (2, [.ref (ad12 9), .int (nI 0)]) ∧ W 9 = aI dd 3 (fun _ => 0) ∧ W 10 = .inr (0, [.int (nI 0), .long 0, .ref (ad12 11)]) ∧ W 11 = aI dd 8 (fun _ => 0) ∧ W 12 = aI dd 48 (fun _ => 0)) := by
    rw [e1_12, e2_12, e3_12, e4_12, e5_12, e6_12, e7_12, e8_12, e9_12, e10_12, e11_12, e12_12, hW]
    refine ⟨?_, ?_, ?_, ?_, ?_, ?_, ?_, ?_, ?_⟩ <;> simp [va_up, e1_1, e2_2, e3_3, e4_4, e5_5, e6_6, e7_7, e8_8, e9_9, e10_10, e11_11, e12_12]
  have z4 : W 4 = aR dd 3 48 (fun _ => none) := by rw [hW]; simp [va_up]
  have z5 : W 5 = aR dd 5 5 (fun _ => none) := by rw [hW]; simp [va_up]
  have z6 : W 6 = aR dd 6 40 (fun _ => none) := by rw [hW]; simp [va_up]
  have z7 : W 7 = aR dd 3 3 (fun _ => none) := by rw [hW]; simp [va_up]
  have z0 : W 0 = .inr (6, [.ref q1, .ref q2, .ref q4, .ref q5, .ref q6, .int (nI 0), .ref q7, .ref q8, .ref q10, .ref q12]) := by rw [H0.1, e1_12, e2_12, e4_12, e5_12, e6_12, e7_12, e8_12, e10_12, e12_12]
  refine lp_B_slots (ad := ad12) (w := W) C (by decide) (by decide) (by decide) (by decide) e0_12 e4_12 z0 rfl (fun A1 W1 h1 => ?_) 48 0 ad12 W _ _ _ rfl rfl rfl rfl ⟨fun _ _ => rfl, fun _ _ _ => rfl, ⟨fun _ => none, z4, fun j hj => absurd hj (Nat.not_lt_zero j)⟩, fun j hj => absurd hj (Nat.not_lt_zero j)⟩
  refine bv_iconst (v := nI 0) 124 rfl C d_B_init_123 (by decide) ?_
  refine bv_istore_n 125 rfl C d_B_init_124 (by decide) ?_
  refine bv_wk [(0, .ref a), (1, .int (nI 0))] ⟨rfl, rfl, trivial⟩ ?_
  have y0 := (h1.2.1 0 (by decide) (by decide)).trans z0
  refine lp_B_sess (ad := A1) (w := W1) C (by decide) (by decide) (by decide) (by decide) ((h1.1 0 (by decide)).trans e0_12) ((h1.1 5 (by decide)).trans e5_12) y0 rfl (fun A2 W2 h2 => ?_) 5 0 A1 W1 _ _ _ rfl rfl rfl rfl ⟨fun _ _ => rfl, fun _ _ _ => rfl, ⟨fun _ => none, (h1.2.1 5 (by decide) (by decide)).trans z5, fun j hj => absurd hj (Nat.not_lt_zero j)⟩, fun j hj => absurd hj (Nat.not_lt_zero j)⟩
  refine bv_iconst (v := nI 0) 150 rfl C d_B_init_149 (by decide) ?_
  refine bv_istore_n 151 rfl C d_B_init_150 (by decide) ?_
  refine bv_wk [(0, .ref a), (1, .int (nI 0))] ⟨rfl, rfl, trivial⟩ ?_
  have x0 := (h2.2.1 0 (by decide) (by decide)).trans y0
  refine lp_B_vers (ad := A2) (w := W2) C (by decide) (by decide) (by decide) (by decide) ((h2.1 0 (by decide)).trans ((h1.1 0 (by decide)).trans e0_12)) ((h2.1 6 (by decide)).trans ((h1.1 6 (by decide)).trans e6_12)) x0 rfl (fun A3 W3 h3 => ?_) 40 0 A2 W2 _ _ _ rfl rfl rfl rfl ⟨fun _ _ => rfl, fun _ _ _ => rfl, ⟨fun _ => none, (h2.2.1 6 (by decide) (by decide)).trans ((h1.2.1 6 (by decide) (by decide)).trans z6), fun j hj => absurd hj (Nat.not_lt_zero j)⟩, fun j hj => absurd hj (Nat.not_lt_zero j)⟩
  refine bv_iconst (v := nI 0) 177 rfl C d_B_init_176 (by decide) ?_
  refine bv_istore_n 178 rfl C d_B_init_177 (by decide) ?_
  refine bv_wk [(0, .ref a), (1, .int (nI 0))] ⟨rfl, rfl, trivial⟩ ?_
  have v0 := (h3.2.1 0 (by decide) (by decide)).trans x0
  refine lp_B_incoming (ad := A3) (w := W3) C (by decide) (by decide) (by decide) (by decide) ((h3.1 0 (by decide)).trans ((h2.1 0 (by decide)).trans ((h1.1 0 (by decide)).trans e0_12))) ((h3.1 7 (by decide)).trans ((h2.1 7 (by decide)).trans ((h1.1 7 (by decide)).trans e7_12))) v0 rfl (fun A4 W4 h4 => ?_) 3 0 A3 W3 _ _ _ rfl rfl rfl rfl ⟨fun _ _ => rfl, fun _ _ _ => rfl, ⟨fun _ => none, (h3.2.1 7 (by decide) (by decide)).trans ((h2.2.1 7 (by decide) (by decide)).trans ((h1.2.1 7 (by decide) (by decide)).trans z7)), fun j hj => absurd hj (Nat.not_lt_zero j)⟩, fun j hj => absurd hj (Nat.not_lt_zero j)⟩
  exact bv_return C rfl d_B_init_202 (Nat.le_refl _) (Nat.le_refl _) ⟨rfl, rfl, ((h4.1 0 (by decide)).trans ((h3.1 0 (by decide)).trans ((h2.1 0 (by decide)).trans ((h1.1 0 (by decide)).trans e0_12)))).trans ha.symm, FB.of H0 h1 h2 h3 h4⟩
end bBin
end
section
/-- the reference's object: its arrays lie at keys 306 to 322 -/
abbrev mO (ad : Nat → Nat) (th ve wr cu dn : Int32) : va_E := .inr (7, [.int th, .ref (ad 306), .ref (ad 307), .ref (ad 308), .ref (ad 309), .ref (ad 310), .ref (ad 311), .ref (ad 312), .int ve, .ref (ad 313), .ref (ad 314), .ref (ad 315), .ref (ad 316), .ref (ad 317), .int wr, .int cu, .int dn, .ref (ad 318), .ref (ad 319), .ref (ad 320), .ref (ad 321), .ref (ad 322)])
/-- counting down: behind nI 0 comes -1 -/
def bdn : Nat → Int32
  | 0 => -1
  | d + 1 => nI d
theorem b_dec (d : Nat) : nI d + Int32.ofInt (-1) = bdn d := by
  cases d with
  | zero => decide
  | succ n => exact pk_m1 n
def pr : Nat → Nat → Nat → Bool
  | 0, _, _ => true
  | f + 1, d, p => if p < d * d then true else if p % d = 0 then false else pr f (d + 1) p
section bMc
variable {p : Program} {l : Launch} {e : Env} {R : Room} {s : State} {m : MethodId} {args : Array Value} {below : List Frame} {meth : Method} {c : Code} {dd : bD} {A : Nat → Prop} {mc ms : Nat} {post : Option Value → (Nat → Nat) → (Nat → va_E) → Nat → Prop} {thr : String → (Nat → Nat) → (Nat → va_E) → Nat → Prop} {ad : Nat → Nat} {w : Nat → va_E} {N cells slots : Nat}
theorem lp_isPrime (C : bCx p R s m args meth c c_M_isPrime R_M 2 (some .boolean) [] dd A) {q : Nat} (hq : q ≤ 311)
    (hx : ∀ (b : Bool) (i : Int32), b = pr 20 2 q → bV p l e R s m args below meth c dd A 2 mc ms post thr (cond b 23 15) (bO [(0, .int (nI q)), (1, .int i)]) [] ad w N cells slots) :
    ∀ (f d : Nat), d + f = 22 → 2 ≤ d → pr f d q = pr 20 2 q → bV p l e R s m args below meth c dd A 2 mc ms post thr 2 (bO [(0, .int (nI q)), (1, .int (nI d))]) [] ad w N cells slots := by
  intro f
  induction f with
  | zero =>
    intro d hd h2 hp
    obtain rfl : d = 22 := by omega
    refine bv_iload_n 3 rfl C d_M_isPrime_2 rfl ?_
    refine bv_iload_n 4 rfl C d_M_isPrime_3 rfl ?_
    refine bv_imul 5 rfl C d_M_isPrime_4 ?_
    refine bv_seti (nI (22 * 22)) (pk_mul 22 22) ?_
    refine bv_iload_n 6 rfl C d_M_isPrime_5 rfl ?_
    refine bv_icmp_gt 23 9 rfl C d_M_isPrime_6 (by decide) (fun h => ?_) (fun h => absurd (nI_lt (by omega) (by decide)) h)
    exact hx true _ hp
  | succ f ih =>
    intro d hd h2 hp
    have hb : d * d < 2 ^ 31 := Nat.lt_of_le_of_lt (Nat.mul_le_mul (show d ≤ 22 by omega) (show d ≤ 22 by omega)) (by decide)
    refine bv_iload_n 3 rfl C d_M_isPrime_2 rfl ?_
    refine bv_iload_n 4 rfl C d_M_isPrime_3 rfl ?_
    refine bv_imul 5 rfl C d_M_isPrime_4 ?_
    refine bv_seti (nI (d * d)) (pk_mul d d) ?_
    refine bv_iload_n 6 rfl C d_M_isPrime_5 rfl ?_
    refine bv_icmp_gt 23 9 rfl C d_M_isPrime_6 (by decide) (fun h => ?_) (fun h => ?_)
    · rw [nI_ltI (by omega) hb] at h
      refine hx true _ ?_
      rw [← hp]
      simp [pr, h]
    · rw [nI_ltI (by omega) hb] at h
      refine bv_iload_n 10 rfl C d_M_isPrime_9 rfl ?_
      refine bv_iload_n 11 rfl C d_M_isPrime_10 rfl ?_
      refine bv_irem 12 rfl C d_M_isPrime_11 (nI_ne0 (by omega) (by omega)) ?_
      refine bv_seti (nI (q % d)) (pk_rem (by omega) (by omega) (by omega)) ?_
      refine bv_if_ne 17 15 rfl C d_M_isPrime_12 (by decide) (fun h' => ?_) (fun h' => ?_)
      · refine bv_iinc 20 rfl C d_M_isPrime_17 rfl (by first | exact b_inc _ | rfl) (by decide) ?_
        refine bv_goto 2 C d_M_isPrime_20 (by decide) ?_
        refine bv_wk [(0, .int (nI q)), (1, .int (nI (d + 1)))] ⟨rfl, rfl, trivial⟩ ?_
        refine ih (d + 1) (by omega) (by omega) ?_
        rw [← hp]
        have hne : ¬ q % d = 0 := fun hz => h' (by rw [hz]; rfl)
        conv => rhs; unfold pr
        simp [h, hne]
      · refine hx false _ ?_
        rw [← hp]
        have hz : q % d = 0 := (nI_eq (Nat.lt_of_le_of_lt (Nat.mod_le q d) (by omega)) (by decide)).mp h'
        simp [pr, h, hz]
theorem ct_M_isPrime {q : Nat} (hq : q ≤ 311) : bK l dd y_M_isPrime 0 0 0 0 [.int (nI q)] ad w N (bSame ad w N (fun v => v = some (.int (nI (cond (pr 20 2 q) 1 0))))) bNo := by
  refine bK.start [(0, .int (nI q))] (by decide) t3_97 (Nat.le_of_ble_eq_true rfl) rfl (fun p e s m args below meth c A hnm C => ?_)
  refine bv_iconst (v := nI 2) 1 rfl C d_M_isPrime_0 (by decide) ?_
  refine bv_istore_n 2 rfl C d_M_isPrime_1 (by decide) ?_
  refine bv_wk [(0, .int (nI q)), (1, .int (nI 2))] ⟨rfl, rfl, trivial⟩ ?_
  refine lp_isPrime C hq (fun b i hb => ?_) 20 2 rfl (Nat.le_refl _) rfl
  cases b with
  | true =>
    refine bv_iconst (v := nI 1) 24 rfl C d_M_isPrime_23 (by decide) ?_
    exact bv_zreturn C rfl (Or.inr rfl) d_M_isPrime_24 (Nat.le_refl _) (Nat.le_refl _) ⟨rfl, rfl, rfl, by rw [← hb]; rfl⟩
  | false =>
    refine bv_iconst (v := nI 0) 16 rfl C d_M_isPrime_15 (by decide) ?_
    exact bv_zreturn C rfl (Or.inl rfl) d_M_isPrime_16 (Nat.le_refl _) (Nat.le_refl _) ⟨rfl, rfl, rfl, by rw [← hb]; rfl⟩
end bMc
end
section
section bMa
variable {p : Program} {l : Launch} {e : Env} {R : Room} {s : State} {m : MethodId} {args : Array Value} {below : List Frame} {meth : Method} {c : Code} {dd : bD} {A : Nat → Prop} {mc ms : Nat} {post : Option Value → (Nat → Nat) → (Nat → va_E) → Nat → Prop} {thr : String → (Nat → Nat) → (Nat → va_E) → Nat → Prop} {ad : Nat → Nat} {w : Nat → va_E} {N cells slots : Nat}
variable {a : Nat} {th ve wr cu dn pp : Int32} {x lw hg : Int64} {pw : Nat}
abbrev loA (a : Nat) (x : Int64) (pp : Int32) (pw : Nat) (lw hg : Int64) (k : Int32) : Nat → Option Value := bO [(0, .ref a), (1, .long x), (3, .int pp), (4, .int (nI pw)), (5, .long lw), (7, .long hg), (9, .int k)]
abbrev loB (a : Nat) (x : Int64) (pp : Int32) (pw : Nat) (lw hg : Int64) (k k2 : Int32) : Nat → Option Value := bO [(0, .ref a), (1, .long x), (3, .int pp), (4, .int (nI pw)), (5, .long lw), (7, .long hg), (9, .int k), (10, .int k2)]
theorem mup {w : Nat → va_E} {e1 : va_E} {k : Nat} (h : k ≠ 322) : va_up w 322 e1 k = w k := va_up_ne _ _ h
theorem lp_above1 (C : bCx p R s m args meth c c_M_isAbove R_M 15 (some .boolean) [] dd A) (hN : 323 ≤ N) (ha : ad 305 = a) (hm : w 305 = mO ad th ve wr cu dn)
    (hx : ∀ g, bV p l e R s m args below meth c dd A 15 mc ms post thr 46 (loA a x pp pw lw hg (nI 8)) [] ad (va_up w 322 (aL dd 8 g)) N cells slots) :
    ∀ (d i : Nat) (g : Nat → Int64), i + d = 8 → bV p l e R s m args below meth c dd A 15 mc ms post thr 16 (loA a x pp pw lw hg (nI i)) [] ad (va_up w 322 (aL dd 8 g)) N cells slots := by
  intro d
  induction d with
  | zero =>
    intro i g hi
    obtain rfl : i = 8 := by omega
    refine bv_iload 18 rfl C d_M_isAbove_16 rfl ?_
    refine bv_bipush (v := nI 8) 20 rfl C d_M_isAbove_18 (by decide) ?_
    refine bv_icmp_ge 46 23 rfl C d_M_isAbove_20 (by decide) (fun h => ?_) (fun h => absurd (nI_le (by decide) (by decide)) h)
    exact hx g
  | succ d ih =>
    intro i g hi
    have tl : ∀ y : Int64, bV p l e R s m args below meth c dd A 15 mc ms post thr 39 (loA a x pp pw lw hg (nI i)) [.long y, .int (nI i), .ref (ad 322)] ad (va_up w 322 (aL dd 8 g)) N cells slots := by
      intro y
      refine bv_last 322 i 40 rfl C (by omega) rfl (va_up_self _ _ _) rfl (by omega) (by decide) d_M_isAbove_39 ?_
      rw [bu_same]
      refine bv_iinc 43 rfl C d_M_isAbove_40 rfl (by first | exact b_inc _ | rfl) (by decide) ?_
      refine bv_goto 16 C d_M_isAbove_43 (by decide) ?_
      refine bv_wk [(0, .ref a), (1, .long x), (3, .int pp), (4, .int (nI pw)), (5, .long lw), (7, .long hg), (9, .int (nI (i + 1)))] ⟨rfl, rfl, rfl, rfl, rfl, rfl, rfl, trivial⟩ ?_
      exact ih (i + 1) _ (by omega)
    refine bv_iload 18 rfl C d_M_isAbove_16 rfl ?_
    refine bv_bipush (v := nI 8) 20 rfl C d_M_isAbove_18 (by decide) ?_
    refine bv_icmp_ge 46 23 rfl C d_M_isAbove_20 (by decide) (fun h => absurd h (nI_ge (by omega) (by decide))) (fun h => ?_)
    refine bv_aload_n 24 rfl C d_M_isAbove_23 rfl ?_
    refine bv_get 305 21 27 rfl C k_M (by omega) ha ((mup (by decide)).trans hm) (by decide) t3_128 rfl d_M_isAbove_24 ?_
    refine bv_iload 29 rfl C d_M_isAbove_27 rfl ?_
    refine bv_iload 31 rfl C d_M_isAbove_29 rfl ?_
    refine bv_if_ne 38 34 rfl C d_M_isAbove_31 (by decide) (fun h => ?_) (fun h => ?_)
    · refine bv_lconst (v := 0) 39 rfl C d_M_isAbove_38 (by decide) ?_
      exact tl _
    · refine bv_lconst (v := 1) 35 rfl C d_M_isAbove_34 (by decide) ?_
      refine bv_goto 39 C d_M_isAbove_35 (by decide) ?_
      exact tl _
theorem lp_above3 (C : bCx p R s m args meth c c_M_isAbove R_M 15 (some .boolean) [] dd A) (hN : 323 ≤ N) (ha : ad 305 = a) (hm : w 305 = mO ad th ve wr cu dn) {ki : Int32}
    (hx : ∀ g, bV p l e R s m args below meth c dd A 15 mc ms post thr 110 (loB a x pp pw lw hg ki (-1)) [] ad (va_up w 322 (aL dd 8 g)) N cells slots) :
    ∀ (d : Nat) (g : Nat → Int64), d ≤ 8 → bV p l e R s m args below meth c dd A 15 mc ms post thr 60 (loB a x pp pw lw hg ki (bdn d)) [] ad (va_up w 322 (aL dd 8 g)) N cells slots := by
  intro d
  induction d with
  | zero =>
    intro g hi
    refine bv_iload 62 rfl C d_M_isAbove_60 rfl ?_
    refine bv_if_lt 110 65 rfl C d_M_isAbove_62 (by decide) (fun h => ?_) (fun h => absurd (show bdn 0 < 0 by decide) h)
    exact hx g
  | succ d ih =>
    intro g hi
    have tl : ∀ y z : Int64, bV p l e R s m args below meth c dd A 15 mc ms post thr 102 (loB a x pp pw lw hg ki (nI d)) [.long z, .long y, .int (nI d), .ref (ad 322)] ad (va_up w 322 (aL dd 8 g)) N cells slots := by
      intro y z
      refine bv_ladd 103 rfl C d_M_isAbove_102 ?_
      refine bv_last 322 d 104 rfl C (by omega) rfl (va_up_self _ _ _) rfl (by omega) (by decide) d_M_isAbove_103 ?_
      rw [bu_same]
      refine bv_iinc (v := (bdn d)) 107 rfl C d_M_isAbove_104 rfl (b_dec d) (by decide) ?_
      refine bv_goto 60 C d_M_isAbove_107 (by decide) ?_
      refine bv_wk [(0, .ref a), (1, .long x), (3, .int pp), (4, .int (nI pw)), (5, .long lw), (7, .long hg), (9, .int ki), (10, .int (bdn d))] ⟨rfl, rfl, rfl, rfl, rfl, rfl, rfl, rfl, trivial⟩ ?_
      exact ih _ (by omega)
    show bV p l e R s m args below meth c dd A 15 mc ms post thr 60 (loB a x pp pw lw hg ki (nI d)) [] ad (va_up w 322 (aL dd 8 g)) N cells slots
    refine bv_iload 62 rfl C d_M_isAbove_60 rfl ?_
    refine bv_if_lt 110 65 rfl C d_M_isAbove_62 (by decide) (fun h => absurd h (nI_pos (by omega))) (fun h => ?_)
    refine bv_aload_n 66 rfl C d_M_isAbove_65 rfl ?_
    refine bv_get 305 21 69 rfl C k_M (by omega) ha ((mup (by decide)).trans hm) (by decide) t3_128 rfl d_M_isAbove_66 ?_
    refine bv_iload 71 rfl C d_M_isAbove_69 rfl ?_
    refine bv_aload_n 72 rfl C d_M_isAbove_71 rfl ?_
    refine bv_get 305 21 75 rfl C k_M (by omega) ha ((mup (by decide)).trans hm) (by decide) t3_128 rfl d_M_isAbove_72 ?_
    refine bv_iload 77 rfl C d_M_isAbove_75 rfl ?_
    refine bv_lald 322 d 78 rfl C (by omega) rfl (va_up_self _ _ _) rfl (by omega) (by decide) d_M_isAbove_77 ?_
    refine bv_lload 80 rfl C d_M_isAbove_78 rfl ?_
    refine bv_lmul 81 rfl C d_M_isAbove_80 ?_
    refine bv_iload 83 rfl C d_M_isAbove_81 rfl ?_
    refine bv_if_le 101 86 rfl C d_M_isAbove_83 (by decide) (fun h => ?_) (fun h => ?_)
    · refine bv_lconst (v := 0) 102 rfl C d_M_isAbove_101 (by decide) ?_
      exact tl _ _
    · have hd : 0 < d := by
        cases d with
        | zero => exact absurd (show nI 0 ≤ 0 by decide) h
        | succ n => omega
      refine bv_aload_n 87 rfl C d_M_isAbove_86 rfl ?_
      refine bv_get 305 21 90 rfl C k_M (by omega) ha ((mup (by decide)).trans hm) (by decide) t3_128 rfl d_M_isAbove_87 ?_
      refine bv_iload 92 rfl C d_M_isAbove_90 rfl ?_
      refine bv_iconst (v := nI 1) 93 rfl C d_M_isAbove_92 (by decide) ?_
      refine bv_isub 94 rfl C d_M_isAbove_93 ?_
      refine bv_seti (nI (d - 1)) (pk_sub (show 1 ≤ d by omega)) ?_
      refine bv_lald 322 (d - 1) 95 rfl C (by omega) rfl (va_up_self _ _ _) rfl (by omega) (by decide) d_M_isAbove_94 ?_
      refine bv_lload 97 rfl C d_M_isAbove_95 rfl ?_
      refine bv_lmul 98 rfl C d_M_isAbove_97 ?_
      refine bv_goto 102 C d_M_isAbove_98 (by decide) ?_
      exact tl _ _
theorem lp_above4 (C : bCx p R s m args meth c c_M_isAbove R_M 15 (some .boolean) [] dd A) (hN : 323 ≤ N) (ha : ad 305 = a) (hm : w 305 = mO ad th ve wr cu dn) {ki : Int32}
    (hx : ∀ g, bV p l e R s m args below meth c dd A 15 mc ms post thr 166 (loB a x pp pw lw hg ki (nI 7)) [] ad (va_up w 322 (aL dd 8 g)) N cells slots) :
    ∀ (d i : Nat) (g : Nat → Int64), i + d = 7 → bV p l e R s m args below meth c dd A 15 mc ms post thr 113 (loB a x pp pw lw hg ki (nI i)) [] ad (va_up w 322 (aL dd 8 g)) N cells slots := by
  intro d
  induction d with
  | zero =>
    intro i g hi
    obtain rfl : i = 7 := by omega
    refine bv_iload 115 rfl C d_M_isAbove_113 rfl ?_
    refine bv_bipush (v := nI 7) 117 rfl C d_M_isAbove_115 (by decide) ?_
    refine bv_icmp_ge 166 120 rfl C d_M_isAbove_117 (by decide) (fun h => ?_) (fun h => absurd (nI_le (by decide) (by decide)) h)
    exact hx g
  | succ d ih =>
    intro i g hi
    refine bv_iload 115 rfl C d_M_isAbove_113 rfl ?_
    refine bv_bipush (v := nI 7) 117 rfl C d_M_isAbove_115 (by decide) ?_
    refine bv_icmp_ge 166 120 rfl C d_M_isAbove_117 (by decide) (fun h => absurd h (nI_ge (by omega) (by decide))) (fun h => ?_)
    refine bv_aload_n 121 rfl C d_M_isAbove_120 rfl ?_
    refine bv_get 305 21 124 rfl C k_M (by omega) ha ((mup (by decide)).trans hm) (by decide) t3_128 rfl d_M_isAbove_121 ?_
    refine bv_iload 126 rfl C d_M_isAbove_124 rfl ?_
    refine bv_iconst (v := nI 1) 127 rfl C d_M_isAbove_126 (by decide) ?_
    refine bv_iadd 128 rfl C d_M_isAbove_127 ?_
    refine bv_seti (nI (i + 1)) (nI_add i 1) ?_
    refine bv_dup2_11 129 rfl C d_M_isAbove_128 rfl rfl ?_
    refine bv_lald 322 (i + 1) 130 rfl C (by omega) rfl (va_up_self _ _ _) rfl (by omega) (by decide) d_M_isAbove_129 ?_
    refine bv_aload_n 131 rfl C d_M_isAbove_130 rfl ?_
    refine bv_get 305 21 134 rfl C k_M (by omega) ha ((mup (by decide)).trans hm) (by decide) t3_128 rfl d_M_isAbove_131 ?_
    refine bv_iload 136 rfl C d_M_isAbove_134 rfl ?_
    refine bv_lald 322 i 137 rfl C (by omega) rfl (va_up_self _ _ _) rfl (by omega) (by decide) d_M_isAbove_136 ?_
    refine bv_bipush (v := nI 20) 139 rfl C d_M_isAbove_137 (by decide) ?_
    refine bv_lshr 140 rfl C d_M_isAbove_139 rfl ?_
    refine bv_ladd 141 rfl C d_M_isAbove_140 ?_
    refine bv_last 322 (i + 1) 142 rfl C (by omega) rfl (va_up_self _ _ _) rfl (by omega) (by decide) d_M_isAbove_141 ?_
    rw [bu_same]
    refine bv_aload_n 143 rfl C d_M_isAbove_142 rfl ?_
    refine bv_get 305 21 146 rfl C k_M (by omega) ha ((mup (by decide)).trans hm) (by decide) t3_128 rfl d_M_isAbove_143 ?_
    refine bv_iload 148 rfl C d_M_isAbove_146 rfl ?_
    refine bv_aload_n 149 rfl C d_M_isAbove_148 rfl ?_
    refine bv_get 305 21 152 rfl C k_M (by omega) ha ((mup (by decide)).trans hm) (by decide) t3_128 rfl d_M_isAbove_149 ?_
    refine bv_iload 154 rfl C d_M_isAbove_152 rfl ?_
    refine bv_lald 322 i 155 rfl C (by omega) rfl (va_up_self _ _ _) rfl (by omega) (by decide) d_M_isAbove_154 ?_
    refine bv_ldc2 158 rfl C t3_106 d_M_isAbove_155 ?_
    refine bv_land 159 rfl C d_M_isAbove_158 ?_
    refine bv_last 322 i 160 rfl C (by omega) rfl (va_up_self _ _ _) rfl (by omega) (by decide) d_M_isAbove_159 ?_
    rw [bu_same]
    refine bv_iinc 163 rfl C d_M_isAbove_160 rfl (by first | exact b_inc _ | rfl) (by decide) ?_
    refine bv_goto 113 C d_M_isAbove_163 (by decide) ?_
    refine bv_wk [(0, .ref a), (1, .long x), (3, .int pp), (4, .int (nI pw)), (5, .long lw), (7, .long hg), (9, .int ki), (10, .int (nI (i + 1)))] ⟨rfl, rfl, rfl, rfl, rfl, rfl, rfl, rfl, trivial⟩ ?_
    exact ih (i + 1) _ (by omega)
theorem lp_above2 (C : bCx p R s m args meth c c_M_isAbove R_M 15 (some .boolean) [] dd A) (hN : 323 ≤ N) (ha : ad 305 = a) (hm : w 305 = mO ad th ve wr cu dn) (hpw : pw ≤ 3)
    (hx : ∀ g, bV p l e R s m args below meth c dd A 15 mc ms post thr 172 (loA a x pp pw lw hg (nI pw)) [] ad (va_up w 322 (aL dd 8 g)) N cells slots) :
    ∀ (d i : Nat) (g : Nat → Int64), i + d = pw → bV p l e R s m args below meth c dd A 15 mc ms post thr 49 (loA a x pp pw lw hg (nI i)) [] ad (va_up w 322 (aL dd 8 g)) N cells slots := by
  intro d
  induction d with
  | zero =>
    intro i g hi
    obtain rfl : i = pw := by omega
    refine bv_iload 51 rfl C d_M_isAbove_49 rfl ?_
    refine bv_iload 53 rfl C d_M_isAbove_51 rfl ?_
    refine bv_icmp_ge 172 56 rfl C d_M_isAbove_53 (by decide) (fun h => ?_) (fun h => absurd (nI_le (by omega) (by omega)) h)
    exact hx g
  | succ d ih =>
    intro i g hi
    refine bv_iload 51 rfl C d_M_isAbove_49 rfl ?_
    refine bv_iload 53 rfl C d_M_isAbove_51 rfl ?_
    refine bv_icmp_ge 172 56 rfl C d_M_isAbove_53 (by decide) (fun h => absurd h (nI_ge (by omega) (by omega))) (fun h => ?_)
    refine bv_bipush (v := nI 7) 58 rfl C d_M_isAbove_56 (by decide) ?_
    refine bv_istore 60 rfl C d_M_isAbove_58 (by decide) ?_
    refine bv_wk [(0, .ref a), (1, .long x), (3, .int pp), (4, .int (nI pw)), (5, .long lw), (7, .long hg), (9, .int (nI i)), (10, .int (bdn 8))] ⟨rfl, rfl, rfl, rfl, rfl, rfl, rfl, rfl, trivial⟩ ?_
    refine lp_above3 C hN ha hm (fun g1 => ?_) 8 g (Nat.le_refl _)
    refine bv_iconst (v := nI 0) 111 rfl C d_M_isAbove_110 (by decide) ?_
    refine bv_istore 113 rfl C d_M_isAbove_111 (by decide) ?_
    refine bv_wk [(0, .ref a), (1, .long x), (3, .int pp), (4, .int (nI pw)), (5, .long lw), (7, .long hg), (9, .int (nI i)), (10, .int (nI 0))] ⟨rfl, rfl, rfl, rfl, rfl, rfl, rfl, rfl, trivial⟩ ?_
    refine lp_above4 C hN ha hm (fun g2 => ?_) 7 0 g1 rfl
    refine bv_iinc 169 rfl C d_M_isAbove_166 rfl (by first | exact b_inc _ | rfl) (by decide) ?_
    refine bv_goto 49 C d_M_isAbove_169 (by decide) ?_
    refine bv_wk [(0, .ref a), (1, .long x), (3, .int pp), (4, .int (nI pw)), (5, .long lw), (7, .long hg), (9, .int (nI (i + 1)))] ⟨rfl, rfl, rfl, rfl, rfl, rfl, rfl, trivial⟩ ?_
    exact ih (i + 1) g2 (by omega)
theorem lp_above5 (C : bCx p R s m args meth c c_M_isAbove R_M 15 (some .boolean) [] dd A) (hN : 323 ≤ N) (ha : ad 305 = a) (hm : w 305 = mO ad th ve wr cu dn) {ka : Int32} {sd : Int64} {g : Nat → Int64}
    (hx : ∀ (r : Int32) (lo : Nat → Option Value), r = 0 ∨ r = 1 → bV p l e R s m args below meth c dd A 15 mc ms post thr 271 lo [.int r] ad (va_up w 322 (aL dd 8 g)) N cells slots) (hx2 : ∀ (lo : Nat → Option Value), bV p l e R s m args below meth c dd A 15 mc ms post thr 279 lo [.int (nI 0)] ad (va_up w 322 (aL dd 8 g)) N cells slots) :
    ∀ (d : Nat), d ≤ 8 → bV p l e R s m args below meth c dd A 15 mc ms post thr 199 (bO [(0, .ref a), (9, .int ka), (10, .long sd), (12, .int (bdn d))]) [] ad (va_up w 322 (aL dd 8 g)) N cells slots := by
  intro d
  induction d with
  | zero =>
    intro hi
    refine bv_iload 201 rfl C d_M_isAbove_199 rfl ?_
    refine bv_if_lt 278 204 rfl C d_M_isAbove_201 (by decide) (fun h => ?_) (fun h => absurd (show bdn 0 < 0 by decide) h)
    refine bv_iconst (v := nI 0) 279 rfl C d_M_isAbove_278 (by decide) ?_
    exact hx2 _
  | succ d ih =>
    intro hi
    have tl : ∀ y : Int64, bV p l e R s m args below meth c dd A 15 mc ms post thr 238 (bO [(0, .ref a), (9, .int ka), (10, .long sd), (12, .int (nI d))]) [.long y] ad (va_up w 322 (aL dd 8 g)) N cells slots := by
      intro y
      refine bv_lstore 240 rfl C d_M_isAbove_238 (by decide) ?_
      refine bv_aload_n 241 rfl C d_M_isAbove_240 rfl ?_
      refine bv_get 305 21 244 rfl C k_M (by omega) ha ((mup (by decide)).trans hm) (by decide) t3_128 rfl d_M_isAbove_241 ?_
      refine bv_iload 246 rfl C d_M_isAbove_244 rfl ?_
      refine bv_lald 322 d 247 rfl C (by omega) rfl (va_up_self _ _ _) rfl (by omega) (by decide) d_M_isAbove_246 ?_
      refine bv_lload 249 rfl C d_M_isAbove_247 rfl ?_
      refine bv_lcmp 250 rfl C d_M_isAbove_249 ?_
      refine bv_if_eq 272 253 rfl C d_M_isAbove_250 (by decide) (fun h => ?_) (fun h => ?_)
      · refine bv_iinc (v := (bdn d)) 275 rfl C d_M_isAbove_272 rfl (b_dec d) (by decide) ?_
        refine bv_goto 199 C d_M_isAbove_275 (by decide) ?_
        refine bv_wk [(0, .ref a), (9, .int ka), (10, .long sd), (12, .int (bdn d))] ⟨rfl, rfl, rfl, rfl, trivial⟩ ?_
        exact ih (by omega)
      · refine bv_aload_n 254 rfl C d_M_isAbove_253 rfl ?_
        refine bv_get 305 21 257 rfl C k_M (by omega) ha ((mup (by decide)).trans hm) (by decide) t3_128 rfl d_M_isAbove_254 ?_
        refine bv_iload 259 rfl C d_M_isAbove_257 rfl ?_
        refine bv_lald 322 d 260 rfl C (by omega) rfl (va_up_self _ _ _) rfl (by omega) (by decide) d_M_isAbove_259 ?_
        refine bv_lload 262 rfl C d_M_isAbove_260 rfl ?_
        refine bv_lcmp 263 rfl C d_M_isAbove_262 ?_
        refine bv_if_le 270 266 rfl C d_M_isAbove_263 (by decide) (fun h' => ?_) (fun h' => ?_)
        · refine bv_iconst (v := nI 0) 271 rfl C d_M_isAbove_270 (by decide) ?_
          exact hx _ _ (Or.inl rfl)
        · refine bv_iconst (v := nI 1) 267 rfl C d_M_isAbove_266 (by decide) ?_
          refine bv_goto 271 C d_M_isAbove_267 (by decide) ?_
          exact hx _ _ (Or.inr rfl)
    show bV p l e R s m args below meth c dd A 15 mc ms post thr 199 (bO [(0, .ref a), (9, .int ka), (10, .long sd), (12, .int (nI d))]) [] ad (va_up w 322 (aL dd 8 g)) N cells slots
    refine bv_iload 201 rfl C d_M_isAbove_199 rfl ?_
    refine bv_if_lt 278 204 rfl C d_M_isAbove_201 (by decide) (fun h => absurd h (nI_pos (by omega))) (fun h => ?_)
    refine bv_iload 206 rfl C d_M_isAbove_204 rfl ?_
    refine bv_iload 208 rfl C d_M_isAbove_206 rfl ?_
    refine bv_icmp_ne 220 211 rfl C d_M_isAbove_208 (by decide) (fun h => ?_) (fun h => ?_)
    · refine bv_iload 222 rfl C d_M_isAbove_220 rfl ?_
      refine bv_iload 224 rfl C d_M_isAbove_222 rfl ?_
      refine bv_iconst (v := nI 1) 225 rfl C d_M_isAbove_224 (by decide) ?_
      refine bv_iadd 226 rfl C d_M_isAbove_225 ?_
      refine bv_icmp_ne 237 229 rfl C d_M_isAbove_226 (by decide) (fun h' => ?_) (fun h' => ?_)
      · refine bv_lconst (v := 0) 238 rfl C d_M_isAbove_237 (by decide) ?_
        exact tl _
      · refine bv_lload 231 rfl C d_M_isAbove_229 rfl ?_
        refine bv_bipush (v := nI 20) 233 rfl C d_M_isAbove_231 (by decide) ?_
        refine bv_lshr 234 rfl C d_M_isAbove_233 rfl ?_
        refine bv_goto 238 C d_M_isAbove_234 (by decide) ?_
        exact tl _
    · refine bv_lload 213 rfl C d_M_isAbove_211 rfl ?_
      refine bv_ldc2 216 rfl C t3_106 d_M_isAbove_213 ?_
      refine bv_land 217 rfl C d_M_isAbove_216 ?_
      refine bv_goto 238 C d_M_isAbove_217 (by decide) ?_
      exact tl _
theorem ct_M_isAbove (hN : 323 ≤ N) (ha : ad 305 = a) (hm : w 305 = mO ad th ve wr cu dn) {g0 : Nat → Int64} (hl : w 322 = aL dd 8 g0) (hpw : pw ≤ 3) : bK l dd y_M_isAbove 0 0 0 0 [.ref a, .long x, .int pp, .int (nI pw)] ad w N (fun v ad' w' N' => ad = ad' ∧ N = N' ∧ (∃ g, w' = va_up w 322 (aL dd 8 g)) ∧ ∃ r : Int32, v = some (.int r)) bNo := by
  refine bK.start [(0, .ref a), (1, .long x), (3, .int pp), (4, .int (nI pw))] (by decide) t3_105 (Nat.le_of_ble_eq_true rfl) rfl (fun p e s m args below meth c A hnm C => ?_)
  refine bv_lload_n 1 rfl C d_M_isAbove_0 rfl ?_
  refine bv_ldc2 4 rfl C t3_106 d_M_isAbove_1 ?_
  refine bv_land 5 rfl C d_M_isAbove_4 ?_
  refine bv_lstore 7 rfl C d_M_isAbove_5 (by decide) ?_
  refine bv_lload_n 8 rfl C d_M_isAbove_7 rfl ?_
  refine bv_bipush (v := nI 20) 10 rfl C d_M_isAbove_8 (by decide) ?_
  refine bv_lshr 11 rfl C d_M_isAbove_10 rfl ?_
  refine bv_lstore 13 rfl C d_M_isAbove_11 (by decide) ?_
  refine bv_iconst (v := nI 0) 14 rfl C d_M_isAbove_13 (by decide) ?_
  refine bv_istore 16 rfl C d_M_isAbove_14 (by decide) ?_
  have hW : w = va_up w 322 (aL dd 8 g0) := by
    funext k
    by_cases hk : k = 322
    · rw [hk, va_up_self, hl]
    · rw [va_up_ne _ _ hk]
  refine bv_w (va_up w 322 (aL dd 8 g0)) (fun k _ => by rw [← hW]) ?_
  refine bv_wk [(0, .ref a), (1, .long x), (3, .int pp), (4, .int (nI pw)), (5, .long _), (7, .long _), (9, .int (nI 0))] ⟨rfl, rfl, rfl, rfl, rfl, rfl, rfl, trivial⟩ ?_
  refine lp_above1 C hN ha hm (fun g1 => ?_) 8 0 g0 rfl
  refine bv_iconst (v := nI 0) 47 rfl C d_M_isAbove_46 (by decide) ?_
  refine bv_istore 49 rfl C d_M_isAbove_47 (by decide) ?_
  refine bv_wk [(0, .ref a), (1, .long x), (3, .int pp), (4, .int (nI pw)), (5, .long _), (7, .long _), (9, .int (nI 0))] ⟨rfl, rfl, rfl, rfl, rfl, rfl, rfl, trivial⟩ ?_
  refine lp_above2 C hN ha hm hpw (fun g2 => ?_) pw 0 g1 (by omega)
  refine bv_bipush (v := nI 32) 174 rfl C d_M_isAbove_172 (by decide) ?_
  refine bv_iload 176 rfl C d_M_isAbove_174 rfl ?_
  refine bv_imul 177 rfl C d_M_isAbove_176 ?_
  refine bv_bipush (v := nI 20) 179 rfl C d_M_isAbove_177 (by decide) ?_
  refine bv_idiv 180 rfl C d_M_isAbove_179 (by decide) ?_
  refine bv_istore 182 rfl C d_M_isAbove_180 (by decide) ?_
  refine bv_iload_n 183 rfl C d_M_isAbove_182 rfl ?_
  refine bv_i2l 184 rfl C d_M_isAbove_183 rfl ?_
  refine bv_bipush (v := nI 32) 186 rfl C d_M_isAbove_184 (by decide) ?_
  refine bv_iload 188 rfl C d_M_isAbove_186 rfl ?_
  refine bv_imul 189 rfl C d_M_isAbove_188 ?_
  refine bv_bipush (v := nI 20) 191 rfl C d_M_isAbove_189 (by decide) ?_
  refine bv_irem 192 rfl C d_M_isAbove_191 (by decide) ?_
  refine bv_lshl 193 rfl C d_M_isAbove_192 rfl ?_
  refine bv_lstore 195 rfl C d_M_isAbove_193 (by decide) ?_
  refine bv_bipush (v := nI 7) 197 rfl C d_M_isAbove_195 (by decide) ?_
  refine bv_istore 199 rfl C d_M_isAbove_197 (by decide) ?_
  refine bv_wk [(0, .ref a), (9, .int _), (10, .long _), (12, .int (bdn 8))] ⟨rfl, rfl, rfl, rfl, trivial⟩ ?_
  refine lp_above5 C hN ha hm (fun r lo hr => ?_) (fun lo => ?_) 8 (Nat.le_refl _)
  · exact bv_zreturn C rfl hr d_M_isAbove_271 (Nat.le_refl _) (Nat.le_refl _) ⟨rfl, rfl, ⟨_, rfl⟩, _, rfl⟩
  · exact bv_zreturn C rfl (Or.inl rfl) d_M_isAbove_279 (Nat.le_refl _) (Nat.le_refl _) ⟨rfl, rfl, ⟨_, rfl⟩, _, rfl⟩
end bMa
end
section
section bMr
variable {p : Program} {l : Launch} {e : Env} {R : Room} {s : State} {m : MethodId} {args : Array Value} {below : List Frame} {meth : Method} {c : Code} {dd : bD} {A : Nat → Prop} {mc ms : Nat} {post : Option Value → (Nat → Nat) → (Nat → va_E) → Nat → Prop} {thr : String → (Nat → Nat) → (Nat → va_E) → Nat → Prop} {ad : Nat → Nat} {w : Nat → va_E} {N cells slots : Nat}
variable {a : Nat} {th ve wr cu dn pp : Int32} {pw : Nat}
theorem lp_root (C : bCx p R s m args meth c c_M_root R_M 6 (some .int) [] dd A) (hN : 323 ≤ N) (ha : ad 305 = a) (hm : w 305 = mO ad th ve wr cu dn) (hpw : pw ≤ 3) (hRf : 1 ≤ R.frames) (hRl : 34 ≤ R.locals) (hc : cells ≤ R.cells) (hs : slots ≤ R.slots)
    (hx : ∀ (x : Int64) (g : Nat → Int64), bV p l e R s m args below meth c dd A 6 mc ms post thr 39 (bO [(3, .long x)]) [] ad (va_up w 322 (aL dd 8 g)) N cells slots) :
    ∀ (d : Nat) (x : Int64) (g : Nat → Int64), d ≤ 36 → bV p l e R s m args below meth c dd A 6 mc ms post thr 6 (bO [(0, .ref a), (1, .int pp), (2, .int (nI pw)), (3, .long x), (5, .int (bdn d))]) [] ad (va_up w 322 (aL dd 8 g)) N cells slots := by
  intro d
  induction d with
  | zero =>
    intro x g hd
    refine bv_iload 8 rfl C d_M_root_6 rfl ?_
    refine bv_if_lt 39 11 rfl C d_M_root_8 (by decide) (fun h => ?_) (fun h => absurd (show bdn 0 < 0 by decide) h)
    refine bv_wk [(3, .long x)] ⟨rfl, trivial⟩ ?_
    exact hx x g
  | succ d ih =>
    intro x g hd
    have tl : ∀ (y : Int64) (g1 : Nat → Int64), bV p l e R s m args below meth c dd A 6 mc ms post thr 33 (bO [(0, .ref a), (1, .int pp), (2, .int (nI pw)), (3, .long y), (5, .int (nI d))]) [] ad (va_up w 322 (aL dd 8 g1)) N cells slots := by
      intro y g1
      refine bv_iinc (v := (bdn d)) 36 rfl C d_M_root_33 rfl (b_dec d) (by decide) ?_
      refine bv_goto 6 C d_M_root_36 (by decide) ?_
      refine bv_wk [(0, .ref a), (1, .int pp), (2, .int (nI pw)), (3, .long y), (5, .int (bdn d))] ⟨rfl, rfl, rfl, rfl, rfl, trivial⟩ ?_
      exact ih y g1 (by omega)
    show bV p l e R s m args below meth c dd A 6 mc ms post thr 6 (bO [(0, .ref a), (1, .int pp), (2, .int (nI pw)), (3, .long x), (5, .int (nI d))]) [] ad (va_up w 322 (aL dd 8 g)) N cells slots
    refine bv_iload 8 rfl C d_M_root_6 rfl ?_
    refine bv_if_lt 39 11 rfl C d_M_root_8 (by decide) (fun h => absurd h (nI_pos (by omega))) (fun h => ?_)
    refine bv_aload_n 12 rfl C d_M_root_11 rfl ?_
    refine bv_lload_n 13 rfl C d_M_root_12 rfl ?_
    refine bv_lconst (v := 1) 14 rfl C d_M_root_13 (by decide) ?_
    refine bv_iload 16 rfl C d_M_root_14 rfl ?_
    refine bv_lshl 17 rfl C d_M_root_16 rfl ?_
    refine bv_lor 18 rfl C d_M_root_17 ?_
    refine bv_iload_n 19 rfl C d_M_root_18 rfl ?_
    refine bv_iload_n 20 rfl C d_M_root_19 rfl ?_
    refine bv_call (rest := []) 23 rfl C d_M_root_20 (ct_M_isAbove (th := th) (ve := ve) (wr := wr) (cu := cu) (dn := dn) hN ha ((mup (by decide)).trans hm) (va_up_self _ _ _) hpw) i_M_isAbove t1_8 (fun H locs ls hP => bs_V (av := [.long _, .int pp, .int (nI pw)]) 305 C i_M_isAbove t3_102 t3_104 s_37 (by omega) ha ((mup (by decide)).trans hm) rfl (by decide) rfl rfl d_M_root_20 H locs ls hP) ⟨by first | decide | omega, by first | decide | omega⟩ (by omega) (by omega) (Nat.le_of_ble_eq_true rfl) (fun v ad1 w1 N1 hpo => ?_) (fun x Cn ad' w' N' hth => hth.elim)
    obtain ⟨rfl, rfl, ⟨g1, rfl⟩, r, rfl⟩ := hpo
    rw [bu_same]
    refine bv_cs cells slots (Nat.le_refl _) (Nat.le_refl _) ?_
    show bV p l e R s m args below meth c dd A 6 mc ms post thr 23 _ [.int r] _ _ _ cells slots
    refine bv_if_ne 33 26 rfl C d_M_root_23 (by decide) (fun h => ?_) (fun h => ?_)
    · refine bv_wk [(0, .ref a), (1, .int pp), (2, .int (nI pw)), (3, .long x), (5, .int (nI d))] ⟨rfl, rfl, rfl, rfl, rfl, trivial⟩ ?_
      exact tl x g1
    · refine bv_lload_n 27 rfl C d_M_root_26 rfl ?_
      refine bv_lconst (v := 1) 28 rfl C d_M_root_27 (by decide) ?_
      refine bv_iload 30 rfl C d_M_root_28 rfl ?_
      refine bv_lshl 31 rfl C d_M_root_30 rfl ?_
      refine bv_lor 32 rfl C d_M_root_31 ?_
      refine bv_lstore_n 33 rfl C d_M_root_32 (by decide) ?_
      refine bv_wk [(0, .ref a), (1, .int pp), (2, .int (nI pw)), (3, .long _), (5, .int (nI d))] ⟨rfl, rfl, rfl, rfl, rfl, trivial⟩ ?_
      exact tl _ g1
theorem ct_M_root (hN : 323 ≤ N) (ha : ad 305 = a) (hm : w 305 = mO ad th ve wr cu dn) {g0 : Nat → Int64} (hl : w 322 = aL dd 8 g0) (hpw : pw ≤ 3) : bK l dd y_M_root 1 34 0 0 [.ref a, .int pp, .int (nI pw)] ad w N (fun v ad' w' N' => ad = ad' ∧ N = N' ∧ (∃ g, w' = va_up w 322 (aL dd 8 g)) ∧ ∃ r : Int32, v = some (.int r)) bNo := by
  refine bK.start [(0, .ref a), (1, .int pp), (2, .int (nI pw))] (by decide) t3_101 (Nat.le_of_ble_eq_true rfl) rfl (fun p e s m args below meth c A hnm C => ?_)
  refine bv_lconst (v := 0) 1 rfl C d_M_root_0 (by decide) ?_
  refine bv_lstore_n 2 rfl C d_M_root_1 (by decide) ?_
  refine bv_bipush (v := nI 35) 4 rfl C d_M_root_2 (by decide) ?_
  refine bv_istore 6 rfl C d_M_root_4 (by decide) ?_
  have hW : w = va_up w 322 (aL dd 8 g0) := by
    funext k
    by_cases hk : k = 322
    · rw [hk, va_up_self, hl]
    · rw [va_up_ne _ _ hk]
  refine bv_w (va_up w 322 (aL dd 8 g0)) (fun k _ => by rw [← hW]) ?_
  refine bv_wk [(0, .ref a), (1, .int pp), (2, .int (nI pw)), (3, .long 0), (5, .int (bdn 36))] ⟨rfl, rfl, rfl, rfl, rfl, trivial⟩ ?_
  refine lp_root C hN ha hm hpw (by decide) (by decide) (by decide) (by decide) (fun x g => ?_) 36 0 g0 (Nat.le_refl _)
  refine bv_lload_n 40 rfl C d_M_root_39 rfl ?_
  refine bv_l2i 41 rfl C d_M_root_40 rfl ?_
  exact bv_ireturn C rfl d_M_root_41 (Nat.le_refl _) (Nat.le_refl _) ⟨rfl, rfl, ⟨_, rfl⟩, _, rfl⟩
end bMr
end
section
def cntp : Nat → Nat
  | 0 => 0
  | q + 1 => cntp q + (if 2 ≤ q ∧ pr 20 2 q = true then 1 else 0)
theorem cntp_lt : ∀ q, q < 312 → cntp q < 64 := by decide +kernel
theorem cntp_end : cntp 312 = 64 := by decide +kernel
/-- the constants' and the limbs' cells -/
abbrev wM (dd : bD) (w : Nat → va_E) (f : Nat → Int32) (g : Nat → Int64) : Nat → va_E := va_up (va_up w 322 (aL dd 8 g)) 318 (aI dd 72 f)
theorem wM_l {dd : bD} {w : Nat → va_E} {f : Nat → Int32} {g g' : Nat → Int64} : va_up (wM dd w f g) 322 (aL dd 8 g') = wM dd w f g' := by
  funext k
  simp only [va_up]
  split <;> split <;> first | rfl | omega
theorem wM_c {dd : bD} {w : Nat → va_E} {f f' : Nat → Int32} {g : Nat → Int64} : va_up (wM dd w f g) 318 (aI dd 72 f') = wM dd w f' g := by
  funext k
  simp only [va_up]
  split <;> rfl
theorem wM_o {dd : bD} {w : Nat → va_E} {f : Nat → Int32} {g : Nat → Int64} {k : Nat} (h1 : k ≠ 318) (h2 : k ≠ 322) : wM dd w f g k = w k := by
  show va_up (va_up w 322 (aL dd 8 g)) 318 (aI dd 72 f) k = w k
  rw [va_up_ne _ _ h1, va_up_ne _ _ h2]
theorem wM_318 {dd : bD} {w : Nat → va_E} {f : Nat → Int32} {g : Nat → Int64} : wM dd w f g 318 = aI dd 72 f := va_up_self _ _ _
theorem wM_322 {dd : bD} {w : Nat → va_E} {f : Nat → Int32} {g : Nat → Int64} : wM dd w f g 322 = aL dd 8 g := by
  show va_up (va_up w 322 (aL dd 8 g)) 318 (aI dd 72 f) 322 = _
  rw [va_up_ne _ _ (by decide), va_up_self]
section bMi
variable {p : Program} {l : Launch} {e : Env} {R : Room} {s : State} {m : MethodId} {args : Array Value} {below : List Frame} {meth : Method} {c : Code} {dd : bD} {A : Nat → Prop} {mc ms : Nat} {post : Option Value → (Nat → Nat) → (Nat → va_E) → Nat → Prop} {thr : String → (Nat → Nat) → (Nat → va_E) → Nat → Prop} {ad : Nat → Nat} {w : Nat → va_E} {cells slots : Nat}
variable {a : Nat} {th ve wr cu dn : Int32}
theorem lp_M_init (C : bCx p R s m args meth c c_M_init R_M 3 none [] dd A) (ha : ad 305 = a) (hm : w 305 = mO ad th ve wr cu dn) (hRf : 2 ≤ R.frames) (hRl : 59 ≤ R.locals) (hc : cells ≤ R.cells) (hs : slots ≤ R.slots)
    (hx : ∀ (f : Nat → Int32) (g : Nat → Int64), bV p l e R s m args below meth c dd A 3 mc ms post thr 206 (bO []) [] ad (wM dd w f g) 323 cells slots) :
    ∀ (d q : Nat) (f : Nat → Int32) (g : Nat → Int64), q + d = 312 → 2 ≤ q → bV p l e R s m args below meth c dd A 3 mc ms post thr 148 (bO [(0, .ref a), (1, .int (nI (cntp q))), (2, .int (nI q))]) [] ad (wM dd w f g) 323 cells slots := by
  intro d
  induction d with
  | zero =>
    intro q f g hq h2
    obtain rfl : q = 312 := by omega
    refine bv_iload_n 149 rfl C d_M_init_148 rfl ?_
    refine bv_bipush (v := nI 64) 151 rfl C d_M_init_149 (by decide) ?_
    refine bv_icmp_ge 206 154 rfl C d_M_init_151 (by decide) (fun h => ?_) (fun h => absurd (by rw [cntp_end]; exact nI_le (Nat.le_refl _) (by decide)) h)
    refine bv_wk [] trivial ?_
    exact hx f g
  | succ d ih =>
    intro q f g hq h2
    have hn := cntp_lt q (by omega)
    have tl : ∀ (f1 : Nat → Int32) (g1 : Nat → Int64) (n : Nat), n = cntp (q + 1) → bV p l e R s m args below meth c dd A 3 mc ms post thr 200 (bO [(0, .ref a), (1, .int (nI n)), (2, .int (nI q))]) [] ad (wM dd w f1 g1) 323 cells slots := by
      intro f1 g1 n hn1
      subst hn1
      refine bv_iinc 203 rfl C d_M_init_200 rfl (by first | exact b_inc _ | rfl) (by decide) ?_
      refine bv_goto 148 C d_M_init_203 (by decide) ?_
      refine bv_wk [(0, .ref a), (1, .int (nI (cntp (q + 1)))), (2, .int (nI (q + 1)))] ⟨rfl, rfl, rfl, trivial⟩ ?_
      exact ih (q + 1) f1 g1 (by omega) (by omega)
    refine bv_iload_n 149 rfl C d_M_init_148 rfl ?_
    refine bv_bipush (v := nI 64) 151 rfl C d_M_init_149 (by decide) ?_
    refine bv_icmp_ge 206 154 rfl C d_M_init_151 (by decide) (fun h => absurd h (nI_ge hn (by decide))) (fun h => ?_)
    refine bv_iload_n 155 rfl C d_M_init_154 rfl ?_
    refine bv_call (rest := []) 158 rfl C d_M_init_155 (ct_M_isPrime (q := q) (by omega)) i_M_isPrime t1_8 (fun H locs ls _ => bs_S (av := [.int (nI q)]) C i_M_isPrime t3_95 t3_96 t1_8 (by decide) rfl rfl d_M_init_155 H locs ls) ⟨by first | decide | omega, by first | decide | omega⟩ (by omega) (by omega) (Nat.le_of_ble_eq_true rfl) (fun v ad1 w1 N1 hpo => ?_) (fun x Cn ad' w' N' hth => hth.elim)
    obtain ⟨rfl, rfl, rfl, rfl⟩ := hpo
    refine bv_cs cells slots (Nat.le_refl _) (Nat.le_refl _) ?_
    show bV p l e R s m args below meth c dd A 3 mc ms post thr 158 _ [.int (nI (cond (pr 20 2 q) 1 0))] _ _ _ cells slots
    cases hpr : pr 20 2 q with
    | false =>
      have hc1 : cntp (q + 1) = cntp q := by simp [cntp, hpr]
      refine bv_if_ne 164 161 rfl C d_M_init_158 (by decide) (fun h => absurd (show nI (cond false 1 0) = 0 by decide) h) (fun h => ?_)
      refine bv_goto 200 C d_M_init_161 (by decide) ?_
      exact tl f g _ hc1.symm
    | true =>
      have hc1 : cntp (q + 1) = cntp q + 1 := by simp [cntp, hpr, h2]
      refine bv_if_ne 164 161 rfl C d_M_init_158 (by decide) (fun h => ?_) (fun h => absurd h (show ¬ nI (cond true 1 0) = 0 by decide))
      refine bv_aload_n 165 rfl C d_M_init_164 rfl ?_
      refine bv_get 305 17 168 rfl C k_M (by omega) ha ((wM_o (by decide) (by decide)).trans hm) (by decide) t3_124 rfl d_M_init_165 ?_
      refine bv_iload_n 169 rfl C d_M_init_168 rfl ?_
      refine bv_aload_n 170 rfl C d_M_init_169 rfl ?_
      refine bv_iload_n 171 rfl C d_M_init_170 rfl ?_
      refine bv_iconst (v := nI 3) 172 rfl C d_M_init_171 (by decide) ?_
      refine bv_call (rest := [.int (nI (cntp q)), .ref (ad 318)]) 175 rfl C d_M_init_172 (ct_M_root (th := th) (ve := ve) (wr := wr) (cu := cu) (dn := dn) (by omega) ha ((wM_o (by decide) (by decide)).trans hm) wM_322 (show 3 ≤ 3 by omega)) i_M_root t1_8 (fun H locs ls hP => bs_V (av := [.int (nI q), .int (nI 3)]) 305 C i_M_root t3_98 t3_100 s_36 (by omega) ha ((wM_o (by decide) (by decide)).trans hm) rfl (by decide) rfl rfl d_M_init_172 H locs ls hP) ⟨by first | decide | omega, by first | decide | omega⟩ (by omega) (by omega) (Nat.le_of_ble_eq_true rfl) (fun v ad1 w1 N1 hpo => ?_) (fun x Cn ad' w' N' hth => hth.elim)
      obtain ⟨rfl, rfl, ⟨g1, rfl⟩, r, rfl⟩ := hpo
      rw [wM_l]
      refine bv_cs cells slots (Nat.le_refl _) (Nat.le_refl _) ?_
      show bV p l e R s m args below meth c dd A 3 mc ms post thr 175 _ [.int r, .int (nI (cntp q)), .ref (ad 318)] _ _ _ cells slots
      refine bv_iast 318 (cntp q) 176 rfl C (by omega) rfl (va_up_self _ _ _) rfl (by omega) (by decide) d_M_init_175 ?_
      rw [wM_c]
      refine bv_iload_n 177 rfl C d_M_init_176 rfl ?_
      refine bv_bipush (v := nI 8) 179 rfl C d_M_init_177 (by decide) ?_
      refine bv_icmp_ge 197 182 rfl C d_M_init_179 (by decide) (fun h => ?_) (fun h => ?_)
      · refine bv_iinc 200 rfl C d_M_init_197 rfl (by first | exact b_inc _ | rfl) (by decide) ?_
        refine bv_wk [(0, .ref a), (1, .int (nI (cntp q + 1))), (2, .int (nI q))] ⟨rfl, rfl, rfl, trivial⟩ ?_
        exact tl _ _ _ hc1.symm
      · have h8 : cntp q < 8 := by
          rw [nI_leI (by decide) (by omega)] at h
          omega
        refine bv_aload_n 183 rfl C d_M_init_182 rfl ?_
        refine bv_get 305 17 186 rfl C k_M (by omega) ha ((wM_o (by decide) (by decide)).trans hm) (by decide) t3_124 rfl d_M_init_183 ?_
        refine bv_bipush (v := nI 64) 188 rfl C d_M_init_186 (by decide) ?_
        refine bv_iload_n 189 rfl C d_M_init_188 rfl ?_
        refine bv_iadd 190 rfl C d_M_init_189 ?_
        refine bv_seti (nI (64 + cntp q)) (nI_add 64 _) ?_
        refine bv_aload_n 191 rfl C d_M_init_190 rfl ?_
        refine bv_iload_n 192 rfl C d_M_init_191 rfl ?_
        refine bv_iconst (v := nI 2) 193 rfl C d_M_init_192 (by decide) ?_
        refine bv_call (rest := [.int (nI (64 + cntp q)), .ref (ad 318)]) 196 rfl C d_M_init_193 (ct_M_root (th := th) (ve := ve) (wr := wr) (cu := cu) (dn := dn) (by omega) ha ((wM_o (by decide) (by decide)).trans hm) wM_322 (show 2 ≤ 3 by omega)) i_M_root t1_8 (fun H locs ls hP => bs_V (av := [.int (nI q), .int (nI 2)]) 305 C i_M_root t3_98 t3_100 s_36 (by omega) ha ((wM_o (by decide) (by decide)).trans hm) rfl (by decide) rfl rfl d_M_init_193 H locs ls hP) ⟨by first | decide | omega, by first | decide | omega⟩ (by omega) (by omega) (Nat.le_of_ble_eq_true rfl) (fun v ad2 w2 N2 hpo => ?_) (fun x Cn ad' w' N' hth => hth.elim)
        obtain ⟨rfl, rfl, ⟨g2, rfl⟩, r2, rfl⟩ := hpo
        rw [wM_l]
        refine bv_cs cells slots (Nat.le_refl _) (Nat.le_refl _) ?_
        show bV p l e R s m args below meth c dd A 3 mc ms post thr 196 _ [.int r2, .int (nI (64 + cntp q)), .ref (ad 318)] _ _ _ cells slots
        refine bv_iast 318 (64 + cntp q) 197 rfl C (by omega) rfl (va_up_self _ _ _) rfl (by omega) (by decide) d_M_init_196 ?_
        rw [wM_c]
        refine bv_iinc 200 rfl C d_M_init_197 rfl (by first | exact b_inc _ | rfl) (by decide) ?_
        refine bv_wk [(0, .ref a), (1, .int (nI (cntp q + 1))), (2, .int (nI q))] ⟨rfl, rfl, rfl, trivial⟩ ?_
        exact tl _ _ _ hc1.symm
end bMi
/-- the reference behind its constructor: cells 305 to 322 -/
def FM (dd : bD) (ad : Nat → Nat) (w : Nat → va_E) : Prop :=
  w 305 = mO ad 0 0 0 (-1) 0 ∧ w 306 = aI dd 48 (fun _ => 0) ∧ w 307 = aI dd 384 (fun _ => 0) ∧ w 308 = aZ dd 5 (fun _ => 0) ∧ w 309 = aI dd 5 (fun _ => 0) ∧ w 310 = aI dd 5 (fun _ => 0) ∧ w 311 = aI dd 35 (fun _ => 0) ∧ w 312 = aI dd 105 (fun _ => 0) ∧ w 313 = aZ dd 41 (fun _ => 0) ∧ w 314 = aI dd 41 (fun _ => 0) ∧ w 315 = aI dd 41 (fun _ => 0) ∧ w 316 = aI dd 41 (fun _ => 0) ∧ w 317 = aI dd 738 (fun _ => 0) ∧ (∃ f, w 318 = aI dd 72 f) ∧ w 319 = aI dd 64 (fun _ => 0) ∧ w 320 = aI dd 8 (fun _ => 0) ∧ w 321 = aI dd 24 (fun _ => 0) ∧ (∃ g, w 322 = aL dd 8 g)
section bMj
variable {l : Launch} {dd : bD} {ad : Nat → Nat} {w : Nat → va_E}
/-- BlobStoreModel() -/
theorem ct_M_init {a : Nat} (ha : ad 305 = a) (hw : w 305 = .inr (7, [.int 0, .null, .null, .null, .null, .null, .null, .null, .int 0, .null, .null, .null, .null, .null, .int 0, .int 0, .int 0, .null, .null, .null, .null, .null])) : bK l dd y_M_init 2 59 17 1665 [.ref a] ad w 306 (fun v ad' w' N' => v = none ∧ N' = 323 ∧ (∀ i, i < 306 → ad' i = ad i) ∧ (∀ i, i < 305 → w' i = w i) ∧ FM dd ad' w') bNo := by
  refine bK.start [(0, .ref a)] (by decide) t3_93 (Nat.le_of_ble_eq_true rfl) rfl (fun p e s m args below meth c A hnm C => ?_)
  have e305_0 : ad 305 = a := ha
  have g_0 : ∀ i, i < 306 → ad i = ad i := fun _ _ => rfl
  refine bv_aload_n 1 rfl C d_M_init_0 rfl ?_
  refine bv_objInit 4 rfl C t3_94 t1_26 t1_27 (by decide) (by decide) d_M_init_1 ?_
  refine bv_aload_n 5 rfl C d_M_init_4 rfl ?_
  refine bv_bipush (v := nI 48) 7 rfl C d_M_init_5 (by decide) ?_
  refine bv_newa (atype := .int) (ty := .int) (a0 := (48, .inl (fun _ => 0))) 0 48 9 rfl C rfl rfl (by intro Cn h; cases h) t1_56 (fun cA => rfl) rfl (by decide) (by decide) (by decide) (by decide) d_M_init_7 (fun ad1 had1 => ?_)
  have e305_1 : ad1 305 = a := (had1 305 (by decide)).trans e305_0
  have g_1 : ∀ i, i < 306 → ad1 i = ad i := fun i hi => (had1 i (by omega)).trans (g_0 i hi)
  obtain ⟨q306, e306_1⟩ : ∃ q, ad1 306 = q := ⟨_, rfl⟩
  rw [e306_1]
  refine bv_putF 305 1 12 rfl C k_M (by decide) e305_1 (by simp [va_up, hw]; rfl) (by decide) t3_108 rfl hnm rfl rfl rfl (Nat.le_of_ble_eq_true rfl) d_M_init_9 ?_
  refine bv_aload_n 13 rfl C d_M_init_12 rfl ?_
  refine bv_sipush (v := nI 384) 16 rfl C d_M_init_13 (by decide) ?_
  refine bv_newa (atype := .int) (ty := .int) (a0 := (384, .inl (fun _ => 0))) 0 384 18 rfl C rfl rfl (by intro Cn h; cases h) t1_56 (fun cA => rfl) rfl (by decide) (by decide) (by decide) (by decide) d_M_init_16 (fun ad2 had2 => ?_)
  have e305_2 : ad2 305 = a := (had2 305 (by decide)).trans e305_1
  have e306_2 : ad2 306 = q306 := (had2 306 (by decide)).trans e306_1
  have g_2 : ∀ i, i < 306 → ad2 i = ad i := fun i hi => (had2 i (by omega)).trans (g_1 i hi)
  obtain ⟨q307, e307_2⟩ : ∃ q, ad2 307 = q := ⟨_, rfl⟩
  rw [e307_2]
  refine bv_putF 305 2 21 rfl C k_M (by decide) e305_2 (by simp [va_up]; rfl) (by decide) t3_109 rfl hnm rfl rfl rfl (Nat.le_of_ble_eq_true rfl) d_M_init_18 ?_
  refine bv_aload_n 22 rfl C d_M_init_21 rfl ?_
  refine bv_iconst (v := nI 5) 23 rfl C d_M_init_22 (by decide) ?_
  refine bv_newa (atype := .boolean) (ty := .boolean) (a0 := (5, .inl (fun _ => 0))) 2 5 25 rfl C rfl rfl (by intro Cn h; cases h) t3_174 (fun cA => rfl) rfl (by decide) (by decide) (by decide) (by decide) d_M_init_23 (fun ad3 had3 => ?_)
  have e305_3 : ad3 305 = a := (had3 305 (by decide)).trans e305_2
  have e306_3 : ad3 306 = q306 := (had3 306 (by decide)).trans e306_2
  have e307_3 : ad3 307 = q307 := (had3 307 (by decide)).trans e307_2
  have g_3 : ∀ i, i < 306 → ad3 i = ad i := fun i hi => (had3 i (by omega)).trans (g_2 i hi)
  obtain ⟨q308, e308_3⟩ : ∃ q, ad3 308 = q := ⟨_, rfl⟩
  rw [e308_3]
  refine bv_putF 305 3 28 rfl C k_M (by decide) e305_3 (by simp [va_up]; rfl) (by decide) t3_110 rfl hnm rfl rfl rfl (Nat.le_of_ble_eq_true rfl) d_M_init_25 ?_
  refine bv_aload_n 29 rfl C d_M_init_28 rfl ?_
  refine bv_iconst (v := nI 5) 30 rfl C d_M_init_29 (by decide) ?_
  refine bv_newa (atype := .int) (ty := .int) (a0 := (5, .inl (fun _ => 0))) 0 5 32 rfl C rfl rfl (by intro Cn h; cases h) t1_56 (fun cA => rfl) rfl (by decide) (by decide) (by decide) (by decide) d_M_init_30 (fun ad4 had4 => ?_)
  have e305_4 : ad4 305 = a := (had4 305 (by decide)).trans e305_3
  have e306_4 : ad4 306 = q306 := (had4 306 (by decide)).trans e306_3
  have e307_4 : ad4 307 = q307 := (had4 307 (by decide)).trans e307_3
  have e308_4 : ad4 308 = q308 := (had4 308 (by decide)).trans e308_3
  have g_4 : ∀ i, i < 306 → ad4 i = ad i := fun i hi => (had4 i (by omega)).trans (g_3 i hi)
  obtain ⟨q309, e309_4⟩ : ∃ q, ad4 309 = q := ⟨_, rfl⟩
  rw [e309_4]
  refine bv_putF 305 4 35 rfl C k_M (by decide) e305_4 (by simp [va_up]; rfl) (by decide) t3_111 rfl hnm rfl rfl rfl (Nat.le_of_ble_eq_true rfl) d_M_init_32 ?_
  refine bv_aload_n 36 rfl C d_M_init_35 rfl ?_
  refine bv_iconst (v := nI 5) 37 rfl C d_M_init_36 (by decide) ?_
  refine bv_newa (atype := .int) (ty := .int) (a0 := (5, .inl (fun _ => 0))) 0 5 39 rfl C rfl rfl (by intro Cn h; cases h) t1_56 (fun cA => rfl) rfl (by decide) (by decide) (by decide) (by decide) d_M_init_37 (fun ad5 had5 => ?_)
  have e305_5 : ad5 305 = a := (had5 305 (by decide)).trans e305_4
  have e306_5 : ad5 306 = q306 := (had5 306 (by decide)).trans e306_4
  have e307_5 : ad5 307 = q307 := (had5 307 (by decide)).trans e307_4
  have e308_5 : ad5 308 = q308 := (had5 308 (by decide)).trans e308_4
  have e309_5 : ad5 309 = q309 := (had5 309 (by decide)).trans e309_4
  have g_5 : ∀ i, i < 306 → ad5 i = ad i := fun i hi => (had5 i (by omega)).trans (g_4 i hi)
  obtain ⟨q310, e310_5⟩ : ∃ q, ad5 310 = q := ⟨_, rfl⟩
  rw [e310_5]
  refine bv_putF 305 5 42 rfl C k_M (by decide) e305_5 (by simp [va_up]; rfl) (by decide) t3_112 rfl hnm rfl rfl rfl (Nat.le_of_ble_eq_true rfl) d_M_init_39 ?_
  refine bv_aload_n 43 rfl C d_M_init_42 rfl ?_
  refine bv_bipush (v := nI 35) 45 rfl C d_M_init_43 (by decide) ?_
  refine bv_newa (atype := .int) (ty := .int) (a0 := (35, .inl (fun _ => 0))) 0 35 47 rfl C rfl rfl (by intro Cn h; cases h) t1_56 (fun cA => rfl) rfl (by decide) (by decide) (by decide) (by decide) d_M_init_45 (fun ad6 had6 => ?_)
  have e305_6 : ad6 305 = a := (had6 305 (by decide)).trans e305_5
  have e306_6 : ad6 306 = q306 := (had6 306 (by decide)).trans e306_5
  have e307_6 : ad6 307 = q307 := (had6 307 (by decide)).trans e307_5
  have e308_6 : ad6 308 = q308 := (had6 308 (by decide)).trans e308_5
  have e309_6 : ad6 309 = q309 := (had6 309 (by decide)).trans e309_5
  have e310_6 : ad6 310 = q310 := (had6 310 (by decide)).trans e310_5
  have g_6 : ∀ i, i < 306 → ad6 i = ad i := fun i hi => (had6 i (by omega)).trans (g_5 i hi)
  obtain ⟨q311, e311_6⟩ : ∃ q, ad6 311 = q := ⟨_, rfl⟩
  rw [e311_6]
  refine bv_putF 305 6 50 rfl C k_M (by decide) e305_6 (by simp [va_up]; rfl) (by decide) t3_113 rfl hnm rfl rfl rfl (Nat.le_of_ble_eq_true rfl) d_M_init_47 ?_
  refine bv_aload_n 51 rfl C d_M_init_50 rfl ?_
  refine bv_bipush (v := nI 105) 53 rfl C d_M_init_51 (by decide) ?_
  refine bv_newa (atype := .int) (ty := .int) (a0 := (105, .inl (fun _ => 0))) 0 105 55 rfl C rfl rfl (by intro Cn h; cases h) t1_56 (fun cA => rfl) rfl (by decide) (by decide) (by decide) (by decide) d_M_init_53 (fun ad7 had7 => ?_)
  have e305_7 : ad7 305 = a := (had7 305 (by decide)).trans e305_6
  have e306_7 : ad7 306 = q306 := (had7 306 (by decide)).trans e306_6
  have e307_7 : ad7 307 = q307 := (had7 307 (by decide)).trans e307_6
  have e308_7 : ad7 308 = q308 := (had7 308 (by decide)).trans e308_6
  have e309_7 : ad7 309 = q309 := (had7 309 (by decide)).trans e309_6
  have e310_7 : ad7 310 = q310 := (had7 310 (by decide)).trans e310_6
  have e311_7 : ad7 311 = q311 := (had7 311 (by decide)).trans e311_6
  have g_7 : ∀ i, i < 306 → ad7 i = ad i := fun i hi => (had7 i (by omega)).trans (g_6 i hi)
  obtain ⟨q312, e312_7⟩ : ∃ q, ad7 312 = q := ⟨_, rfl⟩
  rw [e312_7]
  refine bv_putF 305 7 58 rfl C k_M (by decide) e305_7 (by simp [va_up]; rfl) (by decide) t3_114 rfl hnm rfl rfl rfl (Nat.le_of_ble_eq_true rfl) d_M_init_55 ?_
  refine bv_aload_n 59 rfl C d_M_init_58 rfl ?_
  refine bv_bipush (v := nI 41) 61 rfl C d_M_init_59 (by decide) ?_
  refine bv_newa (atype := .boolean) (ty := .boolean) (a0 := (41, .inl (fun _ => 0))) 2 41 63 rfl C rfl rfl (by intro Cn h; cases h) t3_174 (fun cA => rfl) rfl (by decide) (by decide) (by decide) (by decide) d_M_init_61 (fun ad8 had8 => ?_)
  have e305_8 : ad8 305 = a := (had8 305 (by decide)).trans e305_7
  have e306_8 : ad8 306 = q306 := (had8 306 (by decide)).trans e306_7
  have e307_8 : ad8 307 = q307 := (had8 307 (by decide)).trans e307_7
  have e308_8 : ad8 308 = q308 := (had8 308 (by decide)).trans e308_7
  have e309_8 : ad8 309 = q309 := (had8 309 (by decide)).trans e309_7
  have e310_8 : ad8 310 = q310 := (had8 310 (by decide)).trans e310_7
  have e311_8 : ad8 311 = q311 := (had8 311 (by decide)).trans e311_7
  have e312_8 : ad8 312 = q312 := (had8 312 (by decide)).trans e312_7
  have g_8 : ∀ i, i < 306 → ad8 i = ad i := fun i hi => (had8 i (by omega)).trans (g_7 i hi)
  obtain ⟨q313, e313_8⟩ : ∃ q, ad8 313 = q := ⟨_, rfl⟩
  rw [e313_8]
  refine bv_putF 305 9 66 rfl C k_M (by decide) e305_8 (by simp [va_up]; rfl) (by decide) t3_116 rfl hnm rfl rfl rfl (Nat.le_of_ble_eq_true rfl) d_M_init_63 ?_
  refine bv_aload_n 67 rfl C d_M_init_66 rfl ?_
  refine bv_bipush (v := nI 41) 69 rfl C d_M_init_67 (by decide) ?_
  refine bv_newa (atype := .int) (ty := .int) (a0 := (41, .inl (fun _ => 0))) 0 41 71 rfl C rfl rfl (by intro Cn h; cases h) t1_56 (fun cA => rfl) rfl (by decide) (by decide) (by decide) (by decide) d_M_init_69 (fun ad9 had9 => ?_)
  have e305_9 : ad9 305 = a := (had9 305 (by decide)).trans e305_8
  have e306_9 : ad9 306 = q306 := (had9 306 (by decide)).trans e306_8
  have e307_9 : ad9 307 = q307 := (had9 307 (by decide)).trans e307_8
  have e308_9 : ad9 308 = q308 := (had9 308 (by decide)).trans e308_8
  have e309_9 : ad9 309 = q309 := (had9 309 (by decide)).trans e309_8
  have e310_9 : ad9 310 = q310 := (had9 310 (by decide)).trans e310_8
  have e311_9 : ad9 311 = q311 := (had9 311 (by decide)).trans e311_8
  have e312_9 : ad9 312 = q312 := (had9 312 (by decide)).trans e312_8
  have e313_9 : ad9 313 = q313 := (had9 313 (by decide)).trans e313_8
  have g_9 : ∀ i, i < 306 → ad9 i = ad i := fun i hi => (had9 i (by omega)).trans (g_8 i hi)
  obtain ⟨q314, e314_9⟩ : ∃ q, ad9 314 = q := ⟨_, rfl⟩
  rw [e314_9]
  refine bv_putF 305 10 74 rfl C k_M (by decide) e305_9 (by simp [va_up]; rfl) (by decide) t3_117 rfl hnm rfl rfl rfl (Nat.le_of_ble_eq_true rfl) d_M_init_71 ?_
  refine bv_aload_n 75 rfl C d_M_init_74 rfl ?_
  refine bv_bipush (v := nI 41) 77 rfl C d_M_init_75 (by decide) ?_
  refine bv_newa (atype := .int) (ty := .int) (a0 := (41, .inl (fun _ => 0))) 0 41 79 rfl C rfl rfl (by intro Cn h; cases h) t1_56 (fun cA => rfl) rfl (by decide) (by decide) (by decide) (by decide) d_M_init_77 (fun ad10 had10 => ?_)
  have e305_10 : ad10 305 = a := (had10 305 (by decide)).trans e305_9
  have e306_10 : ad10 306 = q306 := (had10 306 (by decide)).trans e306_9
  have e307_10 : ad10 307 = q307 := (had10 307 (by decide)).trans e307_9
  have e308_10 : ad10 308 = q308 := (had10 308 (by decide)).trans e308_9
  have e309_10 : ad10 309 = q309 := (had10 309 (by decide)).trans e309_9
  have e310_10 : ad10 310 = q310 := (had10 310 (by decide)).trans e310_9
  have e311_10 : ad10 311 = q311 := (had10 311 (by decide)).trans e311_9
  have e312_10 : ad10 312 = q312 := (had10 312 (by decide)).trans e312_9
  have e313_10 : ad10 313 = q313 := (had10 313 (by decide)).trans e313_9
  have e314_10 : ad10 314 = q314 := (had10 314 (by decide)).trans e314_9
  have g_10 : ∀ i, i < 306 → ad10 i = ad i := fun i hi => (had10 i (by omega)).trans (g_9 i hi)
  obtain ⟨q315, e315_10⟩ : ∃ q, ad10 315 = q := ⟨_, rfl⟩
  rw [e315_10]
  refine bv_putF 305 11 82 rfl C k_M (by decide) e305_10 (by simp [va_up]; rfl) (by decide) t3_118 rfl hnm rfl rfl rfl (Nat.le_of_ble_eq_true rfl) d_M_init_79 ?_
  refine bv_aload_n 83 rfl C d_M_init_82 rfl ?_
  refine bv_bipush (v := nI 41) 85 rfl C d_M_init_83 (by decide) ?_
  refine bv_newa (atype := .int) (ty := .int) (a0 := (41, .inl (fun _ => 0))) 0 41 87 rfl C rfl rfl (by intro Cn h; cases h) t1_56 (fun cA => rfl) rfl (by decide) (by decide) (by decide) (by decide) d_M_init_85 (fun ad11 had11 => ?_)
  have e305_11 : ad11 305 = a := (had11 305 (by decide)).trans e305_10
  have e306_11 : ad11 306 = q306 := (had11 306 (by decide)).trans e306_10
  have e307_11 : ad11 307 = q307 := (had11 307 (by decide)).trans e307_10
  have e308_11 : ad11 308 = q308 := (had11 308 (by decide)).trans e308_10
  have e309_11 : ad11 309 = q309 := (had11 309 (by decide)).trans e309_10
  have e310_11 : ad11 310 = q310 := (had11 310 (by decide)).trans e310_10
  have e311_11 : ad11 311 = q311 := (had11 311 (by decide)).trans e311_10
  have e312_11 : ad11 312 = q312 := (had11 312 (by decide)).trans e312_10
  have e313_11 : ad11 313 = q313 := (had11 313 (by decide)).trans e313_10
  have e314_11 : ad11 314 = q314 := (had11 314 (by decide)).trans e314_10
  have e315_11 : ad11 315 = q315 := (had11 315 (by decide)).trans e315_10
  have g_11 : ∀ i, i < 306 → ad11 i = ad i := fun i hi => (had11 i (by omega)).trans (g_10 i hi)
  obtain ⟨q316, e316_11⟩ : ∃ q, ad11 316 = q := ⟨_, rfl⟩
  rw [e316_11]
  refine bv_putF 305 12 90 rfl C k_M (by decide) e305_11 (by simp [va_up]; rfl) (by decide) t3_119 rfl hnm rfl rfl rfl (Nat.le_of_ble_eq_true rfl) d_M_init_87 ?_
  refine bv_aload_n 91 rfl C d_M_init_90 rfl ?_
  refine bv_sipush (v := nI 738) 94 rfl C d_M_init_91 (by decide) ?_
  refine bv_newa (atype := .int) (ty := .int) (a0 := (738, .inl (fun _ => 0))) 0 738 96 rfl C rfl rfl (by intro Cn h; cases h) t1_56 (fun cA => rfl) rfl (by decide) (by decide) (by decide) (by decide) d_M_init_94 (fun ad12 had12 => ?_)
  have e305_12 : ad12 305 = a := (had12 305 (by decide)).trans e305_11
  have e306_12 : ad12 306 = q306 := (had12 306 (by decide)).trans e306_11
  have e307_12 : ad12 307 = q307 := (had12 307 (by decide)).trans e307_11
  have e308_12 : ad12 308 = q308 := (had12 308 (by decide)).trans e308_11
  have e309_12 : ad12 309 = q309 := (had12 309 (by decide)).trans e309_11
  have e310_12 : ad12 310 = q310 := (had12 310 (by decide)).trans e310_11
  have e311_12 : ad12 311 = q311 := (had12 311 (by decide)).trans e311_11
  have e312_12 : ad12 312 = q312 := (had12 312 (by decide)).trans e312_11
  have e313_12 : ad12 313 = q313 := (had12 313 (by decide)).trans e313_11
  have e314_12 : ad12 314 = q314 := (had12 314 (by decide)).trans e314_11
  have e315_12 : ad12 315 = q315 := (had12 315 (by decide)).trans e315_11
  have e316_12 : ad12 316 = q316 := (had12 316 (by decide)).trans e316_11
  have g_12 : ∀ i, i < 306 → ad12 i = ad i := fun i hi => (had12 i (by omega)).trans (g_11 i hi)
  obtain ⟨q317, e317_12⟩ : ∃ q, ad12 317 = q := ⟨_, rfl⟩
  rw [e317_12]
  refine bv_putF 305 13 99 rfl C k_M (by decide) e305_12 (by simp [va_up]; rfl) (by decide) t3_120 rfl hnm rfl rfl rfl (Nat.le_of_ble_eq_true rfl) d_M_init_96 ?_
  refine bv_aload_n 100 rfl C d_M_init_99 rfl ?_
  refine bv_iconst (v := -1) 101 rfl C d_M_init_100 (by decide) ?_
  refine bv_put 305 15 104 rfl C k_M (by decide) e305_12 (by simp [va_up]; rfl) (by decide) t3_122 rfl rfl rfl (Nat.le_of_ble_eq_true rfl) d_M_init_101 ?_
  refine bv_aload_n 105 rfl C d_M_init_104 rfl ?_
  refine bv_bipush (v := nI 72) 107 rfl C d_M_init_105 (by decide) ?_
  refine bv_newa (atype := .int) (ty := .int) (a0 := (72, .inl (fun _ => 0))) 0 72 109 rfl C rfl rfl (by intro Cn h; cases h) t1_56 (fun cA => rfl) rfl (by decide) (by decide) (by decide) (by decide) d_M_init_107 (fun ad13 had13 => ?_)
  have e305_13 : ad13 305 = a := (had13 305 (by decide)).trans e305_12
  have e306_13 : ad13 306 = q306 := (had13 306 (by decide)).trans e306_12
  have e307_13 : ad13 307 = q307 := (had13 307 (by decide)).trans e307_12
  have e308_13 : ad13 308 = q308 := (had13 308 (by decide)).trans e308_12
  have e309_13 : ad13 309 = q309 := (had13 309 (by decide)).trans e309_12
  have e310_13 : ad13 310 = q310 := (had13 310 (by decide)).trans e310_12
  have e311_13 : ad13 311 = q311 := (had13 311 (by decide)).trans e311_12
  have e312_13 : ad13 312 = q312 := (had13 312 (by decide)).trans e312_12
  have e313_13 : ad13 313 = q313 := (had13 313 (by decide)).trans e313_12
  have e314_13 : ad13 314 = q314 := (had13 314 (by decide)).trans e314_12
  have e315_13 : ad13 315 = q315 := (had13 315 (by decide)).trans e315_12
  have e316_13 : ad13 316 = q316 := (had13 316 (by decide)).trans e316_12
  have e317_13 : ad13 317 = q317 := (had13 317 (by decide)).trans e317_12
  have g_13 : ∀ i, i < 306 → ad13 i = ad i := fun i hi => (had13 i (by omega)).trans (g_12 i hi)
  obtain ⟨q318, e318_13⟩ : ∃ q, ad13 318 = q := ⟨_, rfl⟩
  rw [e318_13]
  refine bv_putF 305 17 112 rfl C k_M (by decide) e305_13 (by simp [va_up]; rfl) (by decide) t3_124 rfl hnm rfl rfl rfl (Nat.le_of_ble_eq_true rfl) d_M_init_109 ?_
  refine bv_aload_n 113 rfl C d_M_init_112 rfl ?_
  refine bv_bipush (v := nI 64) 115 rfl C d_M_init_113 (by decide) ?_
  refine bv_newa (atype := .int) (ty := .int) (a0 := (64, .inl (fun _ => 0))) 0 64 117 rfl C rfl rfl (by intro Cn h; cases h) t1_56 (fun cA => rfl) rfl (by decide) (by decide) (by decide) (by decide) d_M_init_115 (fun ad14 had14 => ?_)
  have e305_14 : ad14 305 = a := (had14 305 (by decide)).trans e305_13
  have e306_14 : ad14 306 = q306 := (had14 306 (by decide)).trans e306_13
  have e307_14 : ad14 307 = q307 := (had14 307 (by decide)).trans e307_13
  have e308_14 : ad14 308 = q308 := (had14 308 (by decide)).trans e308_13
  have e309_14 : ad14 309 = q309 := (had14 309 (by decide)).trans e309_13
  have e310_14 : ad14 310 = q310 := (had14 310 (by decide)).trans e310_13
  have e311_14 : ad14 311 = q311 := (had14 311 (by decide)).trans e311_13
  have e312_14 : ad14 312 = q312 := (had14 312 (by decide)).trans e312_13
  have e313_14 : ad14 313 = q313 := (had14 313 (by decide)).trans e313_13
  have e314_14 : ad14 314 = q314 := (had14 314 (by decide)).trans e314_13
  have e315_14 : ad14 315 = q315 := (had14 315 (by decide)).trans e315_13
  have e316_14 : ad14 316 = q316 := (had14 316 (by decide)).trans e316_13
  have e317_14 : ad14 317 = q317 := (had14 317 (by decide)).trans e317_13
  have e318_14 : ad14 318 = q318 := (had14 318 (by decide)).trans e318_13
  have g_14 : ∀ i, i < 306 → ad14 i = ad i := fun i hi => (had14 i (by omega)).trans (g_13 i hi)
  obtain ⟨q319, e319_14⟩ : ∃ q, ad14 319 = q := ⟨_, rfl⟩
  rw [e319_14]
  refine bv_putF 305 18 120 rfl C k_M (by decide) e305_14 (by simp [va_up]; rfl) (by decide) t3_125 rfl hnm rfl rfl rfl (Nat.le_of_ble_eq_true rfl) d_M_init_117 ?_
  refine bv_aload_n 121 rfl C d_M_init_120 rfl ?_
  refine bv_bipush (v := nI 8) 123 rfl C d_M_init_121 (by decide) ?_
  refine bv_newa (atype := .int) (ty := .int) (a0 := (8, .inl (fun _ => 0))) 0 8 125 rfl C rfl rfl (by intro Cn h; cases h) t1_56 (fun cA => rfl) rfl (by decide) (by decide) (by decide) (by decide) d_M_init_123 (fun ad15 had15 => ?_)
  have e305_15 : ad15 305 = a := (had15 305 (by decide)).trans e305_14
  have e306_15 : ad15 306 = q306 := (had15 306 (by decide)).trans e306_14
  have e307_15 : ad15 307 = q307 := (had15 307 (by decide)).trans e307_14
  have e308_15 : ad15 308 = q308 := (had15 308 (by decide)).trans e308_14
  have e309_15 : ad15 309 = q309 := (had15 309 (by decide)).trans e309_14
  have e310_15 : ad15 310 = q310 := (had15 310 (by decide)).trans e310_14
  have e311_15 : ad15 311 = q311 := (had15 311 (by decide)).trans e311_14
  have e312_15 : ad15 312 = q312 := (had15 312 (by decide)).trans e312_14
  have e313_15 : ad15 313 = q313 := (had15 313 (by decide)).trans e313_14
  have e314_15 : ad15 314 = q314 := (had15 314 (by decide)).trans e314_14
  have e315_15 : ad15 315 = q315 := (had15 315 (by decide)).trans e315_14
  have e316_15 : ad15 316 = q316 := (had15 316 (by decide)).trans e316_14
  have e317_15 : ad15 317 = q317 := (had15 317 (by decide)).trans e317_14
  have e318_15 : ad15 318 = q318 := (had15 318 (by decide)).trans e318_14
  have e319_15 : ad15 319 = q319 := (had15 319 (by decide)).trans e319_14
  have g_15 : ∀ i, i < 306 → ad15 i = ad i := fun i hi => (had15 i (by omega)).trans (g_14 i hi)
  obtain ⟨q320, e320_15⟩ : ∃ q, ad15 320 = q := ⟨_, rfl⟩
  rw [e320_15]
  refine bv_putF 305 19 128 rfl C k_M (by decide) e305_15 (by simp [va_up]; rfl) (by decide) t3_126 rfl hnm rfl rfl rfl (Nat.le_of_ble_eq_true rfl) d_M_init_125 ?_
  refine bv_aload_n 129 rfl C d_M_init_128 rfl ?_
  refine bv_bipush (v := nI 24) 131 rfl C d_M_init_129 (by decide) ?_
  refine bv_newa (atype := .int) (ty := .int) (a0 := (24, .inl (fun _ => 0))) 0 24 133 rfl C rfl rfl (by intro Cn h; cases h) t1_56 (fun cA => rfl) rfl (by decide) (by decide) (by decide) (by decide) d_M_init_131 (fun ad16 had16 => ?_)
  have e305_16 : ad16 305 = a := (had16 305 (by decide)).trans e305_15
  have e306_16 : ad16 306 = q306 := (had16 306 (by decide)).trans e306_15
  have e307_16 : ad16 307 = q307 := (had16 307 (by decide)).trans e307_15
  have e308_16 : ad16 308 = q308 := (had16 308 (by decide)).trans e308_15
  have e309_16 : ad16 309 = q309 := (had16 309 (by decide)).trans e309_15
  have e310_16 : ad16 310 = q310 := (had16 310 (by decide)).trans e310_15
  have e311_16 : ad16 311 = q311 := (had16 311 (by decide)).trans e311_15
  have e312_16 : ad16 312 = q312 := (had16 312 (by decide)).trans e312_15
  have e313_16 : ad16 313 = q313 := (had16 313 (by decide)).trans e313_15
  have e314_16 : ad16 314 = q314 := (had16 314 (by decide)).trans e314_15
  have e315_16 : ad16 315 = q315 := (had16 315 (by decide)).trans e315_15
  have e316_16 : ad16 316 = q316 := (had16 316 (by decide)).trans e316_15
  have e317_16 : ad16 317 = q317 := (had16 317 (by decide)).trans e317_15
  have e318_16 : ad16 318 = q318 := (had16 318 (by decide)).trans e318_15
  have e319_16 : ad16 319 = q319 := (had16 319 (by decide)).trans e319_15
  have e320_16 : ad16 320 = q320 := (had16 320 (by decide)).trans e320_15
  have g_16 : ∀ i, i < 306 → ad16 i = ad i := fun i hi => (had16 i (by omega)).trans (g_15 i hi)
  obtain ⟨q321, e321_16⟩ : ∃ q, ad16 321 = q := ⟨_, rfl⟩
  rw [e321_16]
  refine bv_putF 305 20 136 rfl C k_M (by decide) e305_16 (by simp [va_up]; rfl) (by decide) t3_127 rfl hnm rfl rfl rfl (Nat.le_of_ble_eq_true rfl) d_M_init_133 ?_
  refine bv_aload_n 137 rfl C d_M_init_136 rfl ?_
  refine bv_bipush (v := nI 8) 139 rfl C d_M_init_137 (by decide) ?_
  refine bv_newa (atype := .long) (ty := .long) (a0 := (8, .inr (.inl (fun _ => 0)))) 1 8 141 rfl C rfl rfl (by intro Cn h; cases h) t3_175 (fun cA => rfl) rfl (by decide) (by decide) (by decide) (by decide) d_M_init_139 (fun ad17 had17 => ?_)
  have e305_17 : ad17 305 = a := (had17 305 (by decide)).trans e305_16
  have e306_17 : ad17 306 = q306 := (had17 306 (by decide)).trans e306_16
  have e307_17 : ad17 307 = q307 := (had17 307 (by decide)).trans e307_16
  have e308_17 : ad17 308 = q308 := (had17 308 (by decide)).trans e308_16
  have e309_17 : ad17 309 = q309 := (had17 309 (by decide)).trans e309_16
  have e310_17 : ad17 310 = q310 := (had17 310 (by decide)).trans e310_16
  have e311_17 : ad17 311 = q311 := (had17 311 (by decide)).trans e311_16
  have e312_17 : ad17 312 = q312 := (had17 312 (by decide)).trans e312_16
  have e313_17 : ad17 313 = q313 := (had17 313 (by decide)).trans e313_16
  have e314_17 : ad17 314 = q314 := (had17 314 (by decide)).trans e314_16
  have e315_17 : ad17 315 = q315 := (had17 315 (by decide)).trans e315_16
  have e316_17 : ad17 316 = q316 := (had17 316 (by decide)).trans e316_16
  have e317_17 : ad17 317 = q317 := (had17 317 (by decide)).trans e317_16
  have e318_17 : ad17 318 = q318 := (had17 318 (by decide)).trans e318_16
  have e319_17 : ad17 319 = q319 := (had17 319 (by decide)).trans e319_16
  have e320_17 : ad17 320 = q320 := (had17 320 (by decide)).trans e320_16
  have e321_17 : ad17 321 = q321 := (had17 321 (by decide)).trans e321_16
  have g_17 : ∀ i, i < 306 → ad17 i = ad i := fun i hi => (had17 i (by omega)).trans (g_16 i hi)
  obtain ⟨q322, e322_17⟩ : ∃ q, ad17 322 = q := ⟨_, rfl⟩
  rw [e322_17]
  refine bv_putF 305 21 144 rfl C k_M (by decide) e305_17 (by simp [va_up]; rfl) (by decide) t3_128 rfl hnm rfl rfl rfl (Nat.le_of_ble_eq_true rfl) d_M_init_141 ?_
  refine bv_iconst (v := nI 0) 145 rfl C d_M_init_144 (by decide) ?_
  refine bv_istore_n 146 rfl C d_M_init_145 (by decide) ?_
  refine bv_iconst (v := nI 2) 147 rfl C d_M_init_146 (by decide) ?_
  refine bv_istore_n 148 rfl C d_M_init_147 (by decide) ?_
  refine bv_wk [(0, .ref a), (1, .int (nI (cntp 2))), (2, .int (nI 2))] ⟨rfl, rfl, rfl, trivial⟩ ?_
  refine bv_cs 17 1665 (by decide) (by decide) ?_
  obtain ⟨W, hW⟩ : ∃ W : Nat → va_E, W = _ := ⟨_, rfl⟩
  refine bv_w W (fun k _ => by rw [hW]) ?_
  have z305 : W 305 = mO ad17 0 0 0 (-1) 0 := by rw [show mO ad17 0 0 0 (-1) 0 = mO ad17 0 0 0 (-1) 0 from rfl]; simp only [mO]; rw [e306_17, e307_17, e308_17, e309_17, e310_17, e311_17, e312_17, e313_17, e314_17, e315_17, e316_17, e317_17, e318_17, e319_17, e320_17, e321_17, e322_17, hW]; simp [va_up]
  have z306 : W 306 = aI dd 48 (fun _ => 0) := by rw [hW]; simp [va_up]
  have z307 : W 307 = aI dd 384 (fun _ => 0) := by rw [hW]; simp [va_up]
  have z308 : W 308 = aZ dd 5 (fun _ => 0) := by rw [hW]; simp [va_up]
  have z309 : W 309 = aI dd 5 (fun _ => 0) := by rw [hW]; simp [va_up]
  have z310 : W 310 = aI dd 5 (fun _ => 0) := by rw [hW]; simp [va_up]
  have z311 : W 311 = aI dd 35 (fun _ => 0) := by rw [hW]; simp [va_up]
  have z312 : W 312 = aI dd 105 (fun _ => 0) := by rw [hW]; simp [va_up]
  have z313 : W 313 = aZ dd 41 (fun _ => 0) := by rw [hW]; simp [va_up]
  have z314 : W 314 = aI dd 41 (fun _ => 0) := by rw [hW]; simp [va_up]
  have z315 : W 315 = aI dd 41 (fun _ => 0) := by rw [hW]; simp [va_up]
  have z316 : W 316 = aI dd 41 (fun _ => 0) := by rw [hW]; simp [va_up]
  have z317 : W 317 = aI dd 738 (fun _ => 0) := by rw [hW]; simp [va_up]
  have z318 : W 318 = aI dd 72 (fun _ => 0) := by rw [hW]; simp [va_up]
  have z319 : W 319 = aI dd 64 (fun _ => 0) := by rw [hW]; simp [va_up]
  have z320 : W 320 = aI dd 8 (fun _ => 0) := by rw [hW]; simp [va_up]
  have z321 : W 321 = aI dd 24 (fun _ => 0) := by rw [hW]; simp [va_up]
  have z322 : W 322 = aL dd 8 (fun _ => 0) := by rw [hW]; simp [va_up]
  have zz : ∀ i, i < 305 → W i = w i := by
    intro i hi
    rw [hW]
    repeat rw [va_up_ne _ _ (by omega)]
  have hWW : W = wM dd W (fun _ => 0) (fun _ => 0) := by
    funext k
    by_cases h1 : k = 318
    · rw [h1, wM_318, z318]
    · by_cases h2 : k = 322
      · rw [h2, wM_322, z322]
      · rw [wM_o h1 h2]
  refine bv_w (wM dd W (fun _ => 0) (fun _ => 0)) (fun k _ => by rw [← hWW]) ?_
  refine lp_M_init C e305_17 z305 (by decide) (by decide) (by decide) (by decide) (fun f g => ?_) 310 2 _ _ rfl (Nat.le_refl _)
  exact bv_return C rfl d_M_init_206 (Nat.le_refl _) (Nat.le_refl _) ⟨rfl, rfl, g_17, fun i hi => (wM_o (by omega) (by omega)).trans (zz i hi), (wM_o (by decide) (by decide)).trans z305, (wM_o (by decide) (by decide)).trans z306, (wM_o (by decide) (by decide)).trans z307, (wM_o (by decide) (by decide)).trans z308, (wM_o (by decide) (by decide)).trans z309, (wM_o (by decide) (by decide)).trans z310, (wM_o (by decide) (by decide)).trans z311, (wM_o (by decide) (by decide)).trans z312, (wM_o (by decide) (by decide)).trans z313, (wM_o (by decide) (by decide)).trans z314, (wM_o (by decide) (by decide)).trans z315, (wM_o (by decide) (by decide)).trans z316, (wM_o (by decide) (by decide)).trans z317, ⟨f, wM_318⟩, (wM_o (by decide) (by decide)).trans z319, (wM_o (by decide) (by decide)).trans z320, (wM_o (by decide) (by decide)).trans z321, ⟨g, wM_322⟩⟩
end bMj
end
section
/-! what making and throwing an exception rests on -/
theorem ow_B_229 : ∀ a ∈ Bundle.ownAtoms "BlobStore" 229 "java/lang/IndexOutOfBoundsException" ["java/lang/RuntimeException", "java/lang/Exception"], a ∈ Tb ∨ a ∈ bNst ∨ ∃ q ∈ bZq, a = .isRef (.static q.1 q.2.1 q.2.2) ∨ a = .laysStatic q.1 q.2.1 q.2.2 := by decide +kernel
theorem ow_B_79 : ∀ a ∈ Bundle.ownAtoms "BlobStore" 79 "java/lang/IllegalStateException" ["java/lang/RuntimeException", "java/lang/Exception"], a ∈ Tb ∨ a ∈ bNst ∨ ∃ q ∈ bZq, a = .isRef (.static q.1 q.2.1 q.2.2) ∨ a = .laysStatic q.1 q.2.1 q.2.2 := by decide +kernel
theorem ow_B_86 : ∀ a ∈ Bundle.ownAtoms "BlobStore" 86 "java/lang/IllegalArgumentException" ["java/lang/RuntimeException", "java/lang/Exception"], a ∈ Tb ∨ a ∈ bNst ∨ ∃ q ∈ bZq, a = .isRef (.static q.1 q.2.1 q.2.2) ∨ a = .laysStatic q.1 q.2.1 q.2.2 := by decide +kernel
theorem ow_P_24 : ∀ a ∈ Bundle.ownAtoms "BlobStore$Power" 24 "java/lang/IllegalStateException" ["java/lang/RuntimeException", "java/lang/Exception"], a ∈ Tb ∨ a ∈ bNst ∨ ∃ q ∈ bZq, a = .isRef (.static q.1 q.2.1 q.2.2) ∨ a = .laysStatic q.1 q.2.1 q.2.2 := by decide +kernel
theorem ow_P_31 : ∀ a ∈ Bundle.ownAtoms "BlobStore$Power" 31 "java/lang/UnsupportedOperationException" ["java/lang/RuntimeException", "java/lang/Exception"], a ∈ Tb ∨ a ∈ bNst ∨ ∃ q ∈ bZq, a = .isRef (.static q.1 q.2.1 q.2.2) ∨ a = .laysStatic q.1 q.2.1 q.2.2 := by decide +kernel
end
section
abbrev bSameT (ad : Nat → Nat) (w : Nat → va_E) (N : Nat) (r : String → Prop) : String → (Nat → Nat) → (Nat → va_E) → Nat → Prop := fun Cn ad' w' N' => ad = ad' ∧ w = w' ∧ N = N' ∧ r Cn
abbrev bFr (ad : Nat → Nat) (w : Nat → va_E) (N : Nat) (r : Option Value → Prop) : Option Value → (Nat → Nat) → (Nat → va_E) → Nat → Prop := fun v ad' w' N' => ad = ad' ∧ N = N' ∧ (∀ k, 305 ≤ k → w' k = w k) ∧ r v
abbrev bFrT (ad : Nat → Nat) (w : Nat → va_E) (N : Nat) (r : String → Prop) : String → (Nat → Nat) → (Nat → va_E) → Nat → Prop := fun Cn ad' w' N' => ad = ad' ∧ N = N' ∧ (∀ k, 305 ≤ k → w' k = w k) ∧ r Cn
abbrev xISE : String := "java/lang/IllegalStateException"
abbrev xIAE : String := "java/lang/IllegalArgumentException"
abbrev xUOE : String := "java/lang/UnsupportedOperationException"
abbrev xIOB : String := "java/lang/IndexOutOfBoundsException"
abbrev xNSE : String := "java/util/NoSuchElementException"
section bPow
variable {l : Launch} {dd : bD} {ad : Nat → Nat} {w : Nat → va_E} {N : Nat}
/-- Power.requireOn -/
theorem ct_P_requireOn (hlt : bOff l) {k : Nat} {wr cu gn : Int32} (hk : k < N) (hw : w k = .inr (1, [.int wr, .int cu, .int gn])) : bK l dd y_P_requireOn 6 82 1 6 [.ref (ad k)] ad w N (bSame ad w N (fun v => v = none ∧ gn = 0)) (bSameT ad w N (fun Cn => Cn = xISE ∧ ¬ gn = 0)) := by
  refine bK.start [(0, .ref (ad k))] (by decide) t2_64 (Nat.le_of_ble_eq_true rfl) rfl (fun p e s m args below meth c A hnm C => ?_)
  refine bv_aload_n 1 rfl C d_P_requireOn_0 rfl ?_
  refine bv_get k 2 4 rfl C k_P hk rfl hw (by decide) t1_37 rfl d_P_requireOn_1 ?_
  refine bv_if_eq 17 7 rfl C d_P_requireOn_4 (by decide) (fun h => ?_) (fun h => ?_)
  · exact bv_return C rfl d_P_requireOn_17 (by decide) (by decide) ⟨rfl, rfl, rfl, rfl, h⟩
  · exact bv_throw (names := ["java/lang/RuntimeException", "java/lang/Exception"]) hlt C d_P_requireOn_7 d_P_requireOn_10 d_P_requireOn_11 d_P_requireOn_13 d_P_requireOn_16 t2_65 t2_66 t1_12 (show ("BlobStore$Power", 22, "the store is down") ∈ bStr by simp) (by decide) (by decide) ow_P_24 rfl (by first | decide | omega) (by first | decide | omega) (by first | decide | omega) (by first | decide | omega) (by first | decide | omega) (by first | decide | omega) ⟨rfl, rfl, rfl, rfl, h⟩
/-- Power.spendWrite -/
theorem ct_P_spendWrite (hlt : bOff l) {k : Nat} {wr cu gn : Int32} (hk : k < N) (hw : w k = .inr (1, [.int wr, .int cu, .int gn])) : bK l dd y_P_spendWrite 6 82 1 6 [.ref (ad k)] ad w N (fun v ad' w' N' => ad = ad' ∧ N = N' ∧ v = none ∧ ¬ cu = 0 ∧ w' = va_up w k (.inr (1, [.int (wr + nI 1), .int (if 0 < cu then cu - nI 1 else cu), .int gn]))) (fun Cn ad' w' N' => ad = ad' ∧ N = N' ∧ Cn = xUOE ∧ cu = 0 ∧ w' = va_up w k (.inr (1, [.int wr, .int cu, .int (nI 1)]))) := by
  refine bK.start [(0, .ref (ad k))] (by decide) t2_161 (Nat.le_of_ble_eq_true rfl) rfl (fun p e s m args below meth c A hnm C => ?_)
  refine bv_aload_n 1 rfl C d_P_spendWrite_0 rfl ?_
  refine bv_get k 1 4 rfl C k_P hk rfl hw (by decide) t1_36 rfl d_P_spendWrite_1 ?_
  refine bv_if_ne 22 7 rfl C d_P_spendWrite_4 (by decide) (fun h => ?_) (fun h => ?_)
  · refine bv_aload_n 23 rfl C d_P_spendWrite_22 rfl ?_
    refine bv_get k 1 26 rfl C k_P hk rfl hw (by decide) t1_36 rfl d_P_spendWrite_23 ?_
    refine bv_if_le 39 29 rfl C d_P_spendWrite_26 (by decide) (fun h' => ?_) (fun h' => ?_)
    · refine bv_aload_n 40 rfl C d_P_spendWrite_39 rfl ?_
      refine bv_dup 41 rfl C d_P_spendWrite_40 rfl ?_
      refine bv_get k 0 44 rfl C k_P hk rfl hw (by decide) t1_34 rfl d_P_spendWrite_41 ?_
      refine bv_iconst (v := nI 1) 45 rfl C d_P_spendWrite_44 (by decide) ?_
      refine bv_iadd 46 rfl C d_P_spendWrite_45 ?_
      refine bv_put k 0 49 rfl C k_P hk rfl hw (by decide) t1_34 rfl rfl rfl (Nat.le_of_ble_eq_true rfl) d_P_spendWrite_46 ?_
      exact bv_return C rfl d_P_spendWrite_49 (by decide) (by decide) ⟨rfl, rfl, rfl, h, by rw [if_neg (fun q => absurd h' (by rw [Int32.le_iff_toInt_le]; rw [Int32.lt_iff_toInt_lt] at q; omega))]; rfl⟩
    · refine bv_aload_n 30 rfl C d_P_spendWrite_29 rfl ?_
      refine bv_dup 31 rfl C d_P_spendWrite_30 rfl ?_
      refine bv_get k 1 34 rfl C k_P hk rfl hw (by decide) t1_36 rfl d_P_spendWrite_31 ?_
      refine bv_iconst (v := nI 1) 35 rfl C d_P_spendWrite_34 (by decide) ?_
      refine bv_isub 36 rfl C d_P_spendWrite_35 ?_
      refine bv_put k 1 39 rfl C k_P hk rfl hw (by decide) t1_36 rfl rfl rfl (Nat.le_of_ble_eq_true rfl) d_P_spendWrite_36 ?_
      refine bv_aload_n 40 rfl C d_P_spendWrite_39 rfl ?_
      refine bv_dup 41 rfl C d_P_spendWrite_40 rfl ?_
      refine bv_get k 0 44 rfl C k_P hk rfl (va_up_self _ _ _) (by decide) t1_34 rfl d_P_spendWrite_41 ?_
      refine bv_iconst (v := nI 1) 45 rfl C d_P_spendWrite_44 (by decide) ?_
      refine bv_iadd 46 rfl C d_P_spendWrite_45 ?_
      refine bv_put k 0 49 rfl C k_P hk rfl (va_up_self _ _ _) (by decide) t1_34 rfl rfl rfl (Nat.le_of_ble_eq_true rfl) d_P_spendWrite_46 ?_
      exact bv_return C rfl d_P_spendWrite_49 (by decide) (by decide) ⟨rfl, rfl, rfl, h, by rw [bu_same, if_pos (by rw [Int32.le_iff_toInt_le] at h'; rw [Int32.lt_iff_toInt_lt]; omega)]; rfl⟩
  · refine bv_aload_n 8 rfl C d_P_spendWrite_7 rfl ?_
    refine bv_iconst (v := nI 1) 9 rfl C d_P_spendWrite_8 (by decide) ?_
    refine bv_put k 2 12 rfl C k_P hk rfl hw (by decide) t1_37 rfl rfl rfl (Nat.le_of_ble_eq_true rfl) d_P_spendWrite_9 ?_
    exact bv_throw (names := ["java/lang/RuntimeException", "java/lang/Exception"]) hlt C d_P_spendWrite_12 d_P_spendWrite_15 d_P_spendWrite_16 d_P_spendWrite_18 d_P_spendWrite_21 t2_162 t2_163 t1_14 (show ("BlobStore$Power", 29, "the power is gone") ∈ bStr by simp) (by decide) (by decide) ow_P_31 rfl (by first | decide | omega) (by first | decide | omega) (by first | decide | omega) (by first | decide | omega) (by first | decide | omega) (by first | decide | omega) ⟨rfl, rfl, rfl, h, rfl⟩
/-- Power.tellCut -/
theorem ct_P_tellCut {k : Nat} {wr cu gn n : Int32} (hk : k < N) (hw : w k = .inr (1, [.int wr, .int cu, .int gn])) : bK l dd y_P_tellCut 0 0 0 0 [.ref (ad k), .int n] ad w N (fun v ad' w' N' => ad = ad' ∧ N = N' ∧ v = none ∧ w' = va_up w k (.inr (1, [.int wr, .int n, .int gn]))) bNo := by
  refine bK.start [(0, .ref (ad k)), (1, .int n)] (by decide) t3_64 (Nat.le_of_ble_eq_true rfl) rfl (fun p e s m args below meth c A hnm C => ?_)
  refine bv_aload_n 1 rfl C d_P_tellCut_0 rfl ?_
  refine bv_iload_n 2 rfl C d_P_tellCut_1 rfl ?_
  refine bv_put k 1 5 rfl C k_P hk rfl hw (by decide) t1_36 rfl rfl rfl (Nat.le_of_ble_eq_true rfl) d_P_tellCut_2 ?_
  exact bv_return C rfl d_P_tellCut_5 (Nat.le_refl _) (Nat.le_refl _) ⟨rfl, rfl, rfl, rfl⟩
/-- Power.turnOn -/
theorem ct_P_turnOn {k : Nat} {wr cu gn : Int32} (hk : k < N) (hw : w k = .inr (1, [.int wr, .int cu, .int gn])) : bK l dd y_P_turnOn 0 0 0 0 [.ref (ad k)] ad w N (fun v ad' w' N' => ad = ad' ∧ N = N' ∧ ((gn = 0 ∧ v = some (.int (nI 0)) ∧ w' = w) ∨ (¬ gn = 0 ∧ v = some (.int (nI 1)) ∧ w' = va_up w k (.inr (1, [.int wr, .int (-1), .int (nI 0)]))))) bNo := by
  refine bK.start [(0, .ref (ad k))] (by decide) t1_184 (Nat.le_of_ble_eq_true rfl) rfl (fun p e s m args below meth c A hnm C => ?_)
  refine bv_aload_n 1 rfl C d_P_turnOn_0 rfl ?_
  refine bv_get k 2 4 rfl C k_P hk rfl hw (by decide) t1_37 rfl d_P_turnOn_1 ?_
  refine bv_if_ne 9 7 rfl C d_P_turnOn_4 (by decide) (fun h => ?_) (fun h => ?_)
  · refine bv_aload_n 10 rfl C d_P_turnOn_9 rfl ?_
    refine bv_iconst (v := nI 0) 11 rfl C d_P_turnOn_10 (by decide) ?_
    refine bv_put k 2 14 rfl C k_P hk rfl hw (by decide) t1_37 rfl rfl rfl (Nat.le_of_ble_eq_true rfl) d_P_turnOn_11 ?_
    refine bv_aload_n 15 rfl C d_P_turnOn_14 rfl ?_
    refine bv_iconst (v := -1) 16 rfl C d_P_turnOn_15 (by decide) ?_
    refine bv_put k 1 19 rfl C k_P hk rfl (va_up_self _ _ _) (by decide) t1_36 rfl rfl rfl (Nat.le_of_ble_eq_true rfl) d_P_turnOn_16 ?_
    refine bv_iconst (v := nI 1) 20 rfl C d_P_turnOn_19 (by decide) ?_
    exact bv_zreturn C rfl (Or.inr rfl) d_P_turnOn_20 (Nat.le_refl _) (Nat.le_refl _) ⟨rfl, rfl, Or.inr ⟨h, rfl, by rw [bu_same]; rfl⟩⟩
  · refine bv_iconst (v := nI 0) 8 rfl C d_P_turnOn_7 (by decide) ?_
    exact bv_zreturn C rfl (Or.inl rfl) d_P_turnOn_8 (Nat.le_refl _) (Nat.le_refl _) ⟨rfl, rfl, Or.inl ⟨h, rfl, rfl⟩⟩
end bPow
end
section
abbrev oB (ad : Nat → Nat) (ve : Int32) : va_E := .inr (6, [.ref (ad 1), .ref (ad 2), .ref (ad 4), .ref (ad 5), .ref (ad 6), .int ve, .ref (ad 7), .ref (ad 8), .ref (ad 10), .ref (ad 12)])
/-- the sessions' own cells -/
def bSs (dd : bD) (ad : Nat → Nat) (w : Nat → va_E) (so sb sk : Nat → Int32) : Prop := (∃ f, w 5 = aR dd 5 5 f ∧ ∀ j, j < 5 → f j = some (ad (109 + 14 * j))) ∧ ∀ j, j < 5 → w (109 + 14 * j) = .inr (3, [.int (so j), .int (sb j), .int (sk j), .ref (ad (109 + 14 * j + 1))])
section bBg
variable {p : Program} {l : Launch} {e : Env} {R : Room} {s : State} {m : MethodId} {args : Array Value} {below : List Frame} {meth : Method} {c : Code} {dd : bD} {A : Nat → Prop} {mc ms : Nat} {post : Option Value → (Nat → Nat) → (Nat → va_E) → Nat → Prop} {thr : String → (Nat → Nat) → (Nat → va_E) → Nat → Prop} {ad : Nat → Nat} {w : Nat → va_E} {N cells slots : Nat} {ve : Int32} {so sb sk : Nat → Int32}
theorem lp_least (C : bCx p R s m args meth c c_B_leastClosedSession R_B 2 (some .int) [] dd A) (hN : 305 ≤ N) (h0 : w 0 = oB ad ve) (hS : bSs dd ad w so sb sk)
    (hx : (∀ j, j < 5 → ¬ so j = 0) → bV p l e R s m args below meth c dd A 2 mc ms post thr 27 (bO []) [] ad w N cells slots)
    (hr : ∀ i, i < 5 → so i = 0 → (∀ j, j < i → ¬ so j = 0) → bV p l e R s m args below meth c dd A 2 mc ms post thr 20 (bO []) [.int (nI i)] ad w N cells slots) :
    ∀ (d i : Nat), i + d = 5 → (∀ j, j < i → ¬ so j = 0) → bV p l e R s m args below meth c dd A 2 mc ms post thr 2 (bO [(0, .ref (ad 0)), (1, .int (nI i))]) [] ad w N cells slots := by
  intro d
  obtain ⟨⟨f, hf, hf'⟩, hs⟩ := hS
  induction d with
  | zero =>
    intro i hi hj
    obtain rfl : i = 5 := by omega
    refine bv_iload_n 3 rfl C d_B_leastClosedSession_2 rfl ?_
    refine bv_iconst (v := nI 5) 4 rfl C d_B_leastClosedSession_3 (by decide) ?_
    refine bv_icmp_ge 27 7 rfl C d_B_leastClosedSession_4 (by decide) (fun h => ?_) (fun h => absurd (nI_le (by decide) (by decide)) h)
    refine bv_wk [] trivial ?_
    exact hx hj
  | succ d ih =>
    intro i hi hj
    refine bv_iload_n 3 rfl C d_B_leastClosedSession_2 rfl ?_
    refine bv_iconst (v := nI 5) 4 rfl C d_B_leastClosedSession_3 (by decide) ?_
    refine bv_icmp_ge 27 7 rfl C d_B_leastClosedSession_4 (by decide) (fun h => absurd h (nI_ge (by omega) (by decide))) (fun h => ?_)
    refine bv_aload_n 8 rfl C d_B_leastClosedSession_7 rfl ?_
    refine bv_get 0 3 11 rfl C k_B (by omega) rfl h0 (by decide) t1_149 rfl d_B_leastClosedSession_8 ?_
    refine bv_iload_n 12 rfl C d_B_leastClosedSession_11 rfl ?_
    refine bv_aald 5 5 i 13 rfl C rfl (by omega) rfl hf rfl (by omega) (by decide) d_B_leastClosedSession_12 (hf' i (by omega)) ?_
    refine bv_getN (109 + 14 * i) 0 16 rfl C k_S (by omega) rfl (hs i (by omega)) (by decide) n1_105 rfl d_B_leastClosedSession_13 ?_
    refine bv_if_ne 21 19 rfl C d_B_leastClosedSession_16 (by decide) (fun h => ?_) (fun h => ?_)
    · refine bv_iinc 24 rfl C d_B_leastClosedSession_21 rfl (by first | exact b_inc _ | rfl) (by decide) ?_
      refine bv_goto 2 C d_B_leastClosedSession_24 (by decide) ?_
      refine bv_wk [(0, .ref (ad 0)), (1, .int (nI (i + 1)))] ⟨rfl, rfl, trivial⟩ ?_
      exact ih (i + 1) (by omega) (fun j hj1 => by
        by_cases hji : j = i
        · rw [hji]; exact h
        · exact hj j (by omega))
    · refine bv_iload_n 20 rfl C d_B_leastClosedSession_19 rfl ?_
      refine bv_wk [] trivial ?_
      exact hr i (by omega) h hj
theorem ct_B_leastClosedSession (hN : 305 ≤ N) (h0 : w 0 = oB ad ve) (hS : bSs dd ad w so sb sk) : bK l dd y_B_leastClosedSession 0 0 0 0 [.ref (ad 0)] ad w N (bSame ad w N (fun v => (v = some (.int (-1)) ∧ ∀ j, j < 5 → ¬ so j = 0) ∨ ∃ i, i < 5 ∧ so i = 0 ∧ (∀ j, j < i → ¬ so j = 0) ∧ v = some (.int (nI i)))) bNo := by
  refine bK.start [(0, .ref (ad 0))] (by decide) t2_138 (Nat.le_of_ble_eq_true rfl) rfl (fun p e s m args below meth c A hnm C => ?_)
  refine bv_iconst (v := nI 0) 1 rfl C d_B_leastClosedSession_0 (by decide) ?_
  refine bv_istore_n 2 rfl C d_B_leastClosedSession_1 (by decide) ?_
  refine bv_wk [(0, .ref (ad 0)), (1, .int (nI 0))] ⟨rfl, rfl, trivial⟩ ?_
  refine lp_least C hN h0 hS (fun hj => ?_) (fun i hi ho hj => ?_) 5 0 rfl (fun j hj => absurd hj (Nat.not_lt_zero j))
  · refine bv_iconst (v := -1) 28 rfl C d_B_leastClosedSession_27 (by decide) ?_
    exact bv_ireturn C rfl d_B_leastClosedSession_28 (Nat.le_refl _) (Nat.le_refl _) ⟨rfl, rfl, rfl, Or.inl ⟨rfl, hj⟩⟩
  · exact bv_ireturn C rfl d_B_leastClosedSession_20 (Nat.le_refl _) (Nat.le_refl _) ⟨rfl, rfl, rfl, Or.inr ⟨i, hi, ho, hj, rfl⟩⟩
/-- the rows of a session at key k: its array and the rows, of lengths pl -/
def bPs (dd : bD) (ad : Nat → Nat) (w : Nat → va_E) (k : Nat) (pl : Nat → Int32) : Prop := (∃ f, w (k + 1) = aR dd 4 6 f ∧ ∀ j, j < 6 → f j = some (ad (k + 2 + 2 * j))) ∧ ∀ j, j < 6 → w (k + 2 + 2 * j) = .inr (2, [.ref (ad (k + 3 + 2 * j)), .int (pl j)])
theorem lp_start (C : bCx p R s m args meth c c_S_start R_S 4 none [] dd A) {k : Nat} {pl : Nat → Int32} {x y z : Int32} (hN : k + 14 ≤ N) (hk : w k = .inr (3, [.int x, .int y, .int z, .ref (ad (k + 1))])) (hP : bPs dd ad w k pl)
    (hx : ∀ w1 : Nat → va_E, (∀ j, j < 6 → w1 (k + 2 + 2 * j) = .inr (2, [.ref (ad (k + 3 + 2 * j)), .int (nI 0)])) → (∀ q, (∀ j, j < 6 → q ≠ k + 2 + 2 * j) → w1 q = w q) → bV p l e R s m args below meth c dd A 4 mc ms post thr 39 (bO []) [] ad w1 N cells slots) :
    ∀ (d i : Nat) (w1 : Nat → va_E), i + d = 6 → (∀ j, j < i → w1 (k + 2 + 2 * j) = .inr (2, [.ref (ad (k + 3 + 2 * j)), .int (nI 0)])) → (∀ q, (∀ j, j < i → q ≠ k + 2 + 2 * j) → w1 q = w q) → bV p l e R s m args below meth c dd A 4 mc ms post thr 17 (bO [(0, .ref (ad k)), (3, .int (nI i))]) [] ad w1 N cells slots := by
  intro d
  obtain ⟨⟨f, hf, hf'⟩, hs⟩ := hP
  induction d with
  | zero =>
    intro i w1 hi h1 h2
    obtain rfl : i = 6 := by omega
    refine bv_iload_n 18 rfl C d_S_start_17 rfl ?_
    refine bv_bipush (v := nI 6) 20 rfl C d_S_start_18 (by decide) ?_
    refine bv_icmp_ge 39 23 rfl C d_S_start_20 (by decide) (fun h => ?_) (fun h => absurd (nI_le (by decide) (by decide)) h)
    refine bv_wk [] trivial ?_
    exact hx w1 h1 h2
  | succ d ih =>
    intro i w1 hi h1 h2
    refine bv_iload_n 18 rfl C d_S_start_17 rfl ?_
    refine bv_bipush (v := nI 6) 20 rfl C d_S_start_18 (by decide) ?_
    refine bv_icmp_ge 39 23 rfl C d_S_start_20 (by decide) (fun h => absurd h (nI_ge (by omega) (by decide))) (fun h => ?_)
    refine bv_aload_n 24 rfl C d_S_start_23 rfl ?_
    refine bv_get k 3 27 rfl C k_S (by omega) rfl ((h2 k (fun j hj => by omega)).trans hk) (by decide) t1_110 rfl d_S_start_24 ?_
    refine bv_iload_n 28 rfl C d_S_start_27 rfl ?_
    refine bv_aald 4 (k + 1) i 29 rfl C rfl (by omega) rfl ((h2 (k + 1) (fun j hj => by omega)).trans hf) rfl (by omega) (by decide) d_S_start_28 (hf' i (by omega)) ?_
    refine bv_iconst (v := nI 0) 30 rfl C d_S_start_29 (by decide) ?_
    refine bv_putN (k + 2 + 2 * i) 1 33 rfl C k_R (by omega) rfl ((h2 (k + 2 + 2 * i) (fun j hj => by omega)).trans (hs i (by omega))) (by decide) n1_72 rfl rfl rfl (Nat.le_of_ble_eq_true rfl) d_S_start_30 ?_
    refine bv_iinc 36 rfl C d_S_start_33 rfl (by first | exact b_inc _ | rfl) (by decide) ?_
    refine bv_goto 17 C d_S_start_36 (by decide) ?_
    refine bv_wk [(0, .ref (ad k)), (3, .int (nI (i + 1)))] ⟨rfl, rfl, trivial⟩ ?_
    refine ih (i + 1) _ (by omega) (fun j hj => ?_) (fun q hq => ?_)
    · by_cases hji : j = i
      · rw [hji, va_up_self]; rfl
      · rw [va_up_ne _ _ (by omega)]; exact h1 j (by omega)
    · rw [va_up_ne _ _ (hq i (by omega))]
      exact h2 q (fun j hj => hq j (by omega))
theorem ct_S_start {k : Nat} {pl : Nat → Int32} {x y z b q : Int32} (hN : k + 14 ≤ N) (hk : w k = .inr (3, [.int x, .int y, .int z, .ref (ad (k + 1))])) (hP : bPs dd ad w k pl) : bK l dd y_S_start 0 0 0 0 [.ref (ad k), .int b, .int q] ad w N (fun v ad' w' N' => ad = ad' ∧ N = N' ∧ v = none ∧ w' k = .inr (3, [.int (nI 1), .int b, .int q, .ref (ad (k + 1))]) ∧ (∀ j, j < 6 → w' (k + 2 + 2 * j) = .inr (2, [.ref (ad (k + 3 + 2 * j)), .int (nI 0)])) ∧ ∀ i, i ≠ k → (∀ j, j < 6 → i ≠ k + 2 + 2 * j) → w' i = w i) bNo := by
  refine bK.start [(0, .ref (ad k)), (1, .int b), (2, .int q)] (by decide) t2_181 (Nat.le_of_ble_eq_true rfl) rfl (fun p e s m args below meth c A hnm C => ?_)
  refine bv_aload_n 1 rfl C d_S_start_0 rfl ?_
  refine bv_iconst (v := nI 1) 2 rfl C d_S_start_1 (by decide) ?_
  refine bv_put k 0 5 rfl C k_S (by omega) rfl hk (by decide) t1_104 rfl rfl rfl (Nat.le_of_ble_eq_true rfl) d_S_start_2 ?_
  refine bv_aload_n 6 rfl C d_S_start_5 rfl ?_
  refine bv_iload_n 7 rfl C d_S_start_6 rfl ?_
  refine bv_put k 1 10 rfl C k_S (by omega) rfl (va_up_self _ _ _) (by decide) t1_106 rfl rfl rfl (Nat.le_of_ble_eq_true rfl) d_S_start_7 ?_
  refine bv_aload_n 11 rfl C d_S_start_10 rfl ?_
  refine bv_iload_n 12 rfl C d_S_start_11 rfl ?_
  refine bv_put k 2 15 rfl C k_S (by omega) rfl (va_up_self _ _ _) (by decide) t1_108 rfl rfl rfl (Nat.le_of_ble_eq_true rfl) d_S_start_12 ?_
  rw [bu_same, bu_same]
  refine bv_iconst (v := nI 0) 16 rfl C d_S_start_15 (by decide) ?_
  refine bv_istore_n 17 rfl C d_S_start_16 (by decide) ?_
  refine bv_wk [(0, .ref (ad k)), (3, .int (nI 0))] ⟨rfl, rfl, trivial⟩ ?_
  refine lp_start (w := va_up w k _) (k := k) (pl := pl) C hN (va_up_self _ _ _) ?_ (fun w1 h1 h2 => ?_) 6 0 _ rfl (fun j hj => absurd hj (Nat.not_lt_zero j)) (fun _ _ => rfl)
  · obtain ⟨⟨f, hf, hf'⟩, hs⟩ := hP
    exact ⟨⟨f, by rw [va_up_ne _ _ (by omega)]; exact hf, hf'⟩, fun j hj => by rw [va_up_ne _ _ (by omega)]; exact hs j hj⟩
  · exact bv_return C rfl d_S_start_39 (Nat.le_refl _) (Nat.le_refl _) ⟨rfl, rfl, rfl, by rw [h2 k (fun j hj => by omega), va_up_self], h1, fun i hi hj => by rw [h2 i hj, va_up_ne _ _ hi]⟩
/-- begin, with the first session closed, the power on and no cut told -/
theorem ct_B_begin (hlt : bOff l) (hN : 305 ≤ N) (h0 : w 0 = oB ad ve) (hS : bSs dd ad w so sb sk) {wr : Int32} (h1 : w 1 = .inr (1, [.int wr, .int (-1), .int (nI 0)])) (hso : so 0 = 0) {pl : Nat → Int32} (hP : bPs dd ad w 109 pl) {b q : Int32} :
    bK l dd y_B_begin 7 102 2 12 [.ref (ad 0), .int b, .int q] ad w N (bFr ad w N (fun v => v = some (.int (nI 0)) ∧ ¬ b < 0 ∧ ¬ nI 4 ≤ b ∧ ¬ q < 0 ∧ q < nI 8)) (bFrT ad w N (fun Cn => Cn = xIAE ∧ ¬ (¬ b < 0 ∧ ¬ nI 4 ≤ b ∧ ¬ q < 0 ∧ q < nI 8))) := by
  refine bK.start [(0, .ref (ad 0)), (1, .int b), (2, .int q)] (by decide) t2_60 (Nat.le_of_ble_eq_true rfl) rfl (fun p e s m args below meth c A hnm C => ?_)
  refine bv_aload_n 1 rfl C d_B_begin_0 rfl ?_
  refine bv_get 0 0 4 rfl C k_B (by omega) rfl h0 (by decide) t1_146 rfl d_B_begin_1 ?_
  refine bv_call (rest := []) 7 rfl C d_B_begin_4 (ct_P_requireOn hlt (k := 1) (by omega) h1) i_P_requireOn t1_2 (fun H locs ls hP => bs_VN (av := []) 1 C i_P_requireOn n2_61 t2_63 s_18 (by omega) rfl h1 rfl (by decide) rfl rfl d_B_begin_4 H locs ls hP) ⟨by first | decide | omega, by first | decide | omega⟩ (by decide) (by decide) (Nat.le_of_ble_eq_true rfl) (fun v ad1 w1 N1 hpo => ?_) (fun x Cn ad' w' N' hth => ?_)
  · obtain ⟨rfl, rfl, rfl, rfl, -⟩ := hpo
    refine bv_aload_n 8 rfl C d_B_begin_7 rfl ?_
    refine bv_call (rest := []) 11 rfl C d_B_begin_8 (ct_B_leastClosedSession hN h0 hS) i_B_leastClosedSession t1_1 (fun H locs ls hP => bs_V (av := []) 0 C i_B_leastClosedSession t2_135 t2_137 s_20 (by omega) rfl h0 rfl (by decide) rfl rfl d_B_begin_8 H locs ls hP) ⟨by first | decide | omega, by first | decide | omega⟩ (by decide) (by decide) (Nat.le_of_ble_eq_true rfl) (fun v ad1 w1 N1 hpo => ?_) (fun x Cn ad' w' N' hth => hth.elim)
    obtain ⟨rfl, rfl, rfl, hv⟩ := hpo
    obtain rfl : v = some (.int (nI 0)) := by
      rcases hv with ⟨-, hj⟩ | ⟨i, hi, ho, hj, rfl⟩
      · exact absurd hso (hj 0 (by decide))
      · cases i with
        | zero => rfl
        | succ n => exact absurd hso (hj 0 (by omega))
    refine bv_istore_n 12 rfl C d_B_begin_11 (by decide) ?_
    refine bv_iload_n 13 rfl C d_B_begin_12 rfl ?_
    refine bv_if_ge 26 16 rfl C d_B_begin_13 (by decide) (fun h => ?_) (fun h => absurd (show (0 : Int32) ≤ nI 0 by decide) h)
    have thr : ¬ (¬ b < 0 ∧ ¬ nI 4 ≤ b ∧ ¬ q < 0 ∧ q < nI 8) → bV p l e { frames := 7, cells := 2, slots := 12, locals := 102 } s m args below meth c dd A 4 2 12 (bFr ad w N (fun v => v = some (.int (nI 0)) ∧ ¬ b < 0 ∧ ¬ nI 4 ≤ b ∧ ¬ q < 0 ∧ q < nI 8)) (bFrT ad w N (fun Cn => Cn = xIAE ∧ ¬ (¬ b < 0 ∧ ¬ nI 4 ≤ b ∧ ¬ q < 0 ∧ q < nI 8))) 45 (bU (bO [(0, .ref (ad 0)), (1, .int b), (2, .int q)]) 3 (.int (nI 0))) [] ad w N (0 + 1 + 0) (0 + 6 + 0) := by
      intro hn
      exact bv_throw (names := ["java/lang/RuntimeException", "java/lang/Exception"]) hlt C d_B_begin_45 d_B_begin_48 d_B_begin_49 d_B_begin_51 d_B_begin_54 t2_142 t2_143 t1_13 (show ("BlobStore", 84, "no such bucket or key") ∈ bStr by simp) (by decide) (by decide) ow_B_86 rfl (by first | decide | omega) (by first | decide | omega) (by first | decide | omega) (by first | decide | omega) (by first | decide | omega) (by first | decide | omega) ⟨rfl, rfl, fun _ _ => rfl, rfl, hn⟩
    refine bv_iload_n 27 rfl C d_B_begin_26 rfl ?_
    refine bv_if_lt 45 30 rfl C d_B_begin_27 (by decide) (fun x1 => ?_) (fun x1 => ?_)
    · exact thr (fun hh => hh.1 x1)
    · refine bv_iload_n 31 rfl C d_B_begin_30 rfl ?_
      refine bv_iconst (v := nI 4) 32 rfl C d_B_begin_31 (by decide) ?_
      refine bv_icmp_ge 45 35 rfl C d_B_begin_32 (by decide) (fun x2 => ?_) (fun x2 => ?_)
      · exact thr (fun hh => hh.2.1 x2)
      · refine bv_iload_n 36 rfl C d_B_begin_35 rfl ?_
        refine bv_if_lt 45 39 rfl C d_B_begin_36 (by decide) (fun x3 => ?_) (fun x3 => ?_)
        · exact thr (fun hh => hh.2.2.1 x3)
        · refine bv_iload_n 40 rfl C d_B_begin_39 rfl ?_
          refine bv_bipush (v := nI 8) 42 rfl C d_B_begin_40 (by decide) ?_
          refine bv_icmp_lt 55 45 rfl C d_B_begin_42 (by decide) (fun x4 => ?_) (fun x4 => ?_)
          · refine bv_aload_n 56 rfl C d_B_begin_55 rfl ?_
            refine bv_get 0 0 59 rfl C k_B (by omega) rfl h0 (by decide) t1_146 rfl d_B_begin_56 ?_
            refine bv_call (rest := []) 62 rfl C d_B_begin_59 (ct_P_spendWrite hlt (k := 1) (by omega) h1) i_P_spendWrite t1_2 (fun H locs ls hP => bs_VN (av := []) 1 C i_P_spendWrite n2_158 t2_160 s_21 (by omega) rfl h1 rfl (by decide) rfl rfl d_B_begin_59 H locs ls hP) ⟨by first | decide | omega, by first | decide | omega⟩ (by decide) (by decide) (Nat.le_of_ble_eq_true rfl) (fun v ad1 w1 N1 hpo => ?_) (fun x Cn ad' w' N' hth => ?_)
            · obtain ⟨rfl, rfl, rfl, -, rfl⟩ := hpo
              refine bv_aload_n 63 rfl C d_B_begin_62 rfl ?_
              refine bv_get 0 3 66 rfl C k_B (by omega) rfl (by rw [va_up_ne _ _ (by decide)]; exact h0) (by decide) t1_149 rfl d_B_begin_63 ?_
              obtain ⟨⟨f, hf, hf'⟩, hs⟩ := hS
              refine bv_iload_n 67 rfl C d_B_begin_66 rfl ?_
              refine bv_aald 5 5 0 68 rfl C rfl (by omega) rfl (by rw [va_up_ne _ _ (by decide)]; exact hf) rfl (by omega) (by decide) d_B_begin_67 (hf' 0 (by omega)) ?_
              refine bv_iload_n 69 rfl C d_B_begin_68 rfl ?_
              refine bv_iload_n 70 rfl C d_B_begin_69 rfl ?_
              refine bv_call (rest := []) 73 rfl C d_B_begin_70 (ct_S_start (k := 109) (pl := pl) (by omega) (by rw [va_up_ne _ _ (by decide)]; exact hs 0 (by decide)) ⟨(by obtain ⟨⟨g, hg, hg'⟩, -⟩ := hP; exact ⟨g, by rw [va_up_ne _ _ (by decide)]; exact hg, hg'⟩), fun j hj => by rw [va_up_ne _ _ (by omega)]; exact hP.2 j hj⟩) i_S_start t1_6 (fun H locs ls hP => bs_VN (av := [.int b, .int q]) 109 C i_S_start n2_178 t2_180 s_22 (by omega) rfl (by rw [va_up_ne _ _ (by decide)]; exact hs 0 (by decide)) rfl (by decide) rfl rfl d_B_begin_70 H locs ls hP) ⟨by first | decide | omega, by first | decide | omega⟩ (by decide) (by decide) (Nat.le_of_ble_eq_true rfl) (fun v ad1 w1 N1 hpo => ?_) (fun x Cn ad' w' N' hth => hth.elim)
              obtain ⟨rfl, rfl, rfl, -, -, hw1⟩ := hpo
              refine bv_iload_n 74 rfl C d_B_begin_73 rfl ?_
              exact bv_ireturn C rfl d_B_begin_74 (by decide) (by decide) ⟨rfl, rfl, fun k hk => by rw [hw1 k (by omega) (fun j hj => by omega), va_up_ne _ _ (by omega)], rfl, x1, x2, x3, x4⟩
            · obtain ⟨-, -, -, hz, -⟩ := hth
              exact absurd hz (by decide)
          · exact thr (fun hh => x4 hh.2.2.2)
  · obtain ⟨-, -, -, -, hz⟩ := hth
    exact absurd rfl hz
end bBg
end
section
section bSha
variable {p : Program} {l : Launch} {e : Env} {R : Room} {s : State} {m : MethodId} {args : Array Value} {below : List Frame} {meth : Method} {c : Code} {dd : bD} {A : Nat → Prop} {mc ms : Nat} {post : Option Value → (Nat → Nat) → (Nat → va_E) → Nat → Prop} {thr : String → (Nat → Nat) → (Nat → va_E) → Nat → Prop} {ad : Nat → Nat} {w : Nat → va_E} {N cells slots : Nat}
theorem ct_H_padBlock {f0 : Nat → Int32} {n : Int32} {x : Int64} (hN : 305 ≤ N) (h2 : w 2 = .inr (4, [.ref (ad 3)])) (h3 : w 3 = aI dd 64 f0) : bK l dd y_H_padBlock 0 0 0 0 [.ref (ad 2), .int n, .long x] ad w N (fun v ad' w' N' => ad = ad' ∧ N = N' ∧ v = none ∧ ∃ f, w' = va_up w 3 (aI dd 64 f)) bNo := by
  refine bK.start [(0, .ref (ad 2)), (1, .int n), (2, .long x)] (by decide) t2_9 (Nat.le_of_ble_eq_true rfl) rfl (fun p e s m args below meth c A hnm C => ?_)
  have t74 : ∀ (f : Nat → Int32) (b y : Int32), bV p l e { frames := 0, cells := 0, slots := 0, locals := 0 } s m args below meth c dd A 7 0 0 (fun v ad' w' N' => ad = ad' ∧ N = N' ∧ v = none ∧ ∃ f, w' = va_up w 3 (aI dd 64 f)) bNo 74 (bO [(0, .ref (ad 2)), (1, .int n)]) [.int y, .int (nI 2), .ref (ad 3)] ad (va_up w 3 (aI dd 64 f)) N 0 0 := by
    intro f b y
    refine bv_iast 3 2 75 rfl C (by omega) rfl (va_up_self _ _ _) rfl (by decide) (by decide) d_H_padBlock_74 ?_
    rw [bu_same]
    refine bv_aload_n 76 rfl C d_H_padBlock_75 rfl ?_
    refine bv_get 2 0 79 rfl C k_H (by omega) rfl (by rw [va_up_ne _ _ (by decide)]; exact h2) (by decide) t1_52 rfl d_H_padBlock_76 ?_
    refine bv_bipush (v := nI 15) 81 rfl C d_H_padBlock_79 (by decide) ?_
    refine bv_bipush (v := nI 8) 83 rfl C d_H_padBlock_81 (by decide) ?_
    refine bv_iload_n 84 rfl C d_H_padBlock_83 rfl ?_
    refine bv_imul 85 rfl C d_H_padBlock_84 ?_
    refine bv_iast 3 15 86 rfl C (by omega) rfl (va_up_self _ _ _) rfl (by decide) (by decide) d_H_padBlock_85 ?_
    rw [bu_same]
    exact bv_return C rfl d_H_padBlock_86 (Nat.le_refl _) (Nat.le_refl _) ⟨rfl, rfl, rfl, _, rfl⟩
  have t35 : ∀ (b : Int32) (y : Int64), bV p l e { frames := 0, cells := 0, slots := 0, locals := 0 } s m args below meth c dd A 7 0 0 (fun v ad' w' N' => ad = ad' ∧ N = N' ∧ v = none ∧ ∃ f, w' = va_up w 3 (aI dd 64 f)) bNo 35 (bO [(0, .ref (ad 2)), (1, .int n), (4, .int b)]) [.long y] ad w N 0 0 := by
    intro b y
    refine bv_lstore 37 rfl C d_H_padBlock_35 (by decide) ?_
    refine bv_aload_n 38 rfl C d_H_padBlock_37 rfl ?_
    refine bv_get 2 0 41 rfl C k_H (by omega) rfl h2 (by decide) t1_52 rfl d_H_padBlock_38 ?_
    refine bv_iconst (v := nI 0) 42 rfl C d_H_padBlock_41 (by decide) ?_
    refine bv_lload 44 rfl C d_H_padBlock_42 rfl ?_
    refine bv_bipush (v := nI 32) 46 rfl C d_H_padBlock_44 (by decide) ?_
    refine bv_lushr 47 rfl C d_H_padBlock_46 rfl ?_
    refine bv_l2i 48 rfl C d_H_padBlock_47 rfl ?_
    refine bv_iast 3 0 49 rfl C (by omega) rfl h3 rfl (by decide) (by decide) d_H_padBlock_48 ?_
    refine bv_aload_n 50 rfl C d_H_padBlock_49 rfl ?_
    refine bv_get 2 0 53 rfl C k_H (by omega) rfl (by rw [va_up_ne _ _ (by decide)]; exact h2) (by decide) t1_52 rfl d_H_padBlock_50 ?_
    refine bv_iconst (v := nI 1) 54 rfl C d_H_padBlock_53 (by decide) ?_
    refine bv_lload 56 rfl C d_H_padBlock_54 rfl ?_
    refine bv_l2i 57 rfl C d_H_padBlock_56 rfl ?_
    refine bv_iast 3 1 58 rfl C (by omega) rfl (va_up_self _ _ _) rfl (by decide) (by decide) d_H_padBlock_57 ?_
    rw [bu_same]
    refine bv_aload_n 59 rfl C d_H_padBlock_58 rfl ?_
    refine bv_get 2 0 62 rfl C k_H (by omega) rfl (by rw [va_up_ne _ _ (by decide)]; exact h2) (by decide) t1_52 rfl d_H_padBlock_59 ?_
    refine bv_iconst (v := nI 2) 63 rfl C d_H_padBlock_62 (by decide) ?_
    refine bv_iload 65 rfl C d_H_padBlock_63 rfl ?_
    refine bv_if_eq 72 68 rfl C d_H_padBlock_65 (by decide) (fun h => ?_) (fun h => ?_)
    · refine bv_ldc 74 rfl C t2_11 d_H_padBlock_72 ?_
      refine bv_wk [(0, .ref (ad 2)), (1, .int n)] ⟨rfl, rfl, trivial⟩ ?_
      exact t74 _ b _
    · refine bv_iconst (v := nI 0) 69 rfl C d_H_padBlock_68 (by decide) ?_
      refine bv_goto 74 C d_H_padBlock_69 (by decide) ?_
      refine bv_wk [(0, .ref (ad 2)), (1, .int n)] ⟨rfl, rfl, trivial⟩ ?_
      exact t74 _ b _
  have t11 : ∀ (b : Int32), bV p l e { frames := 0, cells := 0, slots := 0, locals := 0 } s m args below meth c dd A 7 0 0 (fun v ad' w' N' => ad = ad' ∧ N = N' ∧ v = none ∧ ∃ f, w' = va_up w 3 (aI dd 64 f)) bNo 11 (bO [(0, .ref (ad 2)), (1, .int n), (2, .long x)]) [.int b] ad w N 0 0 := by
    intro b
    refine bv_istore 13 rfl C d_H_padBlock_11 (by decide) ?_
    refine bv_iload 15 rfl C d_H_padBlock_13 rfl ?_
    refine bv_if_eq 34 18 rfl C d_H_padBlock_15 (by decide) (fun h => ?_) (fun h => ?_)
    · refine bv_lload_n 35 rfl C d_H_padBlock_34 rfl ?_
      refine bv_wk [(0, .ref (ad 2)), (1, .int n), (4, .int b)] ⟨rfl, rfl, rfl, trivial⟩ ?_
      exact t35 b _
    · refine bv_lload_n 19 rfl C d_H_padBlock_18 rfl ?_
      refine bv_ldc2 22 rfl C t2_10 d_H_padBlock_19 ?_
      refine bv_bipush (v := nI 56) 24 rfl C d_H_padBlock_22 (by decide) ?_
      refine bv_bipush (v := nI 8) 26 rfl C d_H_padBlock_24 (by decide) ?_
      refine bv_iload_n 27 rfl C d_H_padBlock_26 rfl ?_
      refine bv_imul 28 rfl C d_H_padBlock_27 ?_
      refine bv_isub 29 rfl C d_H_padBlock_28 ?_
      refine bv_lshl 30 rfl C d_H_padBlock_29 rfl ?_
      refine bv_lor 31 rfl C d_H_padBlock_30 ?_
      refine bv_goto 35 C d_H_padBlock_31 (by decide) ?_
      refine bv_wk [(0, .ref (ad 2)), (1, .int n), (4, .int b)] ⟨rfl, rfl, rfl, trivial⟩ ?_
      exact t35 b _
  refine bv_iload_n 1 rfl C d_H_padBlock_0 rfl ?_
  refine bv_bipush (v := nI 8) 3 rfl C d_H_padBlock_1 (by decide) ?_
  refine bv_icmp_ge 10 6 rfl C d_H_padBlock_3 (by decide) (fun h => ?_) (fun h => ?_)
  · refine bv_iconst (v := nI 0) 11 rfl C d_H_padBlock_10 (by decide) ?_
    exact t11 _
  · refine bv_iconst (v := nI 1) 7 rfl C d_H_padBlock_6 (by decide) ?_
    refine bv_goto 11 C d_H_padBlock_7 (by decide) ?_
    exact t11 _
theorem lp_expand (C : bCx p R s m args meth c c_H_expandBlock R_H 6 none [] dd A) (hN : 305 ≤ N) (h2 : w 2 = .inr (4, [.ref (ad 3)])) (hRf : 1 ≤ R.frames) (hRl : 21 ≤ R.locals) (hc : cells ≤ R.cells) (hs : slots ≤ R.slots)
    (hx : ∀ f : Nat → Int32, bV p l e R s m args below meth c dd A 6 mc ms post thr 104 (bO []) [] ad (va_up w 3 (aI dd 64 f)) N cells slots) :
    ∀ (d i : Nat) (f : Nat → Int32), i + d = 64 → 16 ≤ i → bV p l e R s m args below meth c dd A 6 mc ms post thr 3 (bO [(0, .ref (ad 2)), (1, .int (nI i))]) [] ad (va_up w 3 (aI dd 64 f)) N cells slots := by
  have h2' : ∀ f : Nat → Int32, va_up w 3 (aI dd 64 f) 2 = .inr (4, [.ref (ad 3)]) := fun f => by rw [va_up_ne _ _ (by decide)]; exact h2
  intro d
  induction d with
  | zero =>
    intro i f hi h16
    obtain rfl : i = 64 := by omega
    refine bv_iload_n 4 rfl C d_H_expandBlock_3 rfl ?_
    refine bv_bipush (v := nI 64) 6 rfl C d_H_expandBlock_4 (by decide) ?_
    refine bv_icmp_ge 104 9 rfl C d_H_expandBlock_6 (by decide) (fun h => ?_) (fun h => absurd (nI_le (by decide) (by decide)) h)
    refine bv_wk [] trivial ?_
    exact hx f
  | succ d ih =>
    intro i f hi h16
    refine bv_iload_n 4 rfl C d_H_expandBlock_3 rfl ?_
    refine bv_bipush (v := nI 64) 6 rfl C d_H_expandBlock_4 (by decide) ?_
    refine bv_icmp_ge 104 9 rfl C d_H_expandBlock_6 (by decide) (fun h => absurd h (nI_ge (by omega) (by decide))) (fun h => ?_)
    refine bv_aload_n 10 rfl C d_H_expandBlock_9 rfl ?_
    refine bv_get 2 0 13 rfl C k_H (by omega) rfl (h2' f) (by decide) t1_52 rfl d_H_expandBlock_10 ?_
    refine bv_iload_n 14 rfl C d_H_expandBlock_13 rfl ?_
    refine bv_bipush (v := nI 15) 16 rfl C d_H_expandBlock_14 (by decide) ?_
    refine bv_isub 17 rfl C d_H_expandBlock_16 ?_
    refine bv_seti (nI (i - 15)) (pk_sub (by omega)) ?_
    refine bv_iald 3 (i - 15) 18 rfl C (by omega) rfl (va_up_self _ _ _) rfl (by omega) (by decide) d_H_expandBlock_17 ?_
    refine bv_istore_n 19 rfl C d_H_expandBlock_18 (by decide) ?_
    refine bv_aload_n 20 rfl C d_H_expandBlock_19 rfl ?_
    refine bv_get 2 0 23 rfl C k_H (by omega) rfl (h2' f) (by decide) t1_52 rfl d_H_expandBlock_20 ?_
    refine bv_iload_n 24 rfl C d_H_expandBlock_23 rfl ?_
    refine bv_iconst (v := nI 2) 25 rfl C d_H_expandBlock_24 (by decide) ?_
    refine bv_isub 26 rfl C d_H_expandBlock_25 ?_
    refine bv_seti (nI (i - 2)) (pk_sub (by omega)) ?_
    refine bv_iald 3 (i - 2) 27 rfl C (by omega) rfl (va_up_self _ _ _) rfl (by omega) (by decide) d_H_expandBlock_26 ?_
    refine bv_istore_n 28 rfl C d_H_expandBlock_27 (by decide) ?_
    refine bv_iload_n 29 rfl C d_H_expandBlock_28 rfl ?_
    refine bv_bipush (v := nI 7) 31 rfl C d_H_expandBlock_29 (by decide) ?_
    refine bv_call (rest := _) 34 rfl C d_H_expandBlock_31 ct_H_turnRight i_H_turnRight t1_3 (fun H locs ls _ => bs_S (av := [.int _, .int _]) C i_H_turnRight t2_16 t2_17 t1_3 (by decide) rfl rfl d_H_expandBlock_31 H locs ls) ⟨by first | decide | omega, by first | decide | omega⟩ (by omega) (by omega) (Nat.le_of_ble_eq_true rfl) (fun v ad1 w1 N1 hpo => ?_) (fun x Cn ad' w' N' hth => hth.elim)
    obtain ⟨rfl, rfl, rfl, y1, rfl⟩ := hpo
    refine bv_iload_n 35 rfl C d_H_expandBlock_34 rfl ?_
    refine bv_bipush (v := nI 18) 37 rfl C d_H_expandBlock_35 (by decide) ?_
    refine bv_call (rest := _) 40 rfl C d_H_expandBlock_37 ct_H_turnRight i_H_turnRight t1_3 (fun H locs ls _ => bs_S (av := [.int _, .int _]) C i_H_turnRight t2_16 t2_17 t1_3 (by decide) rfl rfl d_H_expandBlock_37 H locs ls) ⟨by first | decide | omega, by first | decide | omega⟩ (by omega) (by omega) (Nat.le_of_ble_eq_true rfl) (fun v ad1 w1 N1 hpo => ?_) (fun x Cn ad' w' N' hth => hth.elim)
    obtain ⟨rfl, rfl, rfl, y2, rfl⟩ := hpo
    refine bv_ixor 41 rfl C d_H_expandBlock_40 ?_
    refine bv_iload_n 42 rfl C d_H_expandBlock_41 rfl ?_
    refine bv_iconst (v := nI 3) 43 rfl C d_H_expandBlock_42 (by decide) ?_
    refine bv_iushr 44 rfl C d_H_expandBlock_43 rfl ?_
    refine bv_ixor 45 rfl C d_H_expandBlock_44 ?_
    refine bv_istore 47 rfl C d_H_expandBlock_45 (by decide) ?_
    refine bv_iload_n 48 rfl C d_H_expandBlock_47 rfl ?_
    refine bv_bipush (v := nI 17) 50 rfl C d_H_expandBlock_48 (by decide) ?_
    refine bv_call (rest := _) 53 rfl C d_H_expandBlock_50 ct_H_turnRight i_H_turnRight t1_3 (fun H locs ls _ => bs_S (av := [.int _, .int _]) C i_H_turnRight t2_16 t2_17 t1_3 (by decide) rfl rfl d_H_expandBlock_50 H locs ls) ⟨by first | decide | omega, by first | decide | omega⟩ (by omega) (by omega) (Nat.le_of_ble_eq_true rfl) (fun v ad1 w1 N1 hpo => ?_) (fun x Cn ad' w' N' hth => hth.elim)
    obtain ⟨rfl, rfl, rfl, y3, rfl⟩ := hpo
    refine bv_iload_n 54 rfl C d_H_expandBlock_53 rfl ?_
    refine bv_bipush (v := nI 19) 56 rfl C d_H_expandBlock_54 (by decide) ?_
    refine bv_call (rest := _) 59 rfl C d_H_expandBlock_56 ct_H_turnRight i_H_turnRight t1_3 (fun H locs ls _ => bs_S (av := [.int _, .int _]) C i_H_turnRight t2_16 t2_17 t1_3 (by decide) rfl rfl d_H_expandBlock_56 H locs ls) ⟨by first | decide | omega, by first | decide | omega⟩ (by omega) (by omega) (Nat.le_of_ble_eq_true rfl) (fun v ad1 w1 N1 hpo => ?_) (fun x Cn ad' w' N' hth => hth.elim)
    obtain ⟨rfl, rfl, rfl, y4, rfl⟩ := hpo
    refine bv_ixor 60 rfl C d_H_expandBlock_59 ?_
    refine bv_iload_n 61 rfl C d_H_expandBlock_60 rfl ?_
    refine bv_bipush (v := nI 10) 63 rfl C d_H_expandBlock_61 (by decide) ?_
    refine bv_iushr 64 rfl C d_H_expandBlock_63 rfl ?_
    refine bv_ixor 65 rfl C d_H_expandBlock_64 ?_
    refine bv_istore 67 rfl C d_H_expandBlock_65 (by decide) ?_
    refine bv_aload_n 68 rfl C d_H_expandBlock_67 rfl ?_
    refine bv_get 2 0 71 rfl C k_H (by omega) rfl (h2' f) (by decide) t1_52 rfl d_H_expandBlock_68 ?_
    refine bv_iload_n 72 rfl C d_H_expandBlock_71 rfl ?_
    refine bv_iload 74 rfl C d_H_expandBlock_72 rfl ?_
    refine bv_aload_n 75 rfl C d_H_expandBlock_74 rfl ?_
    refine bv_get 2 0 78 rfl C k_H (by omega) rfl (h2' f) (by decide) t1_52 rfl d_H_expandBlock_75 ?_
    refine bv_iload_n 79 rfl C d_H_expandBlock_78 rfl ?_
    refine bv_bipush (v := nI 7) 81 rfl C d_H_expandBlock_79 (by decide) ?_
    refine bv_isub 82 rfl C d_H_expandBlock_81 ?_
    refine bv_seti (nI (i - 7)) (pk_sub (by omega)) ?_
    refine bv_iald 3 (i - 7) 83 rfl C (by omega) rfl (va_up_self _ _ _) rfl (by omega) (by decide) d_H_expandBlock_82 ?_
    refine bv_iadd 84 rfl C d_H_expandBlock_83 ?_
    refine bv_iload 86 rfl C d_H_expandBlock_84 rfl ?_
    refine bv_iadd 87 rfl C d_H_expandBlock_86 ?_
    refine bv_aload_n 88 rfl C d_H_expandBlock_87 rfl ?_
    refine bv_get 2 0 91 rfl C k_H (by omega) rfl (h2' f) (by decide) t1_52 rfl d_H_expandBlock_88 ?_
    refine bv_iload_n 92 rfl C d_H_expandBlock_91 rfl ?_
    refine bv_bipush (v := nI 16) 94 rfl C d_H_expandBlock_92 (by decide) ?_
    refine bv_isub 95 rfl C d_H_expandBlock_94 ?_
    refine bv_seti (nI (i - 16)) (pk_sub (by omega)) ?_
    refine bv_iald 3 (i - 16) 96 rfl C (by omega) rfl (va_up_self _ _ _) rfl (by omega) (by decide) d_H_expandBlock_95 ?_
    refine bv_iadd 97 rfl C d_H_expandBlock_96 ?_
    refine bv_iast 3 i 98 rfl C (by omega) rfl (va_up_self _ _ _) rfl (by omega) (by decide) d_H_expandBlock_97 ?_
    rw [bu_same]
    refine bv_iinc 101 rfl C d_H_expandBlock_98 rfl (by first | exact b_inc _ | rfl) (by decide) ?_
    refine bv_goto 3 C d_H_expandBlock_101 (by decide) ?_
    refine bv_wk [(0, .ref (ad 2)), (1, .int (nI (i + 1)))] ⟨rfl, rfl, trivial⟩ ?_
    exact ih (i + 1) _ (by omega) (by omega)
theorem ct_H_expandBlock {f0 : Nat → Int32} (hN : 305 ≤ N) (h2 : w 2 = .inr (4, [.ref (ad 3)])) (h3 : w 3 = aI dd 64 f0) : bK l dd y_H_expandBlock 1 21 0 0 [.ref (ad 2)] ad w N (fun v ad' w' N' => ad = ad' ∧ N = N' ∧ v = none ∧ ∃ f, w' = va_up w 3 (aI dd 64 f)) bNo := by
  refine bK.start [(0, .ref (ad 2))] (by decide) t2_15 (Nat.le_of_ble_eq_true rfl) rfl (fun p e s m args below meth c A hnm C => ?_)
  refine bv_bipush (v := nI 16) 2 rfl C d_H_expandBlock_0 (by decide) ?_
  refine bv_istore_n 3 rfl C d_H_expandBlock_2 (by decide) ?_
  have hW : w = va_up w 3 (aI dd 64 f0) := by
    funext k
    by_cases hk : k = 3
    · rw [hk, va_up_self, h3]
    · rw [va_up_ne _ _ hk]
  refine bv_w (va_up w 3 (aI dd 64 f0)) (fun k _ => by rw [← hW]) ?_
  refine bv_wk [(0, .ref (ad 2)), (1, .int (nI 16))] ⟨rfl, rfl, trivial⟩ ?_
  refine lp_expand C hN h2 (by decide) (by decide) (by decide) (by decide) (fun f => ?_) 48 16 f0 rfl (Nat.le_refl _)
  exact bv_return C rfl d_H_expandBlock_104 (Nat.le_refl _) (Nat.le_refl _) ⟨rfl, rfl, rfl, _, rfl⟩
end bSha
end
section
section bMix
variable {p : Program} {l : Launch} {e : Env} {R : Room} {s : State} {m : MethodId} {args : Array Value} {below : List Frame} {meth : Method} {c : Code} {dd : bD} {A : Nat → Prop} {mc ms : Nat} {post : Option Value → (Nat → Nat) → (Nat → va_E) → Nat → Prop} {thr : String → (Nat → Nat) → (Nat → va_E) → Nat → Prop} {ad : Nat → Nat} {w : Nat → va_E} {N cells slots : Nat}
theorem lp_mix (C : bCx p R s m args meth c c_H_mixBlock R_H 16 none [] dd A) (hN : 305 ≤ N) (h2 : w 2 = .inr (4, [.ref (ad 3)])) {f0 : Nat → Int32} (h3 : w 3 = aI dd 64 f0) (hRf : 1 ≤ R.frames) (hRl : 21 ≤ R.locals) (hc : cells ≤ R.cells) (hs : slots ≤ R.slots) {q : Nat}
    (hx : ∀ x2 x3 x4 x5 x6 x7 x8 x9 : Int32, bV p l e R s m args below meth c dd A 16 mc ms post thr 210 (bO [(1, .ref q), (2, .int x2), (3, .int x3), (4, .int x4), (5, .int x5), (6, .int x6), (7, .int x7), (8, .int x8), (9, .int x9)]) [] ad w N cells slots) :
    ∀ (d i : Nat) (x2 x3 x4 x5 x6 x7 x8 x9 : Int32), i + d = 64 → bV p l e R s m args below meth c dd A 16 mc ms post thr 59 (bO [(0, .ref (ad 2)), (1, .ref q), (2, .int x2), (3, .int x3), (4, .int x4), (5, .int x5), (6, .int x6), (7, .int x7), (8, .int x8), (9, .int x9), (10, .int (nI i))]) [] ad w N cells slots := by
  intro d
  induction d with
  | zero =>
    intro i x2 x3 x4 x5 x6 x7 x8 x9 hi
    obtain rfl : i = 64 := by omega
    refine bv_iload 61 rfl C d_H_mixBlock_59 rfl ?_
    refine bv_bipush (v := nI 64) 63 rfl C d_H_mixBlock_61 (by decide) ?_
    refine bv_icmp_ge 210 66 rfl C d_H_mixBlock_63 (by decide) (fun h => ?_) (fun h => absurd (nI_le (by decide) (by decide)) h)
    refine bv_wk [(1, .ref q), (2, .int x2), (3, .int x3), (4, .int x4), (5, .int x5), (6, .int x6), (7, .int x7), (8, .int x8), (9, .int x9)] ⟨rfl, rfl, rfl, rfl, rfl, rfl, rfl, rfl, rfl, trivial⟩ ?_
    exact hx _ _ _ _ _ _ _ _
  | succ d ih =>
    intro i x2 x3 x4 x5 x6 x7 x8 x9 hi
    refine bv_iload 61 rfl C d_H_mixBlock_59 rfl ?_
    refine bv_bipush (v := nI 64) 63 rfl C d_H_mixBlock_61 (by decide) ?_
    refine bv_icmp_ge 210 66 rfl C d_H_mixBlock_63 (by decide) (fun h => absurd h (nI_ge (by omega) (by decide))) (fun h => ?_)
    refine bv_iload 68 rfl C d_H_mixBlock_66 rfl ?_
    refine bv_bipush (v := nI 6) 70 rfl C d_H_mixBlock_68 (by decide) ?_
    refine bv_call (rest := _) 73 rfl C d_H_mixBlock_70 ct_H_turnRight i_H_turnRight t1_3 (fun H locs ls _ => bs_S (av := [.int _, .int _]) C i_H_turnRight t2_16 t2_17 t1_3 (by decide) rfl rfl d_H_mixBlock_70 H locs ls) ⟨by first | decide | omega, by first | decide | omega⟩ (by omega) (by omega) (Nat.le_of_ble_eq_true rfl) (fun v ad1 w1 N1 hpo => ?_) (fun x Cn ad' w' N' hth => hth.elim)
    obtain ⟨rfl, rfl, rfl, y0, rfl⟩ := hpo
    refine bv_iload 75 rfl C d_H_mixBlock_73 rfl ?_
    refine bv_bipush (v := nI 11) 77 rfl C d_H_mixBlock_75 (by decide) ?_
    refine bv_call (rest := _) 80 rfl C d_H_mixBlock_77 ct_H_turnRight i_H_turnRight t1_3 (fun H locs ls _ => bs_S (av := [.int _, .int _]) C i_H_turnRight t2_16 t2_17 t1_3 (by decide) rfl rfl d_H_mixBlock_77 H locs ls) ⟨by first | decide | omega, by first | decide | omega⟩ (by omega) (by omega) (Nat.le_of_ble_eq_true rfl) (fun v ad1 w1 N1 hpo => ?_) (fun x Cn ad' w' N' hth => hth.elim)
    obtain ⟨rfl, rfl, rfl, y1, rfl⟩ := hpo
    refine bv_ixor 81 rfl C d_H_mixBlock_80 ?_
    refine bv_iload 83 rfl C d_H_mixBlock_81 rfl ?_
    refine bv_bipush (v := nI 25) 85 rfl C d_H_mixBlock_83 (by decide) ?_
    refine bv_call (rest := _) 88 rfl C d_H_mixBlock_85 ct_H_turnRight i_H_turnRight t1_3 (fun H locs ls _ => bs_S (av := [.int _, .int _]) C i_H_turnRight t2_16 t2_17 t1_3 (by decide) rfl rfl d_H_mixBlock_85 H locs ls) ⟨by first | decide | omega, by first | decide | omega⟩ (by omega) (by omega) (Nat.le_of_ble_eq_true rfl) (fun v ad1 w1 N1 hpo => ?_) (fun x Cn ad' w' N' hth => hth.elim)
    obtain ⟨rfl, rfl, rfl, y2, rfl⟩ := hpo
    refine bv_ixor 89 rfl C d_H_mixBlock_88 ?_
    refine bv_istore 91 rfl C d_H_mixBlock_89 (by decide) ?_
    refine bv_iload 93 rfl C d_H_mixBlock_91 rfl ?_
    refine bv_iload 95 rfl C d_H_mixBlock_93 rfl ?_
    refine bv_iand 96 rfl C d_H_mixBlock_95 ?_
    refine bv_iload 98 rfl C d_H_mixBlock_96 rfl ?_
    refine bv_iconst (v := -1) 99 rfl C d_H_mixBlock_98 (by decide) ?_
    refine bv_ixor 100 rfl C d_H_mixBlock_99 ?_
    refine bv_iload 102 rfl C d_H_mixBlock_100 rfl ?_
    refine bv_iand 103 rfl C d_H_mixBlock_102 ?_
    refine bv_ixor 104 rfl C d_H_mixBlock_103 ?_
    refine bv_istore 106 rfl C d_H_mixBlock_104 (by decide) ?_
    refine bv_iload 108 rfl C d_H_mixBlock_106 rfl ?_
    refine bv_iload 110 rfl C d_H_mixBlock_108 rfl ?_
    refine bv_iadd 111 rfl C d_H_mixBlock_110 ?_
    refine bv_iload 113 rfl C d_H_mixBlock_111 rfl ?_
    refine bv_iadd 114 rfl C d_H_mixBlock_113 ?_
    refine bv_gets 1 117 rfl C (show ("BlobStore$Sha256", "ROUND_WORDS", 1, 64) ∈ bSta by simp) t2_25 d_H_mixBlock_114 ?_
    refine bv_iload 119 rfl C d_H_mixBlock_117 rfl ?_
    refine bv_ti 1 i 120 rfl C (show ("BlobStore$Sha256", "ROUND_WORDS", 1, 64) ∈ bSta by simp) rfl (by omega) (by decide) d_H_mixBlock_119 ?_
    refine bv_iadd 121 rfl C d_H_mixBlock_120 ?_
    refine bv_aload_n 122 rfl C d_H_mixBlock_121 rfl ?_
    refine bv_get 2 0 125 rfl C k_H (by omega) rfl h2 (by decide) t1_52 rfl d_H_mixBlock_122 ?_
    refine bv_iload 127 rfl C d_H_mixBlock_125 rfl ?_
    refine bv_iald 3 i 128 rfl C (by omega) rfl h3 rfl (by omega) (by decide) d_H_mixBlock_127 ?_
    refine bv_iadd 129 rfl C d_H_mixBlock_128 ?_
    refine bv_istore 131 rfl C d_H_mixBlock_129 (by decide) ?_
    refine bv_iload_n 132 rfl C d_H_mixBlock_131 rfl ?_
    refine bv_iconst (v := nI 2) 133 rfl C d_H_mixBlock_132 (by decide) ?_
    refine bv_call (rest := _) 136 rfl C d_H_mixBlock_133 ct_H_turnRight i_H_turnRight t1_3 (fun H locs ls _ => bs_S (av := [.int _, .int _]) C i_H_turnRight t2_16 t2_17 t1_3 (by decide) rfl rfl d_H_mixBlock_133 H locs ls) ⟨by first | decide | omega, by first | decide | omega⟩ (by omega) (by omega) (Nat.le_of_ble_eq_true rfl) (fun v ad1 w1 N1 hpo => ?_) (fun x Cn ad' w' N' hth => hth.elim)
    obtain ⟨rfl, rfl, rfl, y3, rfl⟩ := hpo
    refine bv_iload_n 137 rfl C d_H_mixBlock_136 rfl ?_
    refine bv_bipush (v := nI 13) 139 rfl C d_H_mixBlock_137 (by decide) ?_
    refine bv_call (rest := _) 142 rfl C d_H_mixBlock_139 ct_H_turnRight i_H_turnRight t1_3 (fun H locs ls _ => bs_S (av := [.int _, .int _]) C i_H_turnRight t2_16 t2_17 t1_3 (by decide) rfl rfl d_H_mixBlock_139 H locs ls) ⟨by first | decide | omega, by first | decide | omega⟩ (by omega) (by omega) (Nat.le_of_ble_eq_true rfl) (fun v ad1 w1 N1 hpo => ?_) (fun x Cn ad' w' N' hth => hth.elim)
    obtain ⟨rfl, rfl, rfl, y4, rfl⟩ := hpo
    refine bv_ixor 143 rfl C d_H_mixBlock_142 ?_
    refine bv_iload_n 144 rfl C d_H_mixBlock_143 rfl ?_
    refine bv_bipush (v := nI 22) 146 rfl C d_H_mixBlock_144 (by decide) ?_
    refine bv_call (rest := _) 149 rfl C d_H_mixBlock_146 ct_H_turnRight i_H_turnRight t1_3 (fun H locs ls _ => bs_S (av := [.int _, .int _]) C i_H_turnRight t2_16 t2_17 t1_3 (by decide) rfl rfl d_H_mixBlock_146 H locs ls) ⟨by first | decide | omega, by first | decide | omega⟩ (by omega) (by omega) (Nat.le_of_ble_eq_true rfl) (fun v ad1 w1 N1 hpo => ?_) (fun x Cn ad' w' N' hth => hth.elim)
    obtain ⟨rfl, rfl, rfl, y5, rfl⟩ := hpo
    refine bv_ixor 150 rfl C d_H_mixBlock_149 ?_
    refine bv_istore 152 rfl C d_H_mixBlock_150 (by decide) ?_
    refine bv_iload_n 153 rfl C d_H_mixBlock_152 rfl ?_
    refine bv_iload_n 154 rfl C d_H_mixBlock_153 rfl ?_
    refine bv_iand 155 rfl C d_H_mixBlock_154 ?_
    refine bv_iload_n 156 rfl C d_H_mixBlock_155 rfl ?_
    refine bv_iload 158 rfl C d_H_mixBlock_156 rfl ?_
    refine bv_iand 159 rfl C d_H_mixBlock_158 ?_
    refine bv_ixor 160 rfl C d_H_mixBlock_159 ?_
    refine bv_iload_n 161 rfl C d_H_mixBlock_160 rfl ?_
    refine bv_iload 163 rfl C d_H_mixBlock_161 rfl ?_
    refine bv_iand 164 rfl C d_H_mixBlock_163 ?_
    refine bv_ixor 165 rfl C d_H_mixBlock_164 ?_
    refine bv_istore 167 rfl C d_H_mixBlock_165 (by decide) ?_
    refine bv_iload 169 rfl C d_H_mixBlock_167 rfl ?_
    refine bv_istore 171 rfl C d_H_mixBlock_169 (by decide) ?_
    refine bv_iload 173 rfl C d_H_mixBlock_171 rfl ?_
    refine bv_istore 175 rfl C d_H_mixBlock_173 (by decide) ?_
    refine bv_iload 177 rfl C d_H_mixBlock_175 rfl ?_
    refine bv_istore 179 rfl C d_H_mixBlock_177 (by decide) ?_
    refine bv_iload 181 rfl C d_H_mixBlock_179 rfl ?_
    refine bv_iload 183 rfl C d_H_mixBlock_181 rfl ?_
    refine bv_iadd 184 rfl C d_H_mixBlock_183 ?_
    refine bv_istore 186 rfl C d_H_mixBlock_184 (by decide) ?_
    refine bv_iload 188 rfl C d_H_mixBlock_186 rfl ?_
    refine bv_istore 190 rfl C d_H_mixBlock_188 (by decide) ?_
    refine bv_iload_n 191 rfl C d_H_mixBlock_190 rfl ?_
    refine bv_istore 193 rfl C d_H_mixBlock_191 (by decide) ?_
    refine bv_iload_n 194 rfl C d_H_mixBlock_193 rfl ?_
    refine bv_istore_n 195 rfl C d_H_mixBlock_194 (by decide) ?_
    refine bv_iload 197 rfl C d_H_mixBlock_195 rfl ?_
    refine bv_iload 199 rfl C d_H_mixBlock_197 rfl ?_
    refine bv_iadd 200 rfl C d_H_mixBlock_199 ?_
    refine bv_iload 202 rfl C d_H_mixBlock_200 rfl ?_
    refine bv_iadd 203 rfl C d_H_mixBlock_202 ?_
    refine bv_istore_n 204 rfl C d_H_mixBlock_203 (by decide) ?_
    refine bv_iinc 207 rfl C d_H_mixBlock_204 rfl (by first | exact b_inc _ | rfl) (by decide) ?_
    refine bv_goto 59 C d_H_mixBlock_207 (by decide) ?_
    refine bv_wk [(0, .ref (ad 2)), (1, .ref q), (2, .int _), (3, .int _), (4, .int _), (5, .int _), (6, .int _), (7, .int _), (8, .int _), (9, .int _), (10, .int (nI (i + 1)))] ⟨rfl, rfl, rfl, rfl, rfl, rfl, rfl, rfl, rfl, rfl, rfl, trivial⟩ ?_
    exact ih (i + 1) _ _ _ _ _ _ _ _ (by omega)
/-- Sha256.mixBlock: the address at key ka is written -/
theorem ct_H_mixBlock {ka : Nat} {f0 g0 : Nat → Int32} (hN : 305 ≤ N) (h2 : w 2 = .inr (4, [.ref (ad 3)])) (h3 : w 3 = aI dd 64 f0) (hk : ka < N) (hka : w ka = aI dd 8 g0) : bK l dd y_H_mixBlock 1 21 0 0 [.ref (ad 2), .ref (ad ka)] ad w N (fun v ad' w' N' => ad = ad' ∧ N = N' ∧ v = none ∧ ∃ g, w' = va_up w ka (aI dd 8 g)) bNo := by
  refine bK.start [(0, .ref (ad 2)), (1, .ref (ad ka))] (by decide) t2_22 (Nat.le_of_ble_eq_true rfl) rfl (fun p e s m args below meth c A hnm C => ?_)
  refine bv_gets 0 3 rfl C (show ("BlobStore$Sha256", "FIRST_HASH", 0, 8) ∈ bSta by simp) t2_23 d_H_mixBlock_0 ?_
  refine bv_iconst (v := nI 0) 4 rfl C d_H_mixBlock_3 (by decide) ?_
  refine bv_ti 0 0 5 rfl C (show ("BlobStore$Sha256", "FIRST_HASH", 0, 8) ∈ bSta by simp) rfl (by decide) (by decide) d_H_mixBlock_4 ?_
  refine bv_istore_n 6 rfl C d_H_mixBlock_5 (by decide) ?_
  refine bv_gets 0 9 rfl C (show ("BlobStore$Sha256", "FIRST_HASH", 0, 8) ∈ bSta by simp) t2_23 d_H_mixBlock_6 ?_
  refine bv_iconst (v := nI 1) 10 rfl C d_H_mixBlock_9 (by decide) ?_
  refine bv_ti 0 1 11 rfl C (show ("BlobStore$Sha256", "FIRST_HASH", 0, 8) ∈ bSta by simp) rfl (by decide) (by decide) d_H_mixBlock_10 ?_
  refine bv_istore_n 12 rfl C d_H_mixBlock_11 (by decide) ?_
  refine bv_gets 0 15 rfl C (show ("BlobStore$Sha256", "FIRST_HASH", 0, 8) ∈ bSta by simp) t2_23 d_H_mixBlock_12 ?_
  refine bv_iconst (v := nI 2) 16 rfl C d_H_mixBlock_15 (by decide) ?_
  refine bv_ti 0 2 17 rfl C (show ("BlobStore$Sha256", "FIRST_HASH", 0, 8) ∈ bSta by simp) rfl (by decide) (by decide) d_H_mixBlock_16 ?_
  refine bv_istore 19 rfl C d_H_mixBlock_17 (by decide) ?_
  refine bv_gets 0 22 rfl C (show ("BlobStore$Sha256", "FIRST_HASH", 0, 8) ∈ bSta by simp) t2_23 d_H_mixBlock_19 ?_
  refine bv_iconst (v := nI 3) 23 rfl C d_H_mixBlock_22 (by decide) ?_
  refine bv_ti 0 3 24 rfl C (show ("BlobStore$Sha256", "FIRST_HASH", 0, 8) ∈ bSta by simp) rfl (by decide) (by decide) d_H_mixBlock_23 ?_
  refine bv_istore 26 rfl C d_H_mixBlock_24 (by decide) ?_
  refine bv_gets 0 29 rfl C (show ("BlobStore$Sha256", "FIRST_HASH", 0, 8) ∈ bSta by simp) t2_23 d_H_mixBlock_26 ?_
  refine bv_iconst (v := nI 4) 30 rfl C d_H_mixBlock_29 (by decide) ?_
  refine bv_ti 0 4 31 rfl C (show ("BlobStore$Sha256", "FIRST_HASH", 0, 8) ∈ bSta by simp) rfl (by decide) (by decide) d_H_mixBlock_30 ?_
  refine bv_istore 33 rfl C d_H_mixBlock_31 (by decide) ?_
  refine bv_gets 0 36 rfl C (show ("BlobStore$Sha256", "FIRST_HASH", 0, 8) ∈ bSta by simp) t2_23 d_H_mixBlock_33 ?_
  refine bv_iconst (v := nI 5) 37 rfl C d_H_mixBlock_36 (by decide) ?_
  refine bv_ti 0 5 38 rfl C (show ("BlobStore$Sha256", "FIRST_HASH", 0, 8) ∈ bSta by simp) rfl (by decide) (by decide) d_H_mixBlock_37 ?_
  refine bv_istore 40 rfl C d_H_mixBlock_38 (by decide) ?_
  refine bv_gets 0 43 rfl C (show ("BlobStore$Sha256", "FIRST_HASH", 0, 8) ∈ bSta by simp) t2_23 d_H_mixBlock_40 ?_
  refine bv_bipush (v := nI 6) 45 rfl C d_H_mixBlock_43 (by decide) ?_
  refine bv_ti 0 6 46 rfl C (show ("BlobStore$Sha256", "FIRST_HASH", 0, 8) ∈ bSta by simp) rfl (by decide) (by decide) d_H_mixBlock_45 ?_
  refine bv_istore 48 rfl C d_H_mixBlock_46 (by decide) ?_
  refine bv_gets 0 51 rfl C (show ("BlobStore$Sha256", "FIRST_HASH", 0, 8) ∈ bSta by simp) t2_23 d_H_mixBlock_48 ?_
  refine bv_bipush (v := nI 7) 53 rfl C d_H_mixBlock_51 (by decide) ?_
  refine bv_ti 0 7 54 rfl C (show ("BlobStore$Sha256", "FIRST_HASH", 0, 8) ∈ bSta by simp) rfl (by decide) (by decide) d_H_mixBlock_53 ?_
  refine bv_istore 56 rfl C d_H_mixBlock_54 (by decide) ?_
  refine bv_iconst (v := nI 0) 57 rfl C d_H_mixBlock_56 (by decide) ?_
  refine bv_istore 59 rfl C d_H_mixBlock_57 (by decide) ?_
  refine bv_wk [(0, .ref (ad 2)), (1, .ref (ad ka)), (2, .int _), (3, .int _), (4, .int _), (5, .int _), (6, .int _), (7, .int _), (8, .int _), (9, .int _), (10, .int (nI 0))] ⟨rfl, rfl, rfl, rfl, rfl, rfl, rfl, rfl, rfl, rfl, rfl, trivial⟩ ?_
  refine lp_mix C hN h2 h3 (by decide) (by decide) (by decide) (by decide) (fun x2 x3 x4 x5 x6 x7 x8 x9 => ?_) 64 0 _ _ _ _ _ _ _ _ rfl
  refine bv_aload_n 211 rfl C d_H_mixBlock_210 rfl ?_
  refine bv_iconst (v := nI 0) 212 rfl C d_H_mixBlock_211 (by decide) ?_
  refine bv_gets 0 215 rfl C (show ("BlobStore$Sha256", "FIRST_HASH", 0, 8) ∈ bSta by simp) t2_23 d_H_mixBlock_212 ?_
  refine bv_iconst (v := nI 0) 216 rfl C d_H_mixBlock_215 (by decide) ?_
  refine bv_ti 0 0 217 rfl C (show ("BlobStore$Sha256", "FIRST_HASH", 0, 8) ∈ bSta by simp) rfl (by decide) (by decide) d_H_mixBlock_216 ?_
  refine bv_iload_n 218 rfl C d_H_mixBlock_217 rfl ?_
  refine bv_iadd 219 rfl C d_H_mixBlock_218 ?_
  refine bv_iast ka 0 220 rfl C hk rfl hka rfl (by decide) (by decide) d_H_mixBlock_219 ?_
  refine bv_aload_n 221 rfl C d_H_mixBlock_220 rfl ?_
  refine bv_iconst (v := nI 1) 222 rfl C d_H_mixBlock_221 (by decide) ?_
  refine bv_gets 0 225 rfl C (show ("BlobStore$Sha256", "FIRST_HASH", 0, 8) ∈ bSta by simp) t2_23 d_H_mixBlock_222 ?_
  refine bv_iconst (v := nI 1) 226 rfl C d_H_mixBlock_225 (by decide) ?_
  refine bv_ti 0 1 227 rfl C (show ("BlobStore$Sha256", "FIRST_HASH", 0, 8) ∈ bSta by simp) rfl (by decide) (by decide) d_H_mixBlock_226 ?_
  refine bv_iload_n 228 rfl C d_H_mixBlock_227 rfl ?_
  refine bv_iadd 229 rfl C d_H_mixBlock_228 ?_
  refine bv_iast ka 1 230 rfl C hk rfl (va_up_self _ _ _) rfl (by decide) (by decide) d_H_mixBlock_229 ?_
  rw [bu_same]
  refine bv_aload_n 231 rfl C d_H_mixBlock_230 rfl ?_
  refine bv_iconst (v := nI 2) 232 rfl C d_H_mixBlock_231 (by decide) ?_
  refine bv_gets 0 235 rfl C (show ("BlobStore$Sha256", "FIRST_HASH", 0, 8) ∈ bSta by simp) t2_23 d_H_mixBlock_232 ?_
  refine bv_iconst (v := nI 2) 236 rfl C d_H_mixBlock_235 (by decide) ?_
  refine bv_ti 0 2 237 rfl C (show ("BlobStore$Sha256", "FIRST_HASH", 0, 8) ∈ bSta by simp) rfl (by decide) (by decide) d_H_mixBlock_236 ?_
  refine bv_iload 239 rfl C d_H_mixBlock_237 rfl ?_
  refine bv_iadd 240 rfl C d_H_mixBlock_239 ?_
  refine bv_iast ka 2 241 rfl C hk rfl (va_up_self _ _ _) rfl (by decide) (by decide) d_H_mixBlock_240 ?_
  rw [bu_same]
  refine bv_aload_n 242 rfl C d_H_mixBlock_241 rfl ?_
  refine bv_iconst (v := nI 3) 243 rfl C d_H_mixBlock_242 (by decide) ?_
  refine bv_gets 0 246 rfl C (show ("BlobStore$Sha256", "FIRST_HASH", 0, 8) ∈ bSta by simp) t2_23 d_H_mixBlock_243 ?_
  refine bv_iconst (v := nI 3) 247 rfl C d_H_mixBlock_246 (by decide) ?_
  refine bv_ti 0 3 248 rfl C (show ("BlobStore$Sha256", "FIRST_HASH", 0, 8) ∈ bSta by simp) rfl (by decide) (by decide) d_H_mixBlock_247 ?_
  refine bv_iload 250 rfl C d_H_mixBlock_248 rfl ?_
  refine bv_iadd 251 rfl C d_H_mixBlock_250 ?_
  refine bv_iast ka 3 252 rfl C hk rfl (va_up_self _ _ _) rfl (by decide) (by decide) d_H_mixBlock_251 ?_
  rw [bu_same]
  refine bv_aload_n 253 rfl C d_H_mixBlock_252 rfl ?_
  refine bv_iconst (v := nI 4) 254 rfl C d_H_mixBlock_253 (by decide) ?_
  refine bv_gets 0 257 rfl C (show ("BlobStore$Sha256", "FIRST_HASH", 0, 8) ∈ bSta by simp) t2_23 d_H_mixBlock_254 ?_
  refine bv_iconst (v := nI 4) 258 rfl C d_H_mixBlock_257 (by decide) ?_
  refine bv_ti 0 4 259 rfl C (show ("BlobStore$Sha256", "FIRST_HASH", 0, 8) ∈ bSta by simp) rfl (by decide) (by decide) d_H_mixBlock_258 ?_
  refine bv_iload 261 rfl C d_H_mixBlock_259 rfl ?_
  refine bv_iadd 262 rfl C d_H_mixBlock_261 ?_
  refine bv_iast ka 4 263 rfl C hk rfl (va_up_self _ _ _) rfl (by decide) (by decide) d_H_mixBlock_262 ?_
  rw [bu_same]
  refine bv_aload_n 264 rfl C d_H_mixBlock_263 rfl ?_
  refine bv_iconst (v := nI 5) 265 rfl C d_H_mixBlock_264 (by decide) ?_
  refine bv_gets 0 268 rfl C (show ("BlobStore$Sha256", "FIRST_HASH", 0, 8) ∈ bSta by simp) t2_23 d_H_mixBlock_265 ?_
  refine bv_iconst (v := nI 5) 269 rfl C d_H_mixBlock_268 (by decide) ?_
  refine bv_ti 0 5 270 rfl C (show ("BlobStore$Sha256", "FIRST_HASH", 0, 8) ∈ bSta by simp) rfl (by decide) (by decide) d_H_mixBlock_269 ?_
  refine bv_iload 272 rfl C d_H_mixBlock_270 rfl ?_
  refine bv_iadd 273 rfl C d_H_mixBlock_272 ?_
  refine bv_iast ka 5 274 rfl C hk rfl (va_up_self _ _ _) rfl (by decide) (by decide) d_H_mixBlock_273 ?_
  rw [bu_same]
  refine bv_aload_n 275 rfl C d_H_mixBlock_274 rfl ?_
  refine bv_bipush (v := nI 6) 277 rfl C d_H_mixBlock_275 (by decide) ?_
  refine bv_gets 0 280 rfl C (show ("BlobStore$Sha256", "FIRST_HASH", 0, 8) ∈ bSta by simp) t2_23 d_H_mixBlock_277 ?_
  refine bv_bipush (v := nI 6) 282 rfl C d_H_mixBlock_280 (by decide) ?_
  refine bv_ti 0 6 283 rfl C (show ("BlobStore$Sha256", "FIRST_HASH", 0, 8) ∈ bSta by simp) rfl (by decide) (by decide) d_H_mixBlock_282 ?_
  refine bv_iload 285 rfl C d_H_mixBlock_283 rfl ?_
  refine bv_iadd 286 rfl C d_H_mixBlock_285 ?_
  refine bv_iast ka 6 287 rfl C hk rfl (va_up_self _ _ _) rfl (by decide) (by decide) d_H_mixBlock_286 ?_
  rw [bu_same]
  refine bv_aload_n 288 rfl C d_H_mixBlock_287 rfl ?_
  refine bv_bipush (v := nI 7) 290 rfl C d_H_mixBlock_288 (by decide) ?_
  refine bv_gets 0 293 rfl C (show ("BlobStore$Sha256", "FIRST_HASH", 0, 8) ∈ bSta by simp) t2_23 d_H_mixBlock_290 ?_
  refine bv_bipush (v := nI 7) 295 rfl C d_H_mixBlock_293 (by decide) ?_
  refine bv_ti 0 7 296 rfl C (show ("BlobStore$Sha256", "FIRST_HASH", 0, 8) ∈ bSta by simp) rfl (by decide) (by decide) d_H_mixBlock_295 ?_
  refine bv_iload 298 rfl C d_H_mixBlock_296 rfl ?_
  refine bv_iadd 299 rfl C d_H_mixBlock_298 ?_
  refine bv_iast ka 7 300 rfl C hk rfl (va_up_self _ _ _) rfl (by decide) (by decide) d_H_mixBlock_299 ?_
  rw [bu_same]
  exact bv_return C rfl d_H_mixBlock_300 (Nat.le_refl _) (Nat.le_refl _) ⟨rfl, rfl, rfl, _, rfl⟩
/-- Sha256.digest -/
theorem ct_H_digest {ka : Nat} {f0 g0 : Nat → Int32} {n : Int32} {x : Int64} (hN : 305 ≤ N) (h2 : w 2 = .inr (4, [.ref (ad 3)])) (h3 : w 3 = aI dd 64 f0) (hk : ka < N) (hn : ka ≠ 3) (hka : w ka = aI dd 8 g0) : bK l dd y_H_digest 2 56 0 0 [.ref (ad 2), .int n, .long x, .ref (ad ka)] ad w N (fun v ad' w' N' => ad = ad' ∧ N = N' ∧ v = none ∧ ∃ f g, w' = va_up (va_up w 3 (aI dd 64 f)) ka (aI dd 8 g)) bNo := by
  have h2' : ∀ f : Nat → Int32, va_up w 3 (aI dd 64 f) 2 = .inr (4, [.ref (ad 3)]) := fun f => by rw [va_up_ne _ _ (by decide)]; exact h2
  refine bK.start [(0, .ref (ad 2)), (1, .int n), (2, .long x), (4, .ref (ad ka))] (by decide) t2_5 (Nat.le_of_ble_eq_true rfl) rfl (fun p e s m args below meth c A hnm C => ?_)
  refine bv_aload_n 1 rfl C d_H_digest_0 rfl ?_
  refine bv_iload_n 2 rfl C d_H_digest_1 rfl ?_
  refine bv_lload_n 3 rfl C d_H_digest_2 rfl ?_
  refine bv_call (rest := []) 6 rfl C d_H_digest_3 (ct_H_padBlock hN h2 h3) i_H_padBlock t1_3 (fun H locs ls hP => bs_V (av := [.int n, .long x]) 2 C i_H_padBlock t2_6 t2_8 s_10 (by omega) rfl h2 rfl (by decide) rfl rfl d_H_digest_3 H locs ls hP) ⟨by first | decide | omega, by first | decide | omega⟩ (by decide) (by decide) (Nat.le_of_ble_eq_true rfl) (fun v ad1 w1 N1 hpo => ?_) (fun x Cn ad' w' N' hth => hth.elim)
  obtain ⟨rfl, rfl, rfl, f1, rfl⟩ := hpo
  refine bv_aload_n 7 rfl C d_H_digest_6 rfl ?_
  refine bv_call (rest := []) 10 rfl C d_H_digest_7 (ct_H_expandBlock hN (h2' f1) (va_up_self _ _ _)) i_H_expandBlock t1_3 (fun H locs ls hP => bs_V (av := []) 2 C i_H_expandBlock t2_12 t2_14 s_11 (by omega) rfl (h2' f1) rfl (by decide) rfl rfl d_H_digest_7 H locs ls hP) ⟨by first | decide | omega, by first | decide | omega⟩ (by decide) (by decide) (Nat.le_of_ble_eq_true rfl) (fun v ad1 w1 N1 hpo => ?_) (fun x Cn ad' w' N' hth => hth.elim)
  obtain ⟨rfl, rfl, rfl, f2, rfl⟩ := hpo
  rw [bu_same]
  refine bv_aload_n 11 rfl C d_H_digest_10 rfl ?_
  refine bv_aload 13 rfl C d_H_digest_11 rfl ?_
  refine bv_call (rest := []) 16 rfl C d_H_digest_13 (ct_H_mixBlock (ka := ka) hN (h2' f2) (va_up_self _ _ _) hk ((va_up_ne _ _ hn).trans hka)) i_H_mixBlock t1_3 (fun H locs ls hP => bs_V (av := [.ref (ad ka)]) 2 C i_H_mixBlock t2_19 t2_21 s_12 (by omega) rfl (h2' f2) rfl (by decide) rfl rfl d_H_digest_13 H locs ls hP) ⟨by first | decide | omega, by first | decide | omega⟩ (by decide) (by decide) (Nat.le_of_ble_eq_true rfl) (fun v ad1 w1 N1 hpo => ?_) (fun x Cn ad' w' N' hth => hth.elim)
  obtain ⟨rfl, rfl, rfl, g, rfl⟩ := hpo
  exact bv_return C rfl d_H_digest_16 (Nat.le_refl _) (Nat.le_refl _) ⟨rfl, rfl, rfl, f2, g, rfl⟩
/-- Chunk.fill -/
theorem ct_K_fill {k : Nat} {f0 g0 : Nat → Int32} {n len : Int32} {x by_ : Int64} (hN : 305 ≤ N) (h2 : w 2 = .inr (4, [.ref (ad 3)])) (h3 : w 3 = aI dd 64 f0) (hk : k + 1 < N) (hn : 10 ≤ k) (hw : w k = .inr (0, [.int len, .long by_, .ref (ad (k + 1))])) (hka : w (k + 1) = aI dd 8 g0) : bK l dd y_K_fill 3 80 0 0 [.ref (ad k), .int n, .long x, .ref (ad 2)] ad w N (fun v ad' w' N' => ad = ad' ∧ N = N' ∧ v = none ∧ (∃ y : Int64, w' k = .inr (0, [.int n, .long y, .ref (ad (k + 1))])) ∧ (∃ g, w' (k + 1) = aI dd 8 g) ∧ (∃ f, w' 3 = aI dd 64 f) ∧ ∀ i, i ≠ k → i ≠ k + 1 → i ≠ 3 → w' i = w i) bNo := by
  refine bK.start [(0, .ref (ad k)), (1, .int n), (2, .long x), (4, .ref (ad 2))] (by decide) t2_0 (Nat.le_of_ble_eq_true rfl) rfl (fun p e s m args below meth c A hnm C => ?_)
  refine bv_aload_n 1 rfl C d_K_fill_0 rfl ?_
  refine bv_iload_n 2 rfl C d_K_fill_1 rfl ?_
  refine bv_put k 0 5 rfl C k_K (by omega) rfl hw (by decide) t1_84 rfl rfl rfl (Nat.le_of_ble_eq_true rfl) d_K_fill_2 ?_
  refine bv_aload_n 6 rfl C d_K_fill_5 rfl ?_
  refine bv_lload_n 7 rfl C d_K_fill_6 rfl ?_
  refine bv_ldc2 10 rfl C t2_1 d_K_fill_7 ?_
  refine bv_bipush (v := nI 64) 12 rfl C d_K_fill_10 (by decide) ?_
  refine bv_bipush (v := nI 8) 14 rfl C d_K_fill_12 (by decide) ?_
  refine bv_iload_n 15 rfl C d_K_fill_14 rfl ?_
  refine bv_imul 16 rfl C d_K_fill_15 ?_
  refine bv_isub 17 rfl C d_K_fill_16 ?_
  refine bv_lshl 18 rfl C d_K_fill_17 rfl ?_
  refine bv_land 19 rfl C d_K_fill_18 ?_
  refine bv_put k 1 22 rfl C k_K (by omega) rfl (va_up_self _ _ _) (by decide) t1_86 rfl rfl rfl (Nat.le_of_ble_eq_true rfl) d_K_fill_19 ?_
  rw [bu_same]
  refine bv_aload 24 rfl C d_K_fill_22 rfl ?_
  refine bv_iload_n 25 rfl C d_K_fill_24 rfl ?_
  refine bv_aload_n 26 rfl C d_K_fill_25 rfl ?_
  refine bv_get k 1 29 rfl C k_K (by omega) rfl (va_up_self _ _ _) (by decide) t1_86 rfl d_K_fill_26 ?_
  refine bv_aload_n 30 rfl C d_K_fill_29 rfl ?_
  refine bv_get k 2 33 rfl C k_K (by omega) rfl (va_up_self _ _ _) (by decide) t1_87 rfl d_K_fill_30 ?_
  refine bv_call (rest := []) 36 rfl C d_K_fill_33 (ct_H_digest (ka := k + 1) hN (by rw [va_up_ne _ _ (by omega)]; exact h2) (by rw [va_up_ne _ _ (by omega)]; exact h3) hk (by omega) (by rw [va_up_ne _ _ (by omega)]; exact hka)) i_H_digest t1_3 (fun H locs ls hP => bs_VN (av := [.int n, .long _, .ref (ad (k + 1))]) 2 C i_H_digest n2_2 t2_4 s_9 (by omega) rfl (by rw [va_up_ne _ _ (by omega)]; exact h2) rfl (by decide) rfl rfl d_K_fill_33 H locs ls hP) ⟨by first | decide | omega, by first | decide | omega⟩ (by decide) (by decide) (Nat.le_of_ble_eq_true rfl) (fun v ad1 w1 N1 hpo => ?_) (fun x Cn ad' w' N' hth => hth.elim)
  obtain ⟨rfl, rfl, rfl, f, g, rfl⟩ := hpo
  exact bv_return C rfl d_K_fill_36 (Nat.le_refl _) (Nat.le_refl _) ⟨rfl, rfl, rfl, ⟨_, by rw [va_up_ne _ _ (by omega), va_up_ne _ _ (by omega), va_up_self]; rfl⟩, ⟨g, va_up_self _ _ _⟩, ⟨f, by rw [va_up_ne _ _ (by omega), va_up_self]⟩, fun i h1 h2 h3 => by rw [va_up_ne _ _ h2, va_up_ne _ _ h3, va_up_ne _ _ h1]⟩
end bMix
end
section
section bOp
variable {l : Launch} {dd : bD} {ad : Nat → Nat} {w : Nat → va_E} {N : Nat} {ve : Int32} {so sb sk : Nat → Int32}
/-- which session is meant, and that it is under way -/
def bOpn (so : Nat → Int32) (x : Int32) : Prop := ∃ i, i < 5 ∧ x = nI i ∧ ¬ so i = 0
theorem ct_B_openSession (hlt : bOff l) (hN : 305 ≤ N) (h0 : w 0 = oB ad ve) (hS : bSs dd ad w so sb sk) {x : Int32} : bK l dd y_B_openSession 6 82 1 6 [.ref (ad 0), .int x] ad w N (bSame ad w N (fun v => ∃ i, i < 5 ∧ x = nI i ∧ ¬ so i = 0 ∧ v = some (.ref (ad (109 + 14 * i))))) (bSameT ad w N (fun Cn => Cn = xIAE ∧ ¬ bOpn so x)) := by
  obtain ⟨⟨f, hf, hf'⟩, hs⟩ := hS
  refine bK.start [(0, .ref (ad 0)), (1, .int x)] (by decide) t2_193 (Nat.le_of_ble_eq_true rfl) rfl (fun p e s m args below meth c A hnm C => ?_)
  have thr : ¬ bOpn so x → bV p l e { frames := 6, cells := 1, slots := 6, locals := 82 } s m args below meth c dd A 2 1 6 (bSame ad w N (fun v => ∃ i, i < 5 ∧ x = nI i ∧ ¬ so i = 0 ∧ v = some (.ref (ad (109 + 14 * i))))) (bSameT ad w N (fun Cn => Cn = xIAE ∧ ¬ bOpn so x)) 21 (bO [(0, .ref (ad 0)), (1, .int x)]) [] ad w N 0 0 := by
    intro hn
    exact bv_throw (names := ["java/lang/RuntimeException", "java/lang/Exception"]) hlt C d_B_openSession_21 d_B_openSession_24 d_B_openSession_25 d_B_openSession_27 d_B_openSession_30 t2_142 t2_143 t1_13 (show ("BlobStore", 207, "no such session is open") ∈ bStr by simp) (by decide) (by decide) ow_B_86 rfl (by first | decide | omega) (by first | decide | omega) (by first | decide | omega) (by first | decide | omega) (by first | decide | omega) (by first | decide | omega) ⟨rfl, rfl, rfl, rfl, hn⟩
  refine bv_iload_n 1 rfl C d_B_openSession_0 rfl ?_
  refine bv_if_lt 21 4 rfl C d_B_openSession_1 (by decide) (fun x1 => ?_) (fun x1 => ?_)
  · refine thr ?_
    rintro ⟨i, hi, rfl, -⟩
    exact nI_pos (by omega) x1
  · refine bv_iload_n 5 rfl C d_B_openSession_4 rfl ?_
    refine bv_iconst (v := nI 5) 6 rfl C d_B_openSession_5 (by decide) ?_
    refine bv_icmp_ge 21 9 rfl C d_B_openSession_6 (by decide) (fun x2 => ?_) (fun x2 => ?_)
    · refine thr ?_
      rintro ⟨i, hi, rfl, -⟩
      exact nI_ge hi (by decide) x2
    · obtain ⟨i, hi, rfl⟩ : ∃ i : Nat, i < 5 ∧ x = nI i := by
        rcases pk_ix x (show 5 < 2 ^ 31 by decide) with h | h | h
        · exact absurd h x1
        · exact absurd h x2
        · exact h
      refine bv_aload_n 10 rfl C d_B_openSession_9 rfl ?_
      refine bv_get 0 3 13 rfl C k_B (by omega) rfl h0 (by decide) t1_149 rfl d_B_openSession_10 ?_
      refine bv_iload_n 14 rfl C d_B_openSession_13 rfl ?_
      refine bv_aald 5 5 i 15 rfl C rfl (by omega) rfl hf rfl (by omega) (by decide) d_B_openSession_14 (hf' i (by omega)) ?_
      refine bv_getN (109 + 14 * i) 0 18 rfl C k_S (by omega) rfl (hs i (by omega)) (by decide) n1_105 rfl d_B_openSession_15 ?_
      refine bv_if_ne 31 21 rfl C d_B_openSession_18 (by decide) (fun x3 => ?_) (fun x3 => ?_)
      · refine bv_aload_n 32 rfl C d_B_openSession_31 rfl ?_
        refine bv_get 0 3 35 rfl C k_B (by omega) rfl h0 (by decide) t1_149 rfl d_B_openSession_32 ?_
        refine bv_iload_n 36 rfl C d_B_openSession_35 rfl ?_
        refine bv_aald 5 5 i 37 rfl C rfl (by omega) rfl hf rfl (by omega) (by decide) d_B_openSession_36 (hf' i (by omega)) ?_
        exact bv_areturn C rfl (Or.inr ⟨_, rfl⟩) d_B_openSession_37 (by decide) (by decide) ⟨rfl, rfl, rfl, i, hi, rfl, x3, rfl⟩
      · refine thr ?_
        rintro ⟨j, hj, hji, hjo⟩
        obtain rfl : i = j := (nI_eq (by omega) (by omega)).mp hji
        exact hjo x3
/-- part, complete, abort where no session is under way -/
theorem ct_B_part (hlt : bOff l) (hN : 305 ≤ N) (h0 : w 0 = oB ad ve) (hS : bSs dd ad w so sb sk) {wr cu : Int32} (h1 : w 1 = .inr (1, [.int wr, .int cu, .int (nI 0)])) (hso : ∀ j, j < 5 → so j = 0) {x y z : Int32} {a b c0 : Int64} :
    bK l dd y_B_part 7 103 2 12 [.ref (ad 0), .int x, .int y, .int z, .long a, .long b, .long c0] ad w N (fun _ _ _ _ => False) (bSameT ad w N (fun Cn => Cn = xIAE)) := by
  refine bK.start [(0, .ref (ad 0)), (1, .int x), (2, .int y), (3, .int z), (4, .long a), (6, .long b), (8, .long c0)] (by decide) t2_189 (Nat.le_of_ble_eq_true rfl) rfl (fun p e s m args below meth c A hnm C => ?_)
  refine bv_aload_n 1 rfl C d_B_part_0 rfl ?_
  refine bv_get 0 0 4 rfl C k_B (by omega) rfl h0 (by decide) t1_146 rfl d_B_part_1 ?_
  refine bv_call (rest := []) 7 rfl C d_B_part_4 (ct_P_requireOn hlt (k := 1) (by omega) h1) i_P_requireOn t1_2 (fun H locs ls hP => bs_VN (av := []) 1 C i_P_requireOn n2_61 t2_63 s_18 (by omega) rfl h1 rfl (by decide) rfl rfl d_B_part_4 H locs ls hP) ⟨by first | decide | omega, by first | decide | omega⟩ (by decide) (by decide) (Nat.le_of_ble_eq_true rfl) (fun v ad1 w1 N1 hpo => ?_) (fun x Cn ad' w' N' hth => ?_)
  · obtain ⟨rfl, rfl, rfl, rfl, -⟩ := hpo
    refine bv_aload_n 8 rfl C d_B_part_7 rfl ?_
    refine bv_iload_n 9 rfl C d_B_part_8 rfl ?_
    refine bv_call (rest := []) 12 rfl C d_B_part_9 (ct_B_openSession hlt hN h0 hS) i_B_openSession t1_1 (fun H locs ls hP => bs_V (av := [.int x]) 0 C i_B_openSession t2_190 t2_192 s_23 (by omega) rfl h0 rfl (by decide) rfl rfl d_B_part_9 H locs ls hP) ⟨by first | decide | omega, by first | decide | omega⟩ (by decide) (by decide) (Nat.le_of_ble_eq_true rfl) (fun v ad1 w1 N1 hpo => ?_) (fun x Cn ad' w' N' hth => ?_)
    · obtain ⟨-, -, -, i, hi, -, ho, -⟩ := hpo
      exact absurd (hso i hi) ho
    · obtain ⟨rfl, rfl, rfl, rfl, -⟩ := hth
      exact bt_out C rfl (by decide) (by decide) ⟨rfl, rfl, rfl, rfl⟩
  · obtain ⟨-, -, -, -, hz⟩ := hth
    exact absurd rfl hz
theorem ct_B_complete (hlt : bOff l) (hN : 305 ≤ N) (h0 : w 0 = oB ad (nI 0)) (hS : bSs dd ad w so sb sk) {wr cu : Int32} (h1 : w 1 = .inr (1, [.int wr, .int cu, .int (nI 0)])) (hso : ∀ j, j < 5 → so j = 0) {x : Int32} :
    bK l dd y_B_complete 7 103 2 12 [.ref (ad 0), .int x] ad w N (fun _ _ _ _ => False) (bSameT ad w N (fun Cn => Cn = xIAE)) := by
  refine bK.start [(0, .ref (ad 0)), (1, .int x)] (by decide) t3_21 (Nat.le_of_ble_eq_true rfl) rfl (fun p e s m args below meth c A hnm C => ?_)
  refine bv_aload_n 1 rfl C d_B_complete_0 rfl ?_
  refine bv_get 0 0 4 rfl C k_B (by omega) rfl h0 (by decide) t1_146 rfl d_B_complete_1 ?_
  refine bv_call (rest := []) 7 rfl C d_B_complete_4 (ct_P_requireOn hlt (k := 1) (by omega) h1) i_P_requireOn t1_2 (fun H locs ls hP => bs_VN (av := []) 1 C i_P_requireOn n2_61 t2_63 s_18 (by omega) rfl h1 rfl (by decide) rfl rfl d_B_complete_4 H locs ls hP) ⟨by first | decide | omega, by first | decide | omega⟩ (by decide) (by decide) (Nat.le_of_ble_eq_true rfl) (fun v ad1 w1 N1 hpo => ?_) (fun x Cn ad' w' N' hth => ?_)
  · obtain ⟨rfl, rfl, rfl, rfl, -⟩ := hpo
    refine bv_aload_n 8 rfl C d_B_complete_7 rfl ?_
    refine bv_get 0 5 11 rfl C k_B (by omega) rfl h0 (by decide) t1_151 rfl d_B_complete_8 ?_
    refine bv_bipush (v := nI 40) 13 rfl C d_B_complete_11 (by decide) ?_
    refine bv_icmp_lt 26 16 rfl C d_B_complete_13 (by decide) (fun h => ?_) (fun h => absurd (show nI 0 < nI 40 by decide) h)
    refine bv_aload_n 27 rfl C d_B_complete_26 rfl ?_
    refine bv_iload_n 28 rfl C d_B_complete_27 rfl ?_
    refine bv_call (rest := []) 31 rfl C d_B_complete_28 (ct_B_openSession hlt hN h0 hS) i_B_openSession t1_1 (fun H locs ls hP => bs_V (av := [.int x]) 0 C i_B_openSession t2_190 t2_192 s_23 (by omega) rfl h0 rfl (by decide) rfl rfl d_B_complete_28 H locs ls hP) ⟨by first | decide | omega, by first | decide | omega⟩ (by decide) (by decide) (Nat.le_of_ble_eq_true rfl) (fun v ad1 w1 N1 hpo => ?_) (fun x Cn ad' w' N' hth => ?_)
    · obtain ⟨-, -, -, i, hi, -, ho, -⟩ := hpo
      exact absurd (hso i hi) ho
    · obtain ⟨rfl, rfl, rfl, rfl, -⟩ := hth
      exact bt_out C rfl (by decide) (by decide) ⟨rfl, rfl, rfl, rfl⟩
  · obtain ⟨-, -, -, -, hz⟩ := hth
    exact absurd rfl hz
theorem ct_B_abort (hlt : bOff l) (hN : 305 ≤ N) (h0 : w 0 = oB ad ve) (hS : bSs dd ad w so sb sk) {wr cu : Int32} (h1 : w 1 = .inr (1, [.int wr, .int cu, .int (nI 0)])) (hso : ∀ j, j < 5 → so j = 0) {x : Int32} :
    bK l dd y_B_abort 7 103 2 12 [.ref (ad 0), .int x] ad w N (fun _ _ _ _ => False) (bSameT ad w N (fun Cn => Cn = xIAE)) := by
  refine bK.start [(0, .ref (ad 0)), (1, .int x)] (by decide) t3_34 (Nat.le_of_ble_eq_true rfl) rfl (fun p e s m args below meth c A hnm C => ?_)
  refine bv_aload_n 1 rfl C d_B_abort_0 rfl ?_
  refine bv_get 0 0 4 rfl C k_B (by omega) rfl h0 (by decide) t1_146 rfl d_B_abort_1 ?_
  refine bv_call (rest := []) 7 rfl C d_B_abort_4 (ct_P_requireOn hlt (k := 1) (by omega) h1) i_P_requireOn t1_2 (fun H locs ls hP => bs_VN (av := []) 1 C i_P_requireOn n2_61 t2_63 s_18 (by omega) rfl h1 rfl (by decide) rfl rfl d_B_abort_4 H locs ls hP) ⟨by first | decide | omega, by first | decide | omega⟩ (by decide) (by decide) (Nat.le_of_ble_eq_true rfl) (fun v ad1 w1 N1 hpo => ?_) (fun x Cn ad' w' N' hth => ?_)
  · obtain ⟨rfl, rfl, rfl, rfl, -⟩ := hpo
    refine bv_aload_n 8 rfl C d_B_abort_7 rfl ?_
    refine bv_iload_n 9 rfl C d_B_abort_8 rfl ?_
    refine bv_call (rest := []) 12 rfl C d_B_abort_9 (ct_B_openSession hlt hN h0 hS) i_B_openSession t1_1 (fun H locs ls hP => bs_V (av := [.int x]) 0 C i_B_openSession t2_190 t2_192 s_23 (by omega) rfl h0 rfl (by decide) rfl rfl d_B_abort_9 H locs ls hP) ⟨by first | decide | omega, by first | decide | omega⟩ (by decide) (by decide) (Nat.le_of_ble_eq_true rfl) (fun v ad1 w1 N1 hpo => ?_) (fun x Cn ad' w' N' hth => ?_)
    · obtain ⟨-, -, -, i, hi, -, ho, -⟩ := hpo
      exact absurd (hso i hi) ho
    · obtain ⟨rfl, rfl, rfl, rfl, -⟩ := hth
      exact bt_out C rfl (by decide) (by decide) ⟨rfl, rfl, rfl, rfl⟩
  · obtain ⟨-, -, -, -, hz⟩ := hth
    exact absurd rfl hz
/-- no version has come yet -/
theorem ct_B_livingVersion (hN : 305 ≤ N) (h0 : w 0 = oB ad (nI 0)) {x : Int32} : bK l dd y_B_livingVersion 0 0 0 0 [.ref (ad 0), .int x] ad w N (bSame ad w N (fun v => v = some .null)) bNo := by
  refine bK.start [(0, .ref (ad 0)), (1, .int x)] (by decide) t1_196 (Nat.le_of_ble_eq_true rfl) rfl (fun p e s m args below meth c A hnm C => ?_)
  refine bv_iload_n 1 rfl C d_B_livingVersion_0 rfl ?_
  refine bv_iconst (v := nI 1) 2 rfl C d_B_livingVersion_1 (by decide) ?_
  refine bv_icmp_lt 27 5 rfl C d_B_livingVersion_2 (by decide) (fun x1 => ?_) (fun x1 => ?_)
  · refine bv_null 28 rfl C d_B_livingVersion_27 ?_
    exact bv_areturn C rfl (Or.inl rfl) d_B_livingVersion_28 (by decide) (by decide) ⟨rfl, rfl, rfl, rfl⟩
  · refine bv_iload_n 6 rfl C d_B_livingVersion_5 rfl ?_
    refine bv_aload_n 7 rfl C d_B_livingVersion_6 rfl ?_
    refine bv_get 0 5 10 rfl C k_B (by omega) rfl h0 (by decide) t1_151 rfl d_B_livingVersion_7 ?_
    refine bv_icmp_gt 27 13 rfl C d_B_livingVersion_10 (by decide) (fun h => ?_) (fun h => absurd (show nI 0 < x by rw [Int32.lt_iff_toInt_lt] at x1 ⊢; have : (nI 1).toInt = 1 := rfl; have : (nI 0).toInt = 0 := rfl; omega) h)
    refine bv_null 28 rfl C d_B_livingVersion_27 ?_
    exact bv_areturn C rfl (Or.inl rfl) d_B_livingVersion_28 (by decide) (by decide) ⟨rfl, rfl, rfl, rfl⟩
theorem ct_B_delete (hlt : bOff l) (hN : 305 ≤ N) (h0 : w 0 = oB ad (nI 0)) {wr cu : Int32} (h1 : w 1 = .inr (1, [.int wr, .int cu, .int (nI 0)])) {x : Int32} : bK l dd y_B_delete 7 102 1 6 [.ref (ad 0), .int x] ad w N (bSame ad w N (fun v => v = some (.int (nI 0)))) bNo := by
  refine bK.start [(0, .ref (ad 0)), (1, .int x)] (by decide) t3_41 (Nat.le_of_ble_eq_true rfl) rfl (fun p e s m args below meth c A hnm C => ?_)
  refine bv_aload_n 1 rfl C d_B_delete_0 rfl ?_
  refine bv_get 0 0 4 rfl C k_B (by omega) rfl h0 (by decide) t1_146 rfl d_B_delete_1 ?_
  refine bv_call (rest := []) 7 rfl C d_B_delete_4 (ct_P_requireOn hlt (k := 1) (by omega) h1) i_P_requireOn t1_2 (fun H locs ls hP => bs_VN (av := []) 1 C i_P_requireOn n2_61 t2_63 s_18 (by omega) rfl h1 rfl (by decide) rfl rfl d_B_delete_4 H locs ls hP) ⟨by first | decide | omega, by first | decide | omega⟩ (by decide) (by decide) (Nat.le_of_ble_eq_true rfl) (fun v ad1 w1 N1 hpo => ?_) (fun x Cn ad' w' N' hth => ?_)
  · obtain ⟨rfl, rfl, rfl, rfl, -⟩ := hpo
    refine bv_aload_n 8 rfl C d_B_delete_7 rfl ?_
    refine bv_iload_n 9 rfl C d_B_delete_8 rfl ?_
    refine bv_call (rest := []) 12 rfl C d_B_delete_9 (ct_B_livingVersion hN h0) i_B_livingVersion t1_1 (fun H locs ls hP => bs_V (av := [.int x]) 0 C i_B_livingVersion t1_193 t1_195 s_1 (by omega) rfl h0 rfl (by decide) rfl rfl d_B_delete_9 H locs ls hP) ⟨by first | decide | omega, by first | decide | omega⟩ (by decide) (by decide) (Nat.le_of_ble_eq_true rfl) (fun v ad1 w1 N1 hpo => ?_) (fun x Cn ad' w' N' hth => hth.elim)
    obtain ⟨rfl, rfl, rfl, rfl⟩ := hpo
    refine bv_astore_nN 13 rfl C d_B_delete_12 (by decide) ?_
    refine bv_aload_nN 14 rfl C d_B_delete_13 rfl ?_
    refine bv_ifnonnullN 17 rfl C d_B_delete_14 ?_
    refine bv_iconst (v := nI 0) 18 rfl C d_B_delete_17 (by decide) ?_
    exact bv_zreturn C rfl (Or.inl rfl) d_B_delete_18 (by decide) (by decide) ⟨rfl, rfl, rfl, rfl⟩
  · obtain ⟨-, -, -, -, hz⟩ := hth
    exact absurd rfl hz
theorem ct_B_cutAfter (hlt : bOff l) (hN : 305 ≤ N) (h0 : w 0 = oB ad ve) {wr cu gn : Int32} (h1 : w 1 = .inr (1, [.int wr, .int cu, .int gn])) {x : Int32} : bK l dd y_B_cutAfter 6 82 1 6 [.ref (ad 0), .int x] ad w N (fun v ad' w' N' => ad = ad' ∧ N = N' ∧ v = none ∧ (¬ x < 0 ∧ x ≤ nI 1000) ∧ w' = va_up w 1 (.inr (1, [.int wr, .int x, .int gn]))) (bSameT ad w N (fun Cn => Cn = xIAE ∧ ¬ (¬ x < 0 ∧ x ≤ nI 1000))) := by
  refine bK.start [(0, .ref (ad 0)), (1, .int x)] (by decide) t3_59 (Nat.le_of_ble_eq_true rfl) rfl (fun p e s m args below meth c A hnm C => ?_)
  refine bv_iload_n 1 rfl C d_B_cutAfter_0 rfl ?_
  refine bv_if_lt 11 4 rfl C d_B_cutAfter_1 (by decide) (fun x1 => ?_) (fun x1 => ?_)
  · exact bv_throw (names := ["java/lang/RuntimeException", "java/lang/Exception"]) hlt C d_B_cutAfter_11 d_B_cutAfter_14 d_B_cutAfter_15 d_B_cutAfter_17 d_B_cutAfter_20 t2_142 t2_143 t1_13 (show ("BlobStore", 146, "no such count of writes") ∈ bStr by simp) (by decide) (by decide) ow_B_86 rfl (by first | decide | omega) (by first | decide | omega) (by first | decide | omega) (by first | decide | omega) (by first | decide | omega) (by first | decide | omega) ⟨rfl, rfl, rfl, rfl, fun hh => hh.1 x1⟩
  · refine bv_iload_n 5 rfl C d_B_cutAfter_4 rfl ?_
    refine bv_sipush (v := nI 1000) 8 rfl C d_B_cutAfter_5 (by decide) ?_
    refine bv_icmp_le 21 11 rfl C d_B_cutAfter_8 (by decide) (fun x2 => ?_) (fun x2 => ?_)
    · refine bv_aload_n 22 rfl C d_B_cutAfter_21 rfl ?_
      refine bv_get 0 0 25 rfl C k_B (by omega) rfl h0 (by decide) t1_146 rfl d_B_cutAfter_22 ?_
      refine bv_iload_n 26 rfl C d_B_cutAfter_25 rfl ?_
      refine bv_call (rest := []) 29 rfl C d_B_cutAfter_26 (ct_P_tellCut (k := 1) (by omega) h1) i_P_tellCut t1_2 (fun H locs ls hP => bs_VN (av := [.int x]) 1 C i_P_tellCut n3_61 t3_63 s_35 (by omega) rfl h1 rfl (by decide) rfl rfl d_B_cutAfter_26 H locs ls hP) ⟨by first | decide | omega, by first | decide | omega⟩ (by decide) (by decide) (Nat.le_of_ble_eq_true rfl) (fun v ad1 w1 N1 hpo => ?_) (fun x Cn ad' w' N' hth => hth.elim)
      obtain ⟨rfl, rfl, rfl, rfl⟩ := hpo
      exact bv_return C rfl d_B_cutAfter_29 (by decide) (by decide) ⟨rfl, rfl, rfl, ⟨x1, x2⟩, rfl⟩
    · exact bv_throw (names := ["java/lang/RuntimeException", "java/lang/Exception"]) hlt C d_B_cutAfter_11 d_B_cutAfter_14 d_B_cutAfter_15 d_B_cutAfter_17 d_B_cutAfter_20 t2_142 t2_143 t1_13 (show ("BlobStore", 146, "no such count of writes") ∈ bStr by simp) (by decide) (by decide) ow_B_86 rfl (by first | decide | omega) (by first | decide | omega) (by first | decide | omega) (by first | decide | omega) (by first | decide | omega) (by first | decide | omega) ⟨rfl, rfl, rfl, rfl, fun hh => x2 hh.2⟩
theorem ct_B_recover (hN : 305 ≤ N) (h0 : w 0 = oB ad ve) {wr cu gn : Int32} (h1 : w 1 = .inr (1, [.int wr, .int cu, .int gn])) : bK l dd y_B_recover 1 20 0 0 [.ref (ad 0)] ad w N (fun v ad' w' N' => ad = ad' ∧ N = N' ∧ ((gn = 0 ∧ v = some (.int (nI 0)) ∧ w' = w) ∨ (¬ gn = 0 ∧ v = some (.int (nI 1)) ∧ w' = va_up w 1 (.inr (1, [.int wr, .int (-1), .int (nI 0)]))))) bNo := by
  refine bK.start [(0, .ref (ad 0))] (by decide) t1_180 (Nat.le_of_ble_eq_true rfl) rfl (fun p e s m args below meth c A hnm C => ?_)
  refine bv_aload_n 1 rfl C d_B_recover_0 rfl ?_
  refine bv_get 0 0 4 rfl C k_B (by omega) rfl h0 (by decide) t1_146 rfl d_B_recover_1 ?_
  refine bv_call (rest := []) 7 rfl C d_B_recover_4 (ct_P_turnOn (k := 1) (by omega) h1) i_P_turnOn t1_2 (fun H locs ls hP => bs_VN (av := []) 1 C i_P_turnOn n1_181 t1_183 s_0 (by omega) rfl h1 rfl (by decide) rfl rfl d_B_recover_4 H locs ls hP) ⟨by first | decide | omega, by first | decide | omega⟩ (by decide) (by decide) (Nat.le_of_ble_eq_true rfl) (fun v ad1 w1 N1 hpo => ?_) (fun x Cn ad' w' N' hth => hth.elim)
  obtain ⟨rfl, rfl, hv⟩ := hpo
  rcases hv with ⟨hg, rfl, rfl⟩ | ⟨hg, rfl, rfl⟩
  · exact bv_zreturn C rfl (Or.inl rfl) d_B_recover_7 (Nat.le_refl _) (Nat.le_refl _) ⟨rfl, rfl, Or.inl ⟨hg, rfl, rfl⟩⟩
  · exact bv_zreturn C rfl (Or.inr rfl) d_B_recover_7 (Nat.le_refl _) (Nat.le_refl _) ⟨rfl, rfl, Or.inr ⟨hg, rfl, rfl⟩⟩
/-- latest, size, byteAt where no version has come -/
theorem ct_B_latest (hN : 305 ≤ N) (h0 : w 0 = oB ad (nI 0)) {x y : Int32} : bK l dd y_B_latest 0 0 0 0 [.ref (ad 0), .int x, .int y] ad w N (bSame ad w N (fun v => v = some (.int (nI 0)))) bNo := by
  refine bK.start [(0, .ref (ad 0)), (1, .int x), (2, .int y)] (by decide) t1_188 (Nat.le_of_ble_eq_true rfl) rfl (fun p e s m args below meth c A hnm C => ?_)
  refine bv_aload_n 1 rfl C d_B_latest_0 rfl ?_
  refine bv_get 0 5 4 rfl C k_B (by omega) rfl h0 (by decide) t1_151 rfl d_B_latest_1 ?_
  refine bv_istore_n 5 rfl C d_B_latest_4 (by decide) ?_
  refine bv_iload_n 6 rfl C d_B_latest_5 rfl ?_
  refine bv_iconst (v := nI 1) 7 rfl C d_B_latest_6 (by decide) ?_
  refine bv_icmp_lt 54 10 rfl C d_B_latest_7 (by decide) (fun h => ?_) (fun h => absurd (show nI 0 < nI 1 by decide) h)
  refine bv_iconst (v := nI 0) 55 rfl C d_B_latest_54 (by decide) ?_
  exact bv_ireturn C rfl d_B_latest_55 (Nat.le_refl _) (Nat.le_refl _) ⟨rfl, rfl, rfl, rfl⟩
theorem ct_B_size (hN : 305 ≤ N) (h0 : w 0 = oB ad (nI 0)) {x : Int32} : bK l dd y_B_size 1 21 0 0 [.ref (ad 0), .int x] ad w N (bSame ad w N (fun v => v = some (.int (-1)))) bNo := by
  refine bK.start [(0, .ref (ad 0)), (1, .int x)] (by decide) t1_192 (Nat.le_of_ble_eq_true rfl) rfl (fun p e s m args below meth c A hnm C => ?_)
  refine bv_aload_n 1 rfl C d_B_size_0 rfl ?_
  refine bv_iload_n 2 rfl C d_B_size_1 rfl ?_
  refine bv_call (rest := []) 5 rfl C d_B_size_2 (ct_B_livingVersion hN h0) i_B_livingVersion t1_1 (fun H locs ls hP => bs_V (av := [.int x]) 0 C i_B_livingVersion t1_193 t1_195 s_1 (by omega) rfl h0 rfl (by decide) rfl rfl d_B_size_2 H locs ls hP) ⟨by first | decide | omega, by first | decide | omega⟩ (by decide) (by decide) (Nat.le_of_ble_eq_true rfl) (fun v ad1 w1 N1 hpo => ?_) (fun x Cn ad' w' N' hth => hth.elim)
  obtain ⟨rfl, rfl, rfl, rfl⟩ := hpo
  refine bv_astore_nN 6 rfl C d_B_size_5 (by decide) ?_
  refine bv_aload_nN 7 rfl C d_B_size_6 rfl ?_
  refine bv_ifnonnullN 10 rfl C d_B_size_7 ?_
  refine bv_iconst (v := -1) 11 rfl C d_B_size_10 (by decide) ?_
  exact bv_ireturn C rfl d_B_size_11 (Nat.le_refl _) (Nat.le_refl _) ⟨rfl, rfl, rfl, rfl⟩
theorem ct_B_byteAt (hN : 305 ≤ N) (h0 : w 0 = oB ad (nI 0)) {x y : Int32} : bK l dd y_B_byteAt 1 21 0 0 [.ref (ad 0), .int x, .int y] ad w N (bSame ad w N (fun v => v = some (.int (-1)))) bNo := by
  refine bK.start [(0, .ref (ad 0)), (1, .int x), (2, .int y)] (by decide) t1_200 (Nat.le_of_ble_eq_true rfl) rfl (fun p e s m args below meth c A hnm C => ?_)
  refine bv_aload_n 1 rfl C d_B_byteAt_0 rfl ?_
  refine bv_iload_n 2 rfl C d_B_byteAt_1 rfl ?_
  refine bv_call (rest := []) 5 rfl C d_B_byteAt_2 (ct_B_livingVersion hN h0) i_B_livingVersion t1_1 (fun H locs ls hP => bs_V (av := [.int x]) 0 C i_B_livingVersion t1_193 t1_195 s_1 (by omega) rfl h0 rfl (by decide) rfl rfl d_B_byteAt_2 H locs ls hP) ⟨by first | decide | omega, by first | decide | omega⟩ (by decide) (by decide) (Nat.le_of_ble_eq_true rfl) (fun v ad1 w1 N1 hpo => ?_) (fun x Cn ad' w' N' hth => hth.elim)
  obtain ⟨rfl, rfl, rfl, rfl⟩ := hpo
  refine bv_astore_nN 6 rfl C d_B_byteAt_5 (by decide) ?_
  refine bv_aload_nN 7 rfl C d_B_byteAt_6 rfl ?_
  refine bv_ifnullN 14 C d_B_byteAt_7 (by decide) ?_
  refine bv_iconst (v := -1) 15 rfl C d_B_byteAt_14 (by decide) ?_
  exact bv_ireturn C rfl d_B_byteAt_15 (Nat.le_refl _) (Nat.le_refl _) ⟨rfl, rfl, rfl, rfl⟩
end bOp
end
section
/-- the slots' chunks -/
def bCs (dd : bD) (ad : Nat → Nat) (w : Nat → va_E) (cl : Nat → Int32) (cb : Nat → Int64) : Prop := (∃ f, w 4 = aR dd 3 48 f ∧ ∀ j, j < 48 → f j = some (ad (13 + 2 * j))) ∧ ∀ j, j < 48 → w (13 + 2 * j) = .inr (0, [.int (cl j), .long (cb j), .ref (ad (13 + 2 * j + 1))])
def bHas (cl : Nat → Int32) (x : Int32) : Prop := ∃ i, i < 48 ∧ x = nI i ∧ ¬ cl i = 0
/-- what state answers of an empty store -/
def stv (x : Int32) : Int32 := if x.toInt < 0 ∨ 5 < x.toInt then -1 else nI 0
section bFre
variable {p : Program} {l : Launch} {e : Env} {R : Room} {s : State} {m : MethodId} {args : Array Value} {below : List Frame} {meth : Method} {c : Code} {dd : bD} {A : Nat → Prop} {mc ms : Nat} {post : Option Value → (Nat → Nat) → (Nat → va_E) → Nat → Prop} {thr : String → (Nat → Nat) → (Nat → va_E) → Nat → Prop} {ad : Nat → Nat} {w : Nat → va_E} {N cells slots : Nat} {ve : Int32} {so sb sk : Nat → Int32} {cl : Nat → Int32} {cb : Nat → Int64}
theorem ct_B_hasChunk (hN : 305 ≤ N) (h0 : w 0 = oB ad ve) (hC : bCs dd ad w cl cb) {x : Int32} : bK l dd y_B_hasChunk 1 20 0 0 [.ref (ad 0), .int x] ad w N (bSame ad w N (fun v => (v = some (.int (nI 1)) ∧ bHas cl x) ∨ (v = some (.int (nI 0)) ∧ ¬ bHas cl x))) bNo := by
  obtain ⟨⟨f, hf, hf'⟩, hs⟩ := hC
  refine bK.start [(0, .ref (ad 0)), (1, .int x)] (by decide) t1_212 (Nat.le_of_ble_eq_true rfl) rfl (fun p e s m args below meth c A hnm C => ?_)
  refine bv_iload_n 1 rfl C d_B_hasChunk_0 rfl ?_
  refine bv_if_lt 26 4 rfl C d_B_hasChunk_1 (by decide) (fun x1 => ?_) (fun x1 => ?_)
  · refine bv_iconst (v := nI 0) 27 rfl C d_B_hasChunk_26 (by decide) ?_
    exact bv_zreturn C rfl (Or.inl rfl) d_B_hasChunk_27 (Nat.le_refl _) (Nat.le_refl _) ⟨rfl, rfl, rfl, Or.inr ⟨rfl, by rintro ⟨i, hi, rfl, -⟩; exact nI_pos (by omega) x1⟩⟩
  · refine bv_iload_n 5 rfl C d_B_hasChunk_4 rfl ?_
    refine bv_bipush (v := nI 48) 7 rfl C d_B_hasChunk_5 (by decide) ?_
    refine bv_icmp_ge 26 10 rfl C d_B_hasChunk_7 (by decide) (fun x2 => ?_) (fun x2 => ?_)
    · refine bv_iconst (v := nI 0) 27 rfl C d_B_hasChunk_26 (by decide) ?_
      exact bv_zreturn C rfl (Or.inl rfl) d_B_hasChunk_27 (Nat.le_refl _) (Nat.le_refl _) ⟨rfl, rfl, rfl, Or.inr ⟨rfl, by rintro ⟨i, hi, rfl, -⟩; exact nI_ge hi (by decide) x2⟩⟩
    · obtain ⟨i, hi, rfl⟩ : ∃ i : Nat, i < 48 ∧ x = nI i := by
        rcases pk_ix x (show 48 < 2 ^ 31 by decide) with h | h | h
        · exact absurd h x1
        · exact absurd h x2
        · exact h
      refine bv_aload_n 11 rfl C d_B_hasChunk_10 rfl ?_
      refine bv_get 0 2 14 rfl C k_B (by omega) rfl h0 (by decide) t1_148 rfl d_B_hasChunk_11 ?_
      refine bv_iload_n 15 rfl C d_B_hasChunk_14 rfl ?_
      refine bv_aald 3 4 i 16 rfl C rfl (by omega) rfl hf rfl (by omega) (by decide) d_B_hasChunk_15 (hf' i (by omega)) ?_
      refine bv_call (rest := []) 19 rfl C d_B_hasChunk_16 (ct_K_isFree (k := 13 + 2 * i) (by omega) (hs i (by omega))) i_K_isFree t1_5 (fun H locs ls hP => bs_VN (av := []) (13 + 2 * i) C i_K_isFree n1_213 t1_215 s_4 (by omega) rfl (hs i (by omega)) rfl (by decide) rfl rfl d_B_hasChunk_16 H locs ls hP) ⟨by first | decide | omega, by first | decide | omega⟩ (by decide) (by decide) (Nat.le_of_ble_eq_true rfl) (fun v ad1 w1 N1 hpo => ?_) (fun x Cn ad' w' N' hth => hth.elim)
      obtain ⟨rfl, rfl, rfl, rfl⟩ := hpo
      by_cases hz : cl i = 0
      · rw [if_pos hz]
        refine bv_if_ne 26 22 rfl C d_B_hasChunk_19 (by decide) (fun h => ?_) (fun h => absurd h (show ¬ nI 1 = 0 by decide))
        refine bv_iconst (v := nI 0) 27 rfl C d_B_hasChunk_26 (by decide) ?_
        exact bv_zreturn C rfl (Or.inl rfl) d_B_hasChunk_27 (Nat.le_refl _) (Nat.le_refl _) ⟨rfl, rfl, rfl, Or.inr ⟨rfl, by rintro ⟨j, hj, hji, hjo⟩; obtain rfl : i = j := (nI_eq (by omega) (by omega)).mp hji; exact hjo hz⟩⟩
      · rw [if_neg hz]
        refine bv_if_ne 26 22 rfl C d_B_hasChunk_19 (by decide) (fun h => absurd (show nI 0 = 0 by decide) h) (fun h => ?_)
        refine bv_iconst (v := nI 1) 23 rfl C d_B_hasChunk_22 (by decide) ?_
        refine bv_goto 27 C d_B_hasChunk_23 (by decide) ?_
        exact bv_zreturn C rfl (Or.inr rfl) d_B_hasChunk_27 (Nat.le_refl _) (Nat.le_refl _) ⟨rfl, rfl, rfl, Or.inl ⟨rfl, i, hi, rfl, hz⟩⟩
theorem ct_B_slotWith (hN : 305 ≤ N) (h0 : w 0 = oB ad ve) (hC : bCs dd ad w cl cb) (hcl : ∀ j, j < 48 → cl j = 0) {q : Nat} : bK l dd y_B_slotWith 1 20 0 0 [.ref (ad 0), .ref q] ad w N (bSame ad w N (fun v => v = some (.int (-1)))) bNo := by
  obtain ⟨⟨f, hf, hf'⟩, hs⟩ := hC
  refine bK.start [(0, .ref (ad 0)), (1, .ref q)] (by decide) t2_30 (Nat.le_of_ble_eq_true rfl) rfl (fun p e s m args below meth c A hnm C => ?_)
  have loop : ∀ (d i : Nat), i + d = 48 → bV p l e { frames := 1, cells := 0, slots := 0, locals := 20 } s m args below meth c dd A 3 0 0 (bSame ad w N (fun v => v = some (.int (-1)))) bNo 2 (bO [(0, .ref (ad 0)), (1, .ref q), (2, .int (nI i))]) [] ad w N 0 0 := by
    intro d
    induction d with
    | zero =>
      intro i hi
      obtain rfl : i = 48 := by omega
      refine bv_iload_n 3 rfl C d_B_slotWith_2 rfl ?_
      refine bv_bipush (v := nI 48) 5 rfl C d_B_slotWith_3 (by decide) ?_
      refine bv_icmp_ge 41 8 rfl C d_B_slotWith_5 (by decide) (fun h => ?_) (fun h => absurd (nI_le (by decide) (by decide)) h)
      refine bv_iconst (v := -1) 42 rfl C d_B_slotWith_41 (by decide) ?_
      exact bv_ireturn C rfl d_B_slotWith_42 (Nat.le_refl _) (Nat.le_refl _) ⟨rfl, rfl, rfl, rfl⟩
    | succ d ih =>
      intro i hi
      refine bv_iload_n 3 rfl C d_B_slotWith_2 rfl ?_
      refine bv_bipush (v := nI 48) 5 rfl C d_B_slotWith_3 (by decide) ?_
      refine bv_icmp_ge 41 8 rfl C d_B_slotWith_5 (by decide) (fun h => absurd h (nI_ge (by omega) (by decide))) (fun h => ?_)
      refine bv_aload_n 9 rfl C d_B_slotWith_8 rfl ?_
      refine bv_get 0 2 12 rfl C k_B (by omega) rfl h0 (by decide) t1_148 rfl d_B_slotWith_9 ?_
      refine bv_iload_n 13 rfl C d_B_slotWith_12 rfl ?_
      refine bv_aald 3 4 i 14 rfl C rfl (by omega) rfl hf rfl (by omega) (by decide) d_B_slotWith_13 (hf' i (by omega)) ?_
      refine bv_call (rest := []) 17 rfl C d_B_slotWith_14 (ct_K_isFree (k := 13 + 2 * i) (by omega) (hs i (by omega))) i_K_isFree t1_5 (fun H locs ls hP => bs_VN (av := []) (13 + 2 * i) C i_K_isFree n1_213 t1_215 s_4 (by omega) rfl (hs i (by omega)) rfl (by decide) rfl rfl d_B_slotWith_14 H locs ls hP) ⟨by first | decide | omega, by first | decide | omega⟩ (by decide) (by decide) (Nat.le_of_ble_eq_true rfl) (fun v ad1 w1 N1 hpo => ?_) (fun x Cn ad' w' N' hth => hth.elim)
      obtain ⟨rfl, rfl, rfl, rfl⟩ := hpo
      rw [if_pos (hcl i (by omega))]
      refine bv_if_ne 35 20 rfl C d_B_slotWith_17 (by decide) (fun h => ?_) (fun h => absurd h (show ¬ nI 1 = 0 by decide))
      refine bv_iinc 38 rfl C d_B_slotWith_35 rfl (by first | exact b_inc _ | rfl) (by decide) ?_
      refine bv_goto 2 C d_B_slotWith_38 (by decide) ?_
      refine bv_wk [(0, .ref (ad 0)), (1, .ref q), (2, .int (nI (i + 1)))] ⟨rfl, rfl, rfl, trivial⟩ ?_
      exact ih (i + 1) (by omega)
  refine bv_iconst (v := nI 0) 1 rfl C d_B_slotWith_0 (by decide) ?_
  refine bv_istore_n 2 rfl C d_B_slotWith_1 (by decide) ?_
  refine bv_wk [(0, .ref (ad 0)), (1, .ref q), (2, .int (nI 0))] ⟨rfl, rfl, rfl, trivial⟩ ?_
  exact loop 48 0 rfl
theorem ct_B_slotOf (hN : 305 ≤ N) (h0 : w 0 = oB ad ve) (hC : bCs dd ad w cl cb) (hcl : ∀ j, j < 48 → cl j = 0) (h2 : w 2 = .inr (4, [.ref (ad 3)])) {f0 : Nat → Int32} (h3 : w 3 = aI dd 64 f0) {y : Int32} {z : Int64} (h10 : w 10 = .inr (0, [.int y, .long z, .ref (ad 11)])) {g0 : Nat → Int32} (h11 : w 11 = aI dd 8 g0) {n : Int32} {x : Int64} :
    bK l dd y_B_slotOf 4 104 0 0 [.ref (ad 0), .int n, .long x] ad w N (bFr ad w N (fun v => v = some (.int (-1)))) bNo := by
  refine bK.start [(0, .ref (ad 0)), (1, .int n), (2, .long x)] (by decide) t1_236 (Nat.le_of_ble_eq_true rfl) rfl (fun p e s m args below meth c A hnm C => ?_)
  refine bv_iload_n 1 rfl C d_B_slotOf_0 rfl ?_
  refine bv_iconst (v := nI 1) 2 rfl C d_B_slotOf_1 (by decide) ?_
  refine bv_icmp_lt 11 5 rfl C d_B_slotOf_2 (by decide) (fun x1 => ?_) (fun x1 => ?_)
  · refine bv_iconst (v := -1) 12 rfl C d_B_slotOf_11 (by decide) ?_
    exact bv_ireturn C rfl d_B_slotOf_12 (Nat.le_refl _) (Nat.le_refl _) ⟨rfl, rfl, fun _ _ => rfl, rfl⟩
  · refine bv_iload_n 6 rfl C d_B_slotOf_5 rfl ?_
    refine bv_bipush (v := nI 8) 8 rfl C d_B_slotOf_6 (by decide) ?_
    refine bv_icmp_le 13 11 rfl C d_B_slotOf_8 (by decide) (fun x2 => ?_) (fun x2 => ?_)
    · refine bv_aload_n 14 rfl C d_B_slotOf_13 rfl ?_
      refine bv_get 0 8 17 rfl C k_B (by omega) rfl h0 (by decide) t1_154 rfl d_B_slotOf_14 ?_
      refine bv_iload_n 18 rfl C d_B_slotOf_17 rfl ?_
      refine bv_lload_n 19 rfl C d_B_slotOf_18 rfl ?_
      refine bv_aload_n 20 rfl C d_B_slotOf_19 rfl ?_
      refine bv_get 0 1 23 rfl C k_B (by omega) rfl h0 (by decide) t1_147 rfl d_B_slotOf_20 ?_
      refine bv_call (rest := []) 26 rfl C d_B_slotOf_23 (ct_K_fill (k := 10) hN h2 h3 (by omega) (by decide) h10 h11) i_K_fill t1_5 (fun H locs ls hP => bs_VN (av := [.int n, .long x, .ref (ad 2)]) 10 C i_K_fill n1_237 t1_239 s_8 (by omega) rfl h10 rfl (by decide) rfl rfl d_B_slotOf_23 H locs ls hP) ⟨by first | decide | omega, by first | decide | omega⟩ (by decide) (by decide) (Nat.le_of_ble_eq_true rfl) (fun v ad1 w1 N1 hpo => ?_) (fun x Cn ad' w' N' hth => hth.elim)
      obtain ⟨rfl, rfl, rfl, -, -, -, hw⟩ := hpo
      have h0' := (hw 0 (by decide) (by decide) (by decide)).trans h0
      refine bv_aload_n 27 rfl C d_B_slotOf_26 rfl ?_
      refine bv_aload_n 28 rfl C d_B_slotOf_27 rfl ?_
      refine bv_get 0 8 31 rfl C k_B (by omega) rfl h0' (by decide) t1_154 rfl d_B_slotOf_28 ?_
      refine bv_call (rest := []) 34 rfl C d_B_slotOf_31 (ct_B_slotWith (cl := cl) (cb := cb) hN h0' ⟨(by obtain ⟨⟨f, hf, hf'⟩, -⟩ := hC; exact ⟨f, (hw 4 (by decide) (by decide) (by decide)).trans hf, hf'⟩), fun j hj => (hw _ (by omega) (by omega) (by omega)).trans (hC.2 j hj)⟩ hcl) i_B_slotWith t1_1 (fun H locs ls hP => bs_V (av := [.ref (ad 10)]) 0 C i_B_slotWith t2_27 t2_29 s_13 (by omega) rfl h0' rfl (by decide) rfl rfl d_B_slotOf_31 H locs ls hP) ⟨by first | decide | omega, by first | decide | omega⟩ (by decide) (by decide) (Nat.le_of_ble_eq_true rfl) (fun v ad1 w2 N1 hpo => ?_) (fun x Cn ad' w' N' hth => hth.elim)
      obtain ⟨rfl, rfl, rfl, rfl⟩ := hpo
      exact bv_ireturn C rfl d_B_slotOf_34 (Nat.le_refl _) (Nat.le_refl _) ⟨rfl, rfl, fun k hk => hw k (by omega) (by omega) (by omega), rfl⟩
    · refine bv_iconst (v := -1) 12 rfl C d_B_slotOf_11 (by decide) ?_
      exact bv_ireturn C rfl d_B_slotOf_12 (Nat.le_refl _) (Nat.le_refl _) ⟨rfl, rfl, fun _ _ => rfl, rfl⟩
theorem ct_A_fill {k n : Nat} {f0 : Nat → Int32} {x : Int32} (hk : k < N) (hn : n < 2 ^ 31) (hw : w k = aI dd n f0) : bK l dd y_A_fill 0 0 0 0 [.ref (ad k), .int x] ad w N (fun v ad' w' N' => ad = ad' ∧ N = N' ∧ v = none ∧ ∃ f, w' = va_up w k (aI dd n f)) bNo := by
  refine bK.start [(0, .ref (ad k)), (1, .int x)] (by decide) t1_223 (Nat.le_of_ble_eq_true rfl) rfl (fun p e s m args below meth c A hnm C => ?_)
  have loop : ∀ (d i : Nat) (f : Nat → Int32), i + d = n → bV p l e { frames := 0, cells := 0, slots := 0, locals := 0 } s m args below meth c dd A 4 0 0 (fun v ad' w' N' => ad = ad' ∧ N = N' ∧ v = none ∧ ∃ f, w' = va_up w k (aI dd n f)) bNo 5 (bO [(0, .ref (ad k)), (1, .int x), (2, .int (nI i)), (3, .int (nI n))]) [] ad (va_up w k (aI dd n f)) N 0 0 := by
    intro d
    induction d with
    | zero =>
      intro i f hi
      obtain rfl : i = n := by omega
      refine bv_iload_n 6 rfl C d_A_fill_5 rfl ?_
      refine bv_iload_n 7 rfl C d_A_fill_6 rfl ?_
      refine bv_icmp_ge 20 10 rfl C d_A_fill_7 (by decide) (fun h => ?_) (fun h => absurd (nI_le (Nat.le_refl _) hn) h)
      exact bv_return C rfl d_A_fill_20 (Nat.le_refl _) (Nat.le_refl _) ⟨rfl, rfl, rfl, _, rfl⟩
    | succ d ih =>
      intro i f hi
      refine bv_iload_n 6 rfl C d_A_fill_5 rfl ?_
      refine bv_iload_n 7 rfl C d_A_fill_6 rfl ?_
      refine bv_icmp_ge 20 10 rfl C d_A_fill_7 (by decide) (fun h => absurd h (nI_ge (by omega) hn)) (fun h => ?_)
      refine bv_aload_n 11 rfl C d_A_fill_10 rfl ?_
      refine bv_iload_n 12 rfl C d_A_fill_11 rfl ?_
      refine bv_iload_n 13 rfl C d_A_fill_12 rfl ?_
      refine bv_iast k i 14 rfl C hk rfl (va_up_self _ _ _) rfl (by omega) hn d_A_fill_13 ?_
      rw [bu_same]
      refine bv_iinc 17 rfl C d_A_fill_14 rfl (by first | exact b_inc _ | rfl) (by decide) ?_
      refine bv_goto 5 C d_A_fill_17 (by decide) ?_
      refine bv_wk [(0, .ref (ad k)), (1, .int x), (2, .int (nI (i + 1))), (3, .int (nI n))] ⟨rfl, rfl, rfl, rfl, trivial⟩ ?_
      exact ih (i + 1) _ (by omega)
  refine bv_iconst (v := nI 0) 1 rfl C d_A_fill_0 (by decide) ?_
  refine bv_istore_n 2 rfl C d_A_fill_1 (by decide) ?_
  refine bv_aload_n 3 rfl C d_A_fill_2 rfl ?_
  refine bv_alen k 0 4 rfl C hk rfl hw rfl rfl d_A_fill_3 ?_
  refine bv_istore_n 5 rfl C d_A_fill_4 (by decide) ?_
  have hW : w = va_up w k (aI dd n f0) := by
    funext i
    by_cases hi : i = k
    · rw [hi, va_up_self, hw]
    · rw [va_up_ne _ _ hi]
  refine bv_w (va_up w k (aI dd n f0)) (fun k _ => by rw [← hW]) ?_
  refine bv_wk [(0, .ref (ad k)), (1, .int x), (2, .int (nI 0)), (3, .int (nI n))] ⟨rfl, rfl, rfl, rfl, trivial⟩ ?_
  exact loop n 0 f0 (by omega)
/-- countNeeds where nothing needs anything -/
theorem ct_B_countNeeds (hN : 305 ≤ N) (h0 : w 0 = oB ad (nI 0)) (hS : bSs dd ad w so sb sk) (hso : ∀ j, j < 5 → so j = 0) {f0 : Nat → Int32} (h12 : w 12 = aI dd 48 f0) : bK l dd y_B_countNeeds 1 23 0 0 [.ref (ad 0)] ad w N (fun v ad' w' N' => ad = ad' ∧ N = N' ∧ v = none ∧ ∃ f, w' = va_up w 12 (aI dd 48 f)) bNo := by
  obtain ⟨⟨g, hg, hg'⟩, hs⟩ := hS
  refine bK.start [(0, .ref (ad 0))] (by decide) t1_220 (Nat.le_of_ble_eq_true rfl) rfl (fun p e s m args below meth c A hnm C => ?_)
  refine bv_aload_n 1 rfl C d_B_countNeeds_0 rfl ?_
  refine bv_get 0 9 4 rfl C k_B (by omega) rfl h0 (by decide) t1_155 rfl d_B_countNeeds_1 ?_
  refine bv_iconst (v := nI 0) 5 rfl C d_B_countNeeds_4 (by decide) ?_
  refine bv_call (rest := []) 8 rfl C d_B_countNeeds_5 (ct_A_fill (k := 12) (by omega) (by decide) h12) i_A_fill t1_18 (fun H locs ls _ => bs_S (av := [.ref (ad 12), .int (nI 0)]) C i_A_fill t1_221 t1_222 t1_18 (by decide) rfl rfl d_B_countNeeds_5 H locs ls) ⟨by first | decide | omega, by first | decide | omega⟩ (by decide) (by decide) (Nat.le_of_ble_eq_true rfl) (fun v ad1 w1 N1 hpo => ?_) (fun x Cn ad' w' N' hth => hth.elim)
  obtain ⟨rfl, rfl, rfl, f, rfl⟩ := hpo
  have h0' : va_up w 12 (aI dd 48 f) 0 = oB ad (nI 0) := by rw [va_up_ne _ _ (by decide)]; exact h0
  have loop : ∀ (d i : Nat), i + d = 5 → bV p l e { frames := 1, cells := 0, slots := 0, locals := 23 } s m args below meth c dd A 2 0 0 (fun v ad' w' N' => ad = ad' ∧ N = N' ∧ v = none ∧ ∃ f, w' = va_up w 12 (aI dd 48 f)) bNo 10 (bO [(0, .ref (ad 0)), (1, .int (nI i))]) [] ad (va_up w 12 (aI dd 48 f)) N 0 0 := by
    intro d
    induction d with
    | zero =>
      intro i hi
      obtain rfl : i = 5 := by omega
      refine bv_iload_n 11 rfl C d_B_countNeeds_10 rfl ?_
      refine bv_iconst (v := nI 5) 12 rfl C d_B_countNeeds_11 (by decide) ?_
      refine bv_icmp_ge 46 15 rfl C d_B_countNeeds_12 (by decide) (fun h => ?_) (fun h => absurd (nI_le (by decide) (by decide)) h)
      refine bv_iconst (v := nI 0) 47 rfl C d_B_countNeeds_46 (by decide) ?_
      refine bv_istore_n 48 rfl C d_B_countNeeds_47 (by decide) ?_
      refine bv_iload_n 49 rfl C d_B_countNeeds_48 rfl ?_
      refine bv_aload_n 50 rfl C d_B_countNeeds_49 rfl ?_
      refine bv_get 0 5 53 rfl C k_B (by omega) rfl h0' (by decide) t1_151 rfl d_B_countNeeds_50 ?_
      refine bv_icmp_ge 90 56 rfl C d_B_countNeeds_53 (by decide) (fun h => ?_) (fun h => absurd (show nI 0 ≤ nI 0 by decide) h)
      exact bv_return C rfl d_B_countNeeds_90 (Nat.le_refl _) (Nat.le_refl _) ⟨rfl, rfl, rfl, _, rfl⟩
    | succ d ih =>
      intro i hi
      refine bv_iload_n 11 rfl C d_B_countNeeds_10 rfl ?_
      refine bv_iconst (v := nI 5) 12 rfl C d_B_countNeeds_11 (by decide) ?_
      refine bv_icmp_ge 46 15 rfl C d_B_countNeeds_12 (by decide) (fun h => absurd h (nI_ge (by omega) (by decide))) (fun h => ?_)
      refine bv_aload_n 16 rfl C d_B_countNeeds_15 rfl ?_
      refine bv_get 0 3 19 rfl C k_B (by omega) rfl h0' (by decide) t1_149 rfl d_B_countNeeds_16 ?_
      refine bv_iload_n 20 rfl C d_B_countNeeds_19 rfl ?_
      refine bv_aald 5 5 i 21 rfl C rfl (by omega) rfl (by rw [va_up_ne _ _ (by decide)]; exact hg) rfl (by omega) (by decide) d_B_countNeeds_20 (hg' i (by omega)) ?_
      refine bv_getN (109 + 14 * i) 0 24 rfl C k_S (by omega) rfl (by rw [va_up_ne _ _ (by omega)]; exact hs i (by omega)) (by decide) n1_105 rfl d_B_countNeeds_21 ?_
      refine bv_if_eq 40 27 rfl C d_B_countNeeds_24 (by decide) (fun h => ?_) (fun h => absurd (hso i (by omega)) h)
      refine bv_iinc 43 rfl C d_B_countNeeds_40 rfl (by first | exact b_inc _ | rfl) (by decide) ?_
      refine bv_goto 10 C d_B_countNeeds_43 (by decide) ?_
      refine bv_wk [(0, .ref (ad 0)), (1, .int (nI (i + 1)))] ⟨rfl, rfl, trivial⟩ ?_
      exact ih (i + 1) (by omega)
  refine bv_iconst (v := nI 0) 9 rfl C d_B_countNeeds_8 (by decide) ?_
  refine bv_istore_n 10 rfl C d_B_countNeeds_9 (by decide) ?_
  refine bv_wk [(0, .ref (ad 0)), (1, .int (nI 0))] ⟨rfl, rfl, trivial⟩ ?_
  exact loop 5 0 rfl
end bFre
end
section
section bStt
variable {l : Launch} {dd : bD} {ad : Nat → Nat} {w : Nat → va_E} {N : Nat} {ve : Int32} {so sb sk : Nat → Int32} {cl : Nat → Int32} {cb : Nat → Int64}
theorem ct_B_collect (hlt : bOff l) (hN : 305 ≤ N) (h0 : w 0 = oB ad (nI 0)) (hS : bSs dd ad w so sb sk) (hso : ∀ j, j < 5 → so j = 0) {wr cu : Int32} (h1 : w 1 = .inr (1, [.int wr, .int cu, .int (nI 0)])) {f0 : Nat → Int32} (h12 : w 12 = aI dd 48 f0) (hC : bCs dd ad w cl cb) (hcl : ∀ j, j < 48 → cl j = 0) :
    bK l dd y_B_collect 7 102 1 6 [.ref (ad 0)] ad w N (bFr ad w N (fun v => v = some (.int (nI 0)))) bNo := by
  obtain ⟨⟨f, hf, hf'⟩, hs⟩ := hC
  refine bK.start [(0, .ref (ad 0))] (by decide) t3_48 (Nat.le_of_ble_eq_true rfl) rfl (fun p e s m args below meth c A hnm C => ?_)
  refine bv_aload_n 1 rfl C d_B_collect_0 rfl ?_
  refine bv_get 0 0 4 rfl C k_B (by omega) rfl h0 (by decide) t1_146 rfl d_B_collect_1 ?_
  refine bv_call (rest := []) 7 rfl C d_B_collect_4 (ct_P_requireOn hlt (k := 1) (by omega) h1) i_P_requireOn t1_2 (fun H locs ls hP => bs_VN (av := []) 1 C i_P_requireOn n2_61 t2_63 s_18 (by omega) rfl h1 rfl (by decide) rfl rfl d_B_collect_4 H locs ls hP) ⟨by first | decide | omega, by first | decide | omega⟩ (by decide) (by decide) (Nat.le_of_ble_eq_true rfl) (fun v ad1 w1 N1 hpo => ?_) (fun x Cn ad' w' N' hth => ?_)
  · obtain ⟨rfl, rfl, rfl, rfl, -⟩ := hpo
    refine bv_aload_n 8 rfl C d_B_collect_7 rfl ?_
    refine bv_call (rest := []) 11 rfl C d_B_collect_8 (ct_B_countNeeds hN h0 hS hso h12) i_B_countNeeds t1_1 (fun H locs ls hP => bs_V (av := []) 0 C i_B_countNeeds t1_217 t1_219 s_5 (by omega) rfl h0 rfl (by decide) rfl rfl d_B_collect_8 H locs ls hP) ⟨by first | decide | omega, by first | decide | omega⟩ (by decide) (by decide) (Nat.le_of_ble_eq_true rfl) (fun v ad1 w1 N1 hpo => ?_) (fun x Cn ad' w' N' hth => hth.elim)
    obtain ⟨rfl, rfl, rfl, g, rfl⟩ := hpo
    have h0' : va_up w 12 (aI dd 48 g) 0 = oB ad (nI 0) := by rw [va_up_ne _ _ (by decide)]; exact h0
    have hs' : ∀ j, j < 48 → va_up w 12 (aI dd 48 g) (13 + 2 * j) = .inr (0, [.int (cl j), .long (cb j), .ref (ad (13 + 2 * j + 1))]) := fun j hj => by rw [va_up_ne _ _ (by omega)]; exact hs j hj
    have loop : ∀ (d i : Nat), i + d = 48 → bV p l e { frames := 7, cells := 1, slots := 6, locals := 102 } s m args below meth c dd A 3 1 6 (bFr ad w N (fun v => v = some (.int (nI 0)))) bNo 15 (bO [(0, .ref (ad 0)), (1, .int (nI 0)), (2, .int (nI i))]) [] ad (va_up w 12 (aI dd 48 g)) N 1 6 := by
      intro d
      induction d with
      | zero =>
        intro i hi
        obtain rfl : i = 48 := by omega
        refine bv_iload_n 16 rfl C d_B_collect_15 rfl ?_
        refine bv_bipush (v := nI 48) 18 rfl C d_B_collect_16 (by decide) ?_
        refine bv_icmp_ge 67 21 rfl C d_B_collect_18 (by decide) (fun h => ?_) (fun h => absurd (nI_le (by decide) (by decide)) h)
        refine bv_iload_n 68 rfl C d_B_collect_67 rfl ?_
        exact bv_ireturn C rfl d_B_collect_68 (Nat.le_refl _) (Nat.le_refl _) ⟨rfl, rfl, fun k hk => va_up_ne _ _ (by omega), rfl⟩
      | succ d ih =>
        intro i hi
        refine bv_iload_n 16 rfl C d_B_collect_15 rfl ?_
        refine bv_bipush (v := nI 48) 18 rfl C d_B_collect_16 (by decide) ?_
        refine bv_icmp_ge 67 21 rfl C d_B_collect_18 (by decide) (fun h => absurd h (nI_ge (by omega) (by decide))) (fun h => ?_)
        refine bv_aload_n 22 rfl C d_B_collect_21 rfl ?_
        refine bv_get 0 2 25 rfl C k_B (by omega) rfl h0' (by decide) t1_148 rfl d_B_collect_22 ?_
        refine bv_iload_n 26 rfl C d_B_collect_25 rfl ?_
        refine bv_aald 3 4 i 27 rfl C rfl (by omega) rfl (by rw [va_up_ne _ _ (by decide)]; exact hf) rfl (by omega) (by decide) d_B_collect_26 (hf' i (by omega)) ?_
        refine bv_call (rest := []) 30 rfl C d_B_collect_27 (ct_K_isFree (k := 13 + 2 * i) (by omega) (hs' i (by omega))) i_K_isFree t1_5 (fun H locs ls hP => bs_VN (av := []) (13 + 2 * i) C i_K_isFree n1_213 t1_215 s_4 (by omega) rfl (hs' i (by omega)) rfl (by decide) rfl rfl d_B_collect_27 H locs ls hP) ⟨by first | decide | omega, by first | decide | omega⟩ (by decide) (by decide) (Nat.le_of_ble_eq_true rfl) (fun v ad1 w1 N1 hpo => ?_) (fun x Cn ad' w' N' hth => hth.elim)
        obtain ⟨rfl, rfl, rfl, rfl⟩ := hpo
        rw [if_pos (hcl i (by omega))]
        refine bv_if_ne 61 33 rfl C d_B_collect_30 (by decide) (fun h => ?_) (fun h => absurd h (show ¬ nI 1 = 0 by decide))
        refine bv_iinc 64 rfl C d_B_collect_61 rfl (by first | exact b_inc _ | rfl) (by decide) ?_
        refine bv_goto 15 C d_B_collect_64 (by decide) ?_
        refine bv_wk [(0, .ref (ad 0)), (1, .int (nI 0)), (2, .int (nI (i + 1)))] ⟨rfl, rfl, rfl, trivial⟩ ?_
        exact ih (i + 1) (by omega)
    refine bv_iconst (v := nI 0) 12 rfl C d_B_collect_11 (by decide) ?_
    refine bv_istore_n 13 rfl C d_B_collect_12 (by decide) ?_
    refine bv_iconst (v := nI 0) 14 rfl C d_B_collect_13 (by decide) ?_
    refine bv_istore_n 15 rfl C d_B_collect_14 (by decide) ?_
    refine bv_wk [(0, .ref (ad 0)), (1, .int (nI 0)), (2, .int (nI 0))] ⟨rfl, rfl, rfl, trivial⟩ ?_
    exact loop 48 0 rfl
  · obtain ⟨-, -, -, -, hz⟩ := hth
    exact absurd rfl hz
theorem ct_B_needed (hN : 305 ≤ N) (h0 : w 0 = oB ad ve) (hC : bCs dd ad w cl cb) (hcl : ∀ j, j < 48 → cl j = 0) {x : Int32} : bK l dd y_B_needed 2 41 0 0 [.ref (ad 0), .int x] ad w N (bSame ad w N (fun v => v = some (.int (-1)))) bNo := by
  refine bK.start [(0, .ref (ad 0)), (1, .int x)] (by decide) t1_208 (Nat.le_of_ble_eq_true rfl) rfl (fun p e s m args below meth c A hnm C => ?_)
  refine bv_aload_n 1 rfl C d_B_needed_0 rfl ?_
  refine bv_iload_n 2 rfl C d_B_needed_1 rfl ?_
  refine bv_call (rest := []) 5 rfl C d_B_needed_2 (ct_B_hasChunk hN h0 hC) i_B_hasChunk t1_1 (fun H locs ls hP => bs_V (av := [.int x]) 0 C i_B_hasChunk t1_209 t1_211 s_3 (by omega) rfl h0 rfl (by decide) rfl rfl d_B_needed_2 H locs ls hP) ⟨by first | decide | omega, by first | decide | omega⟩ (by decide) (by decide) (Nat.le_of_ble_eq_true rfl) (fun v ad1 w1 N1 hpo => ?_) (fun x Cn ad' w' N' hth => hth.elim)
  obtain ⟨rfl, rfl, rfl, hv⟩ := hpo
  rcases hv with ⟨-, i, hi, -, ho⟩ | ⟨rfl, -⟩
  · exact absurd (hcl i hi) ho
  · refine bv_if_ne 10 8 rfl C d_B_needed_5 (by decide) (fun h => absurd (show nI 0 = 0 by decide) h) (fun h => ?_)
    refine bv_iconst (v := -1) 9 rfl C d_B_needed_8 (by decide) ?_
    exact bv_ireturn C rfl d_B_needed_9 (Nat.le_refl _) (Nat.le_refl _) ⟨rfl, rfl, rfl, rfl⟩
theorem ct_B_countChunks (hN : 305 ≤ N) (h0 : w 0 = oB ad ve) (hC : bCs dd ad w cl cb) (hcl : ∀ j, j < 48 → cl j = 0) : bK l dd y_B_countChunks 1 20 0 0 [.ref (ad 0)] ad w N (bSame ad w N (fun v => v = some (.int (nI 0)))) bNo := by
  obtain ⟨⟨f, hf, hf'⟩, hs⟩ := hC
  refine bK.start [(0, .ref (ad 0))] (by decide) t2_42 (Nat.le_of_ble_eq_true rfl) rfl (fun p e s m args below meth c A hnm C => ?_)
  have loop : ∀ (d i : Nat), i + d = 48 → bV p l e { frames := 1, cells := 0, slots := 0, locals := 20 } s m args below meth c dd A 3 0 0 (bSame ad w N (fun v => v = some (.int (nI 0)))) bNo 4 (bO [(0, .ref (ad 0)), (1, .int (nI 0)), (2, .int (nI i))]) [] ad w N 0 0 := by
    intro d
    induction d with
    | zero =>
      intro i hi
      obtain rfl : i = 48 := by omega
      refine bv_iload_n 5 rfl C d_B_countChunks_4 rfl ?_
      refine bv_bipush (v := nI 48) 7 rfl C d_B_countChunks_5 (by decide) ?_
      refine bv_icmp_ge 36 10 rfl C d_B_countChunks_7 (by decide) (fun h => ?_) (fun h => absurd (nI_le (by decide) (by decide)) h)
      refine bv_iload_n 37 rfl C d_B_countChunks_36 rfl ?_
      exact bv_ireturn C rfl d_B_countChunks_37 (Nat.le_refl _) (Nat.le_refl _) ⟨rfl, rfl, rfl, rfl⟩
    | succ d ih =>
      intro i hi
      refine bv_iload_n 5 rfl C d_B_countChunks_4 rfl ?_
      refine bv_bipush (v := nI 48) 7 rfl C d_B_countChunks_5 (by decide) ?_
      refine bv_icmp_ge 36 10 rfl C d_B_countChunks_7 (by decide) (fun h => absurd h (nI_ge (by omega) (by decide))) (fun h => ?_)
      refine bv_iload_n 11 rfl C d_B_countChunks_10 rfl ?_
      refine bv_aload_n 12 rfl C d_B_countChunks_11 rfl ?_
      refine bv_get 0 2 15 rfl C k_B (by omega) rfl h0 (by decide) t1_148 rfl d_B_countChunks_12 ?_
      refine bv_iload_n 16 rfl C d_B_countChunks_15 rfl ?_
      refine bv_aald 3 4 i 17 rfl C rfl (by omega) rfl hf rfl (by omega) (by decide) d_B_countChunks_16 (hf' i (by omega)) ?_
      refine bv_call (rest := [.int (nI 0)]) 20 rfl C d_B_countChunks_17 (ct_K_isFree (k := 13 + 2 * i) (by omega) (hs i (by omega))) i_K_isFree t1_5 (fun H locs ls hP => bs_VN (av := []) (13 + 2 * i) C i_K_isFree n1_213 t1_215 s_4 (by omega) rfl (hs i (by omega)) rfl (by decide) rfl rfl d_B_countChunks_17 H locs ls hP) ⟨by first | decide | omega, by first | decide | omega⟩ (by decide) (by decide) (Nat.le_of_ble_eq_true rfl) (fun v ad1 w1 N1 hpo => ?_) (fun x Cn ad' w' N' hth => hth.elim)
      obtain ⟨rfl, rfl, rfl, rfl⟩ := hpo
      rw [if_pos (hcl i (by omega))]
      refine bv_if_eq 27 23 rfl C d_B_countChunks_20 (by decide) (fun h => absurd h (show ¬ nI 1 = 0 by decide)) (fun h => ?_)
      refine bv_iconst (v := nI 0) 24 rfl C d_B_countChunks_23 (by decide) ?_
      refine bv_goto 28 C d_B_countChunks_24 (by decide) ?_
      refine bv_iadd 29 rfl C d_B_countChunks_28 ?_
      refine bv_seti (nI 0) (by decide) ?_
      refine bv_istore_n 30 rfl C d_B_countChunks_29 (by decide) ?_
      refine bv_iinc 33 rfl C d_B_countChunks_30 rfl (by first | exact b_inc _ | rfl) (by decide) ?_
      refine bv_goto 4 C d_B_countChunks_33 (by decide) ?_
      refine bv_wk [(0, .ref (ad 0)), (1, .int (nI 0)), (2, .int (nI (i + 1)))] ⟨rfl, rfl, rfl, trivial⟩ ?_
      exact ih (i + 1) (by omega)
  refine bv_iconst (v := nI 0) 1 rfl C d_B_countChunks_0 (by decide) ?_
  refine bv_istore_n 2 rfl C d_B_countChunks_1 (by decide) ?_
  refine bv_iconst (v := nI 0) 3 rfl C d_B_countChunks_2 (by decide) ?_
  refine bv_istore_n 4 rfl C d_B_countChunks_3 (by decide) ?_
  refine bv_wk [(0, .ref (ad 0)), (1, .int (nI 0)), (2, .int (nI 0))] ⟨rfl, rfl, rfl, trivial⟩ ?_
  exact loop 48 0 rfl
theorem ct_B_countOpenSessions (hN : 305 ≤ N) (h0 : w 0 = oB ad ve) (hS : bSs dd ad w so sb sk) (hso : ∀ j, j < 5 → so j = 0) : bK l dd y_B_countOpenSessions 0 0 0 0 [.ref (ad 0)] ad w N (bSame ad w N (fun v => v = some (.int (nI 0)))) bNo := by
  obtain ⟨⟨f, hf, hf'⟩, hs⟩ := hS
  refine bK.start [(0, .ref (ad 0))] (by decide) t2_46 (Nat.le_of_ble_eq_true rfl) rfl (fun p e s m args below meth c A hnm C => ?_)
  have loop : ∀ (d i : Nat), i + d = 5 → bV p l e { frames := 0, cells := 0, slots := 0, locals := 0 } s m args below meth c dd A 3 0 0 (bSame ad w N (fun v => v = some (.int (nI 0)))) bNo 4 (bO [(0, .ref (ad 0)), (1, .int (nI 0)), (2, .int (nI i))]) [] ad w N 0 0 := by
    intro d
    induction d with
    | zero =>
      intro i hi
      obtain rfl : i = 5 := by omega
      refine bv_iload_n 5 rfl C d_B_countOpenSessions_4 rfl ?_
      refine bv_iconst (v := nI 5) 6 rfl C d_B_countOpenSessions_5 (by decide) ?_
      refine bv_icmp_ge 35 9 rfl C d_B_countOpenSessions_6 (by decide) (fun h => ?_) (fun h => absurd (nI_le (by decide) (by decide)) h)
      refine bv_iload_n 36 rfl C d_B_countOpenSessions_35 rfl ?_
      exact bv_ireturn C rfl d_B_countOpenSessions_36 (Nat.le_refl _) (Nat.le_refl _) ⟨rfl, rfl, rfl, rfl⟩
    | succ d ih =>
      intro i hi
      refine bv_iload_n 5 rfl C d_B_countOpenSessions_4 rfl ?_
      refine bv_iconst (v := nI 5) 6 rfl C d_B_countOpenSessions_5 (by decide) ?_
      refine bv_icmp_ge 35 9 rfl C d_B_countOpenSessions_6 (by decide) (fun h => absurd h (nI_ge (by omega) (by decide))) (fun h => ?_)
      refine bv_iload_n 10 rfl C d_B_countOpenSessions_9 rfl ?_
      refine bv_aload_n 11 rfl C d_B_countOpenSessions_10 rfl ?_
      refine bv_get 0 3 14 rfl C k_B (by omega) rfl h0 (by decide) t1_149 rfl d_B_countOpenSessions_11 ?_
      refine bv_iload_n 15 rfl C d_B_countOpenSessions_14 rfl ?_
      refine bv_aald 5 5 i 16 rfl C rfl (by omega) rfl hf rfl (by omega) (by decide) d_B_countOpenSessions_15 (hf' i (by omega)) ?_
      refine bv_getN (109 + 14 * i) 0 19 rfl C k_S (by omega) rfl (hs i (by omega)) (by decide) n1_105 rfl d_B_countOpenSessions_16 ?_
      refine bv_if_eq 26 22 rfl C d_B_countOpenSessions_19 (by decide) (fun h => ?_) (fun h => absurd (hso i (by omega)) h)
      refine bv_iconst (v := nI 0) 27 rfl C d_B_countOpenSessions_26 (by decide) ?_
      refine bv_iadd 28 rfl C d_B_countOpenSessions_27 ?_
      refine bv_seti (nI 0) (by decide) ?_
      refine bv_istore_n 29 rfl C d_B_countOpenSessions_28 (by decide) ?_
      refine bv_iinc 32 rfl C d_B_countOpenSessions_29 rfl (by first | exact b_inc _ | rfl) (by decide) ?_
      refine bv_goto 4 C d_B_countOpenSessions_32 (by decide) ?_
      refine bv_wk [(0, .ref (ad 0)), (1, .int (nI 0)), (2, .int (nI (i + 1)))] ⟨rfl, rfl, rfl, trivial⟩ ?_
      exact ih (i + 1) (by omega)
  refine bv_iconst (v := nI 0) 1 rfl C d_B_countOpenSessions_0 (by decide) ?_
  refine bv_istore_n 2 rfl C d_B_countOpenSessions_1 (by decide) ?_
  refine bv_iconst (v := nI 0) 3 rfl C d_B_countOpenSessions_2 (by decide) ?_
  refine bv_istore_n 4 rfl C d_B_countOpenSessions_3 (by decide) ?_
  refine bv_wk [(0, .ref (ad 0)), (1, .int (nI 0)), (2, .int (nI 0))] ⟨rfl, rfl, rfl, trivial⟩ ?_
  exact loop 5 0 rfl
theorem ct_B_countLivingVersions (hN : 305 ≤ N) (h0 : w 0 = oB ad (nI 0)) : bK l dd y_B_countLivingVersions 0 0 0 0 [.ref (ad 0)] ad w N (bSame ad w N (fun v => v = some (.int (nI 0)))) bNo := by
  refine bK.start [(0, .ref (ad 0))] (by decide) t2_50 (Nat.le_of_ble_eq_true rfl) rfl (fun p e s m args below meth c A hnm C => ?_)
  refine bv_iconst (v := nI 0) 1 rfl C d_B_countLivingVersions_0 (by decide) ?_
  refine bv_istore_n 2 rfl C d_B_countLivingVersions_1 (by decide) ?_
  refine bv_iconst (v := nI 0) 3 rfl C d_B_countLivingVersions_2 (by decide) ?_
  refine bv_istore_n 4 rfl C d_B_countLivingVersions_3 (by decide) ?_
  refine bv_iload_n 5 rfl C d_B_countLivingVersions_4 rfl ?_
  refine bv_aload_n 6 rfl C d_B_countLivingVersions_5 rfl ?_
  refine bv_get 0 5 9 rfl C k_B (by omega) rfl h0 (by decide) t1_151 rfl d_B_countLivingVersions_6 ?_
  refine bv_icmp_ge 38 12 rfl C d_B_countLivingVersions_9 (by decide) (fun h => ?_) (fun h => absurd (show nI 0 ≤ nI 0 by decide) h)
  refine bv_iload_n 39 rfl C d_B_countLivingVersions_38 rfl ?_
  exact bv_ireturn C rfl d_B_countLivingVersions_39 (Nat.le_refl _) (Nat.le_refl _) ⟨rfl, rfl, rfl, rfl⟩
/-- a number is out of a range, or one of it -/
theorem b_rng (x : Int32) (n : Nat) (hn : n < 2 ^ 31) : (x.toInt < 0 ∨ (n : Int) < x.toInt) ∨ ∃ k : Nat, k ≤ n ∧ x = nI k := by
  by_cases h1 : x.toInt < 0
  · exact Or.inl (Or.inl h1)
  · by_cases h2 : (n : Int) < x.toInt
    · exact Or.inl (Or.inr h2)
    · refine Or.inr ⟨x.toInt.toNat, by omega, ?_⟩
      have h3 : (nI x.toInt.toNat).toInt = x.toInt := by rw [nI_toInt (by omega)]; omega
      exact (Int32.toInt_inj.mp h3).symm
theorem ct_B_state (hN : 305 ≤ N) (h0 : w 0 = oB ad (nI 0)) (hS : bSs dd ad w so sb sk) (hso : ∀ j, j < 5 → so j = 0) {cu : Int32} (h1 : w 1 = .inr (1, [.int (nI 0), .int cu, .int (nI 0)])) (hC : bCs dd ad w cl cb) (hcl : ∀ j, j < 48 → cl j = 0) {x : Int32} : bK l dd y_B_state 2 42 0 0 [.ref (ad 0), .int x] ad w N (bSame ad w N (fun v => v = some (.int (stv x)))) bNo := by
  refine bK.start [(0, .ref (ad 0)), (1, .int x)] (by decide) t2_38 (Nat.le_of_ble_eq_true rfl) rfl (fun p e s m args below meth c A hnm C => ?_)
  refine bv_iload_n 1 rfl C d_B_state_0 rfl ?_
  rcases b_rng x 7 (by decide) with h | ⟨k, hk, rfl⟩
  · refine bv_tabOut 144 C d_B_state_1 h (by decide) ?_
    refine bv_iconst (v := -1) 145 rfl C d_B_state_144 (by decide) ?_
    exact bv_ireturn C rfl d_B_state_145 (by decide) (by decide) ⟨rfl, rfl, rfl, by rw [stv, if_pos (by omega)]⟩
  · rcases (show k = 0 ∨ k = 1 ∨ k = 2 ∨ k = 3 ∨ k = 4 ∨ k = 5 ∨ k = 6 ∨ k = 7 by omega) with rfl | rfl | rfl | rfl | rfl | rfl | rfl | rfl
    · refine bv_tabIn 48 C d_B_state_1 (by decide) (by decide) rfl (by decide) ?_
      refine bv_aload_n 49 rfl C d_B_state_48 rfl ?_
      refine bv_call (rest := []) 52 rfl C d_B_state_49 (ct_B_countChunks hN h0 hC hcl) i_B_countChunks t1_1 (fun H locs ls hP => bs_V (av := []) 0 C i_B_countChunks t2_39 t2_41 s_15 (by omega) rfl h0 rfl (by decide) rfl rfl d_B_state_49 H locs ls hP) ⟨by first | decide | omega, by first | decide | omega⟩ (by decide) (by decide) (Nat.le_of_ble_eq_true rfl) (fun v ad1 w1 N1 hpo => ?_) (fun x Cn ad' w' N' hth => hth.elim)
      obtain ⟨rfl, rfl, rfl, rfl⟩ := hpo
      exact bv_ireturn C rfl d_B_state_52 (by decide) (by decide) ⟨rfl, rfl, rfl, by decide⟩
    · refine bv_tabIn 53 C d_B_state_1 (by decide) (by decide) rfl (by decide) ?_
      refine bv_aload_n 54 rfl C d_B_state_53 rfl ?_
      refine bv_call (rest := []) 57 rfl C d_B_state_54 (ct_B_countOpenSessions hN h0 hS hso) i_B_countOpenSessions t1_1 (fun H locs ls hP => bs_V (av := []) 0 C i_B_countOpenSessions t2_43 t2_45 s_16 (by omega) rfl h0 rfl (by decide) rfl rfl d_B_state_54 H locs ls hP) ⟨by first | decide | omega, by first | decide | omega⟩ (by decide) (by decide) (Nat.le_of_ble_eq_true rfl) (fun v ad1 w1 N1 hpo => ?_) (fun x Cn ad' w' N' hth => hth.elim)
      obtain ⟨rfl, rfl, rfl, rfl⟩ := hpo
      exact bv_ireturn C rfl d_B_state_57 (by decide) (by decide) ⟨rfl, rfl, rfl, by decide⟩
    · refine bv_tabIn 58 C d_B_state_1 (by decide) (by decide) rfl (by decide) ?_
      refine bv_aload_n 59 rfl C d_B_state_58 rfl ?_
      refine bv_call (rest := []) 62 rfl C d_B_state_59 (ct_B_countLivingVersions hN h0) i_B_countLivingVersions t1_1 (fun H locs ls hP => bs_V (av := []) 0 C i_B_countLivingVersions t2_47 t2_49 s_17 (by omega) rfl h0 rfl (by decide) rfl rfl d_B_state_59 H locs ls hP) ⟨by first | decide | omega, by first | decide | omega⟩ (by decide) (by decide) (Nat.le_of_ble_eq_true rfl) (fun v ad1 w1 N1 hpo => ?_) (fun x Cn ad' w' N' hth => hth.elim)
      obtain ⟨rfl, rfl, rfl, rfl⟩ := hpo
      exact bv_ireturn C rfl d_B_state_62 (by decide) (by decide) ⟨rfl, rfl, rfl, by decide⟩
    · refine bv_tabIn 63 C d_B_state_1 (by decide) (by decide) rfl (by decide) ?_
      refine bv_aload_n 64 rfl C d_B_state_63 rfl ?_
      refine bv_get 0 5 67 rfl C k_B (by omega) rfl h0 (by decide) t1_151 rfl d_B_state_64 ?_
      exact bv_ireturn C rfl d_B_state_67 (by decide) (by decide) ⟨rfl, rfl, rfl, by decide⟩
    · refine bv_tabIn 68 C d_B_state_1 (by decide) (by decide) rfl (by decide) ?_
      refine bv_aload_n 69 rfl C d_B_state_68 rfl ?_
      refine bv_get 0 0 72 rfl C k_B (by omega) rfl h0 (by decide) t1_146 rfl d_B_state_69 ?_
      refine bv_getN 1 0 75 rfl C k_P (by omega) rfl h1 (by decide) n1_35 rfl d_B_state_72 ?_
      exact bv_ireturn C rfl d_B_state_75 (by decide) (by decide) ⟨rfl, rfl, rfl, by decide⟩
    · refine bv_tabIn 76 C d_B_state_1 (by decide) (by decide) rfl (by decide) ?_
      refine bv_aload_n 77 rfl C d_B_state_76 rfl ?_
      refine bv_get 0 0 80 rfl C k_B (by omega) rfl h0 (by decide) t1_146 rfl d_B_state_77 ?_
      refine bv_getN 1 2 83 rfl C k_P (by omega) rfl h1 (by decide) n1_38 rfl d_B_state_80 ?_
      refine bv_if_eq 90 86 rfl C d_B_state_83 (by decide) (fun h => ?_) (fun h => absurd (show nI 0 = 0 by decide) h)
      refine bv_iconst (v := nI 0) 91 rfl C d_B_state_90 (by decide) ?_
      exact bv_ireturn C rfl d_B_state_91 (by decide) (by decide) ⟨rfl, rfl, rfl, by decide⟩
    · refine bv_tabIn 92 C d_B_state_1 (by decide) (by decide) rfl (by decide) ?_
      refine bv_aload_n 93 rfl C d_B_state_92 rfl ?_
      refine bv_get 0 5 96 rfl C k_B (by omega) rfl h0 (by decide) t1_151 rfl d_B_state_93 ?_
      refine bv_if_ne 103 99 rfl C d_B_state_96 (by decide) (fun h => absurd (show nI 0 = 0 by decide) h) (fun h => ?_)
      refine bv_iconst (v := -1) 100 rfl C d_B_state_99 (by decide) ?_
      refine bv_goto 117 C d_B_state_100 (by decide) ?_
      exact bv_ireturn C rfl d_B_state_117 (by decide) (by decide) ⟨rfl, rfl, rfl, by decide⟩
    · refine bv_tabIn 118 C d_B_state_1 (by decide) (by decide) rfl (by decide) ?_
      refine bv_aload_n 119 rfl C d_B_state_118 rfl ?_
      refine bv_get 0 5 122 rfl C k_B (by omega) rfl h0 (by decide) t1_151 rfl d_B_state_119 ?_
      refine bv_if_ne 129 125 rfl C d_B_state_122 (by decide) (fun h => absurd (show nI 0 = 0 by decide) h) (fun h => ?_)
      refine bv_iconst (v := -1) 126 rfl C d_B_state_125 (by decide) ?_
      refine bv_goto 143 C d_B_state_126 (by decide) ?_
      exact bv_ireturn C rfl d_B_state_143 (by decide) (by decide) ⟨rfl, rfl, rfl, by decide⟩
end bStt
end
section
/-- what a class of exceptions needs whose own constructor passes its text on by another entry of its pool -/
def bAtN (own : String) (ic : Nat) (cls up : String) (i0 : Nat) (b0 : ByteArray) (names : List String) : List Cond :=
  Bundle.throwableAtoms ++ Bundle.throwableSAtoms ++ Bundle.chainSAtoms up names ++ Bundle.passSAtoms cls up i0 b0 ++
  [.methodLink own ic (Bundle.initS cls), .instantiable cls 6, .castable cls cls, .selects cls Bundle.tFill0 Bundle.tFill0, .selects cls Bundle.tFill Bundle.tFill,
   .lays cls Bundle.tN "cause" "Ljava/lang/Throwable;", .lays cls Bundle.tN "stackTrace" Bundle.steD, .lays cls Bundle.tN "suppressedExceptions" Bundle.listD, .lays cls Bundle.tN "detailMessage" "Ljava/lang/String;",
   .isRef (.static Bundle.tN "UNASSIGNED_STACK" Bundle.steD), .isRef (.static Bundle.tN "SUPPRESSED_SENTINEL" Bundle.listD),
   .fieldLink Bundle.tN 198 Bundle.tN "backtrace" "Ljava/lang/Object;", .lays Bundle.tN Bundle.tN "backtrace" "Ljava/lang/Object;", .lays cls Bundle.tN "backtrace" "Ljava/lang/Object;"]
section bNse
variable {p : Program} {l : Launch} {e : Env} {R : Room} {s : State} {m₀ : MethodId} {args : Array Value} {below : List Frame} {meth : Method} {c : Code} {T0 : State} {cells slots : Nat}
set_option maxHeartbeats 2000000 in
theorem bCtorN (X : Stand p l e R s m₀ args below meth c T0 [] cells slots) (hexec : p.tables.exec = Jvm.exec) (htr : e.platform.stackTraces = false) {own cls up : String} {names : List String} {ic i0 : Nat} {b0 : ByteArray}
    (hown : s.vm.findClass own = some m₀.cls) (hcls : Bundle.fit cls = true) (hup : Bundle.fit up = true) (hnames : ∀ n ∈ names, Bundle.fit n = true) (q0 : decode b0 0 = .ok (.aload_n 0, 1)) (q1 : decode b0 1 = .ok (.aload_n 1, 1)) (q2 : decode b0 2 = .ok (.invokespecial i0, 3)) (q5 : decode b0 5 = .ok (.return_, 1))
    (h : ∀ a ∈ bAtN own ic cls up i0 b0 names, a.before args s = true)
    {a : Addr} {cX : ClassId} {kX : Class} (hfX : s.vm.findClass cls = some cX) (hkX : s.vm.classes[cX]? = some kX) (hcell : T0.heap[a]? = some (freshCell cX kX)) (hnew : s.heap.size ≤ a) {msg : Value} (hmsg : msg.isRef = true)
    {g : JFrame} (hg : g.method = m₀) (hsize : g.locals.size = c.maxLocals) (hlocked : g.locked = none) (hentered : g.entered = []) {rest : List Value} (hstack : g.stack = msg :: .ref a :: .ref a :: rest)
    (hd6 : decode c.code g.pc = .ok (.invokespecial ic, 3)) (hd9 : decode c.code (g.pc + 3) = .ok (.athrow, 1)) (hout : ∀ x ∈ c.exceptionTable.toList, covers x (g.pc + 3) = false)
    (hRf : names.length + 4 < R.frames) (hRl : 2 * g.monitorRoom + ((Value.ref a :: rest).map fun v => v.category).sum + (13 * (names.length + 2) + 42) ≤ R.locals) (hlocks : meth.locks = false) :
    ∃ U : State, Steps p.tables e below (T0.setTop g) U ∧ U.status = .running ∧ Ended U below (.threw a) ∧ s.WarmedH U.vm ∧ s.sameButNew ({ U with vm := s.vm } : State) [] cells slots ∧ ∃ ce, U.heap[a]? = some ce ∧ ce.vm = .none ∧ s.vm.findClass cls = some ce.cls := by
  have howns : e.platform.frameOwnsMonitors = true := by rw [X.admits.platform]
  have hfin : e.platform.finalization = false := by rw [X.admits.platform]
  have hpl : e.platform.magicAccessors = ({} : Platform).magicAccessors := by rw [X.admits.platform]
  have at' : ∀ x, x ∈ bAtN own ic cls up i0 b0 names → x.holds args s none s [] = true := fun x hx => h x hx
  obtain ⟨T, Z0, L, -, Y⟩ := ThrowableC.of_atoms (args := args) howns hfin hpl (fun x hx => h x (by simp [bAtN, hx]))
  obtain ⟨Z, M, LZ, LM, hnZ⟩ := Init0T.ofS_atoms (args := args) hpl L Y (fun x hx => h x (by simp [bAtN, hx]))
  obtain ⟨P1, Ps, hlen, L1, hL, hP1m, hlink1, hlink⟩ := Bundle.chainS (args := args) hpl hnZ names up hup hnames (fun x hx => h x (by simp [bAtN, hx]))
  obtain ⟨P0, L0, hP0m, hP0s⟩ := PassC.ofS_atoms (args := args) (s := s) hpl (X := cls) (Y := up) (Bundle.fit_spec hcls).1 (Bundle.fit_spec hup).2 q0 q1 q2 q5 (fun x hx => h x (by simp [bAtN, hx]))
  have e01 : P0.sup = P1.m := Option.some.inj (hP0s.symm.trans hP1m)
  have hfound : s.vm.findClass cls = some P0.m.cls := findClass_of_methodNamed hP0m
  cases Option.some.inj (hfX.symm.trans hfound)
  obtain ⟨c1, kX', hc1, hk, hord, -, -, -⟩ := Cond.instantiable_spec (at' (.instantiable cls 6) (by simp [bAtN]))
  cases Option.some.inj (hc1.symm.trans hfound)
  cases Option.some.inj (hkX.symm.trans hk)
  have hsel : ∀ (y : MethodName) (my : MethodId), s.methodNamed? y = some my → (y.cls ≠ "java/lang/invoke/MethodHandle" ∧ y.cls ≠ "java/lang/invoke/VarHandle") → (Cond.selects cls y y).holds args s none s [] = true → selectMethod e.platform s.vm P0.m.cls my = .method my := by
    intro y my hy hne hs
    obtain ⟨c2, r2, m2, r1, r2', r3, r4, -⟩ := Cond.selects_spec hs
    cases Option.some.inj (r1.symm.trans hfound)
    cases Option.some.inj (r2'.symm.trans (State.methodFound?_of_named hy hne))
    cases Option.some.inj (r3.symm.trans hy)
    rw [Launch.admits_selectMethod X.admits]; exact r4
  obtain ⟨cS0, hcS0, hiss⟩ := Y.statics
  obtain ⟨u0, hu0⟩ := Cond.staticRefV Y.unassigned L.unassignedStatic L.statics hcS0 hiss (at' (.isRef (.static Bundle.tN "UNASSIGNED_STACK" Bundle.steD)) (by simp [bAtN]))
  obtain ⟨sen, hsen⟩ := Cond.staticRefV Y.sentinel L.sentinelStatic L.statics hcS0 hiss (at' (.isRef (.static Bundle.tN "SUPPRESSED_SENTINEL" Bundle.listD)) (by simp [bAtN]))
  obtain ⟨ci198, i198, fB, hk198, hg198, ha198, hsB, -, hnB, htB, hffB⟩ := Cond.ownField (t := .object "java/lang/Object") Y.found L.cls (by decide +kernel) (at' (.fieldLink Bundle.tN 198 Bundle.tN "backtrace" "Ljava/lang/Object;") (by simp [bAtN])) (at' (.lays Bundle.tN Bundle.tN "backtrace" "Ljava/lang/Object;") (by simp [bAtN])) e.platform hpl
  obtain ⟨cS, hcS', heS, -, hkeep⟩ := X.same.2.2.2.2.2 T.aS cS0 hcS0
  have hcellS : T0.heap[T.aS]? = some cS := hcS'
  have hkS : cS.vm ≠ .unknown := by
    rw [heS]; intro hu
    rw [show cS0.vm = .unknown from hu] at hiss
    cases hiss
  have hneS : T.aS ≠ a := Nat.ne_of_lt (Nat.lt_of_lt_of_le (Array.getElem?_eq_some_iff.mp hcS0).1 hnew)
  have hkp : ∀ i, cS.slots[i]? = cS0.slots[i]? := fun i => hkeep i (by simp)
  obtain ⟨iM, hffM⟩ := Y.msg
  obtain ⟨tyC, dC, hdC, hdnC⟩ := Cond.laysAt hfound hk Y.cause (at' (.lays cls Bundle.tN "cause" "Ljava/lang/Throwable;") (by simp [bAtN]))
  obtain ⟨tyS, dS, hdS, hdnS⟩ := Cond.laysAt hfound hk Y.stack (at' (.lays cls Bundle.tN "stackTrace" Bundle.steD) (by simp [bAtN]))
  obtain ⟨tyP, dP, hdP, hdnP⟩ := Cond.laysAt hfound hk Y.supp (at' (.lays cls Bundle.tN "suppressedExceptions" Bundle.listD) (by simp [bAtN]))
  obtain ⟨tyM, dM, hdM, hdnM⟩ := Cond.laysAt hfound hk hffM (at' (.lays cls Bundle.tN "detailMessage" "Ljava/lang/String;") (by simp [bAtN]))
  obtain ⟨tyB, dB, hdB, hdnB⟩ := Cond.laysAt hfound hk hffB (at' (.lays cls Bundle.tN "backtrace" "Ljava/lang/Object;") (by simp [bAtN]))
  have bC := Cond.laysApart hdB hdC hdnB hdnC (by rw [hnB, Y.causeName]; decide)
  have bS := Cond.laysApart hdB hdS hdnB hdnS (by rw [hnB, Y.stackName]; decide)
  have bP := Cond.laysApart hdB hdP hdnB hdnP (by rw [hnB, Y.suppName]; decide)
  have hskip : SkipFacts T e.platform s (fun u => u) u0 ((preparedCellV T.toThrowableT (freshCell P0.m.cls kX) a u0 sen).withEntry T0.cur) :=
    ⟨{ ci198 := ci198, i198 := i198, fBack := fB }, ⟨hk198, hg198, ha198, hsB⟩, by
      have := fresh_default (c := P0.m.cls) tyB
      rw [htB] at this
      simpa [preparedCellV, Cell.setSlot, Cell.withEntry, Array.getElem?_setIfInBounds, bC, bS, bP, bC.symm, bS.symm, bP.symm, defaultValue] using this, fun _ _ => rfl⟩
  obtain ⟨tm, methC, cdC, kC, vm₁, hnC, -, -, -, -, -, -, -, hW₁, st1⟩ := Steps.initColdS (tb := p.tables) (e := e) (below := below) (s := s) (U := T0) X.here hexec X.warmed hpl hown (t := Bundle.initS cls) rfl rfl (Bundle.fit_spec hcls).2
    (at' (.methodLink own ic (Bundle.initS cls)) (by simp [bAtN])) (h (.instanceMethod (Bundle.initS cls)) (by simp [bAtN, Bundle.passSAtoms])) (bytes := b0) (maxL := 2) (h (.code (Bundle.initS cls) b0 2 none) (by simp [bAtN, Bundle.passSAtoms]))
    (f := g) hg (a := a) (msg := msg) (rest := .ref a :: rest) hstack hd6
  cases Option.some.inj (hnC.symm.trans hP0m)
  have X₁ := X.noted hW₁
  obtain ⟨vm₂, X₂, st2⟩ := X₁.ctorMessageOffV hexec (g := { g with stack := .ref a :: rest }) hg hsize T L Z LZ M LM (P0 :: P1 :: Ps)
    (fun P hP => by rcases List.mem_cons.mp hP with rfl | hP; exact L0; rcases List.mem_cons.mp hP with rfl | hP; exact L1; exact hL P hP) ⟨e01, hlink1, hlink⟩ (u0 := u0) (sen := sen) (self := a) hmsg (cell := freshCell P0.m.cls kX) (cellS := cS)
    hcell (fun _ => by simp) (by simp) rfl rfl (hsel _ _ Y.fill0 (by decide) (at' (.selects cls Bundle.tFill0 Bundle.tFill0) (by simp [bAtN]))) (hsel _ _ Y.fill (by decide) (at' (.selects cls Bundle.tFill Bundle.tFill) (by simp [bAtN]))) hcellS hneS hkS (by rw [hkp]; exact hu0) (by rw [hkp]; exact hsen)
    (Takes.of_laid hk hord tyC (by rw [Y.causeType]; rfl)) (Takes.of_laid hk hord tyS (by rw [Y.stackType]; exact fits_refV_array _ u0)) (Takes.of_laid hk hord tyP (by rw [Y.suppType]; exact fits_refV_object _ sen))
    (Takes.of_laid hk hord tyM (by rw [Y.msgType]; exact fits_refV_object _ ⟨msg, hmsg⟩)) Y.objLocals hskip htr [] hd6
    (by simp only [List.length_cons, hlen]; omega) (by simp only [List.length_cons, hlen]; exact hRl)
  obtain ⟨hwalk, hrun, hended, hWU, hsame⟩ := X₂.athrowLeaves hexec (g := { g with stack := .ref a :: rest, pc := g.pc + 3 }) hg hlocked hentered hout (a := a) (rest := rest) rfl hd9 hlocks
  have hltA : a < ((T0.setVm vm₁).setVm vm₂).heap.size := (Array.getElem?_eq_some_iff.mp hcell).1
  have hU := heapAt_setCell_self (s := (T0.setVm vm₁).setVm vm₂) (plainBareV T.toThrowableT (freshCell P0.m.cls kX) a u0 sen msg) hltA
  refine ⟨_, st1 _ (fun acts => ?_), hrun, hended, hWU, hsame.weaken (fun y hy hlt' => ?_) (Nat.le_refl _) (Nat.le_refl _), _, hU, rfl, hfound⟩
  · rw [doInvoke_state]
    exact st2 _ hwalk
  · exfalso
    rcases List.mem_append.mp hy with h1 | h1
    · cases h1
    · have hb : y.base = a := by
        simp only [List.mem_cons, List.not_mem_nil, or_false] at h1
        rcases h1 with rfl | rfl | rfl | rfl | rfl <;> rfl
      rw [hb] at hlt'
      exact Nat.not_lt.mpr hnew hlt'
end bNse
end
section
theorem ow_N : ∀ a ∈ bAtN "BlobStore" 180 "java/util/NoSuchElementException" "java/lang/RuntimeException" 13 prog_21_method_4_code ["java/lang/Exception"], a ∈ Tb ∨ a ∈ bNst ∨ ∃ q ∈ bZq, a = .isRef (.static q.1 q.2.1 q.2.2) ∨ a = .laysStatic q.1 q.2.1 q.2.2 := by decide +kernel
section bThN
variable {p : Program} {l : Launch} {e : Env} {R : Room} {s : State} {m : MethodId} {args : Array Value} {below : List Frame} {meth : Method} {c : Code} {dd : bD} {A : Nat → Prop} {nL mc ms : Nat} {post : Option Value → (Nat → Nat) → (Nat → va_E) → Nat → Prop} {thr : String → (Nat → Nat) → (Nat → va_E) → Nat → Prop} {pc : Nat} {lo : Nat → Option Value} {rest : List Value} {ad : Nat → Nat} {w : Nat → va_E} {N cells slots : Nat} {cc : ByteArray} {own : String} {ret : Option FieldType} {hh : List (Nat × Nat × Nat × Nat)}
theorem bv_throwN {i1 i2 i3 i0 : Nat} {cls up tx : String} {b0 : ByteArray} {names : List String} (hlt : bOff l) (C : bCx p R s m args meth c cc own nL ret hh dd A) (hd0 : decode cc pc = .ok (.new i1, 3)) (hd1 : decode cc (pc + 3) = .ok (.dup, 1)) (hd2 : decode cc (pc + 4) = .ok (.ldc i2, 2)) (hd3 : decode cc (pc + 6) = .ok (.invokespecial i3, 3)) (hd4 : decode cc (pc + 9) = .ok (.athrow, 1))
    (hcl : Cond.classLink own i1 cls ∈ Tb) (hins : Cond.instantiable cls 6 ∈ Tb) (hini : Cond.initialized cls ∈ Tb) (hstr : (own, i2, tx) ∈ bStr) (hfit : Bundle.fit cls = true) (hup : Bundle.fit up = true) (hnames : ∀ n ∈ names, Bundle.fit n = true) (q0 : decode b0 0 = .ok (.aload_n 0, 1)) (q1 : decode b0 1 = .ok (.aload_n 1, 1)) (q2 : decode b0 2 = .ok (.invokespecial i0, 3)) (q5 : decode b0 5 = .ok (.return_, 1))
    (hat : ∀ a ∈ bAtN own i3 cls up i0 b0 names, a ∈ Tb ∨ a ∈ bNst ∨ ∃ q ∈ bZq, a = .isRef (.static q.1 q.2.1 q.2.2) ∨ a = .laysStatic q.1 q.2.1 q.2.2) (hout : (tableOf hh).all (fun y => !covers y (pc + 9)) = true)
    (hRf : names.length + 4 < R.frames) (hRl : (rest.map fun v => v.category).sum + (13 * (names.length + 2) + 43) ≤ R.locals) (hc : cells + 1 ≤ mc) (hs : slots + 6 ≤ ms) (hcR : cells + 1 ≤ R.cells) (hsR : slots + 6 ≤ R.slots) (h : thr cls ad w N) : bV p l e R s m args below meth c dd A nL mc ms post thr pc lo rest ad w N cells slots := by
  intro H locs ls hL hP hD hS T hT X
  have X' := bRebase X (R' := { frames := R.frames, cells := 1, slots := 6, locals := R.locals }) (Nat.le_refl _) (Nat.le_refl _) hcR hsR
  have hW0 : s.WarmedH (T.setFrames (.invoking m args :: below)).vm := X.warmed
  have hts : ∀ w0 ∈ Tb, w0.before args (T.setFrames (.invoking m args :: below)) = true := fun w0 hw0 => bGood.at (bTb_good w0 hw0) hW0 (C.2.2.2.2.1 _ hw0)
  have hown : (T.setFrames (.invoking m args :: below)).vm.findClass own = some m.cls := by
    have := C.2.2.2.1
    rw [← X.warmed.alike.findClass own] at this
    exact this
  have hG : bG dd A (T.setFrames (.invoking m args :: below)) T.heap := C.2.2.2.2.2.2.2.2.1.to hW0 (fun a ha hna => by rw [hT]; exact hS.2.1 a ha hna) (fun _ h => h)
  have hwords : ∀ a ∈ bAtN own i3 cls up i0 b0 names, a.before args (T.setFrames (.invoking m args :: below)) = true := by
    intro a ha
    rcases hat a ha with h1 | h1 | ⟨q, hq, rfl | rfl⟩
    · exact hts a h1
    · exact bNst_use (bNst_only a h1) (hG.2.1 a h1)
    · exact (hG.2.2.2.2.1 q hq).isRef
    · exact (hG.2.2.2.2.1 q hq).lays
  obtain ⟨msg, hmsg⟩ := hG.2.2.2.1 _ hstr
  have key : W p l e { frames := R.frames, cells := 1, slots := 6, locals := R.locals } (T.setFrames (.invoking m args :: below)) m args below meth c T.heap [] 0 0
      (fun U => U.status = .running ∧ Ended U below (.threw T.heap.size) ∧ (T.setFrames (.invoking m args :: below)).WarmedH U.vm ∧ (T.setFrames (.invoking m args :: below)).sameButNew ({ U with vm := (T.setFrames (.invoking m args :: below)).vm } : State) [] 1 6 ∧
        ∃ ce, U.heap[T.heap.size]? = some ce ∧ ce.vm = .none ∧ (T.setFrames (.invoking m args :: below)).vm.findClass cls = some ce.cls) (F0 m pc ls rest) := by
    refine W.newc (g := F0 m pc ls rest) C.1 C.2.1 hown (hts _ hcl) (hts _ hins) (hts _ hini) rfl hd0 (Nat.le_refl _) (Nat.le_refl _) (fun cC kC hfc hkC hord hsz => ?_)
    refine lv_dup (m := m) (ls := ls) (pc := pc + 3) (rest := rest) (va := .ref T.heap.size) C.1 C.2.1 hd1 rfl ?_
    refine va_ldcS C.1 C.2.1 hown hmsg hd2 ?_
    intro T2 hT2 X2
    have hcell : T2.heap[T.heap.size]? = some (freshCell cC kC) := by rw [hT2]; simp
    obtain ⟨U, u1, u2, u3, u4, u5, u6⟩ := bCtorN X2 C.1 (hlt e X.admits) hown hfit hup hnames q0 q1 q2 q5 hwords hfc hkC hcell (Nat.le_refl _) (msg := .ref msg) rfl (g := F0 m (pc + 6) ls (.ref msg :: .ref T.heap.size :: .ref T.heap.size :: rest)) rfl (hL.1.trans C.2.2.1.symm) rfl rfl (rest := rest) rfl
      (by rw [C.2.1]; exact hd3) (by rw [C.2.1]; exact hd4) (outside_of_table C.2.2.2.2.2.2.2.2.2 hout) hRf (by rw [List.map_cons, List.sum_cons]; show 2 * 0 + (1 + (rest.map fun v => v.category).sum) + (13 * (names.length + 2) + 42) ≤ R.locals; omega) C.2.2.2.2.2.2.1
    exact ⟨U, u1, u2, u3, u4, u5, u6⟩
  obtain ⟨U, u1, u2, u3, u4, u5, ce, u6, u7, u8⟩ := key T rfl X'
  have hFE := bRebase.back X u4 u5
  have hheap : ∀ q : Nat, q < H.size → U.heap[q]? = H[q]? := by
    intro q hq
    rw [← hT] at hq ⊢
    exact bSame0 u5 hq
  refine ⟨U, u1, .threw T.heap.size, u2, u3, ⟨⟨?_, ?_⟩, ad, w, N, ?_, hD, Or.inr ⟨T.heap.size, cls, ce, rfl, u6, u7, ?_, ?_, h⟩⟩, locs, ⟨hFE.1, hFE.2.mono hc hs⟩, hS.2.2⟩
  · have h1 : T.heap.size ≤ U.heap.size := u5.2.1
    rw [hT] at h1
    exact Nat.le_trans hS.1 h1
  · intro q h1 h2
    rw [hheap q (Nat.lt_of_lt_of_le h1 hS.1)]
    exact hS.2.1 q h1 h2
  · refine hP.kept (fun k q hk => hheap _ ?_)
    exact (hP k q hk).lt
  · rw [← u4.alike.findClass cls] at u8
    exact u8
  · rw [hT]; exact hS.1
end bThN
section bAdr
variable {l : Launch} {dd : bD} {ad : Nat → Nat} {w : Nat → va_E} {N : Nat} {ve : Int32} {cl : Nat → Int32} {cb : Nat → Int64}
/-- address where no slot has a chunk -/
theorem ct_B_address (hlt : bOff l) (hN : 305 ≤ N) (h0 : w 0 = oB ad ve) (hC : bCs dd ad w cl cb) (hcl : ∀ j, j < 48 → cl j = 0) {x y : Int32} : bK l dd y_B_address 6 82 1 6 [.ref (ad 0), .int x, .int y] ad w N (fun _ _ _ _ => False) (bSameT ad w N (fun Cn => Cn = xNSE)) := by
  refine bK.start [(0, .ref (ad 0)), (1, .int x), (2, .int y)] (by decide) t3_72 (Nat.le_of_ble_eq_true rfl) rfl (fun p e s m args below meth c A hnm C => ?_)
  refine bv_aload_n 1 rfl C d_B_address_0 rfl ?_
  refine bv_iload_n 2 rfl C d_B_address_1 rfl ?_
  refine bv_call (rest := []) 5 rfl C d_B_address_2 (ct_B_hasChunk hN h0 hC) i_B_hasChunk t1_1 (fun H locs ls hP => bs_V (av := [.int x]) 0 C i_B_hasChunk t1_209 t1_211 s_3 (by omega) rfl h0 rfl (by decide) rfl rfl d_B_address_2 H locs ls hP) ⟨by first | decide | omega, by first | decide | omega⟩ (by decide) (by decide) (Nat.le_of_ble_eq_true rfl) (fun v ad1 w1 N1 hpo => ?_) (fun x Cn ad' w' N' hth => hth.elim)
  obtain ⟨rfl, rfl, rfl, hv⟩ := hpo
  rcases hv with ⟨-, i, hi, -, ho⟩ | ⟨rfl, -⟩
  · exact absurd (hcl i hi) ho
  · refine bv_if_eq 18 8 rfl C d_B_address_5 (by decide) (fun h => ?_) (fun h => absurd (show nI 0 = 0 by decide) h)
    exact bv_throwN (names := ["java/lang/Exception"]) (up := "java/lang/RuntimeException") (i0 := 13) (b0 := prog_21_method_4_code) hlt C d_B_address_18 d_B_address_21 d_B_address_22 d_B_address_24 d_B_address_27 t3_73 t3_74 t1_19 (show ("BlobStore", 178, "no such chunk or word") ∈ bStr by simp) (by decide) (by decide) (by decide) (by decide +kernel) (by decide +kernel) (by decide +kernel) (by decide +kernel) ow_N rfl (by decide) (by decide) (by decide) (by decide) (by decide) (by decide) ⟨rfl, rfl, rfl, rfl⟩
end bAdr
end
section
/-- behind a call of the reference: what thrown() will say, and the answer -/
abbrev bMp (ad : Nat → Nat) (N : Nat) (P : Int32 → Option Value → Prop) : Option Value → (Nat → Nat) → (Nat → va_E) → Nat → Prop := fun v ad' w' N' => ad = ad' ∧ N = N' ∧ ∃ th ve wr cu dn, w' 305 = mO ad th ve wr cu dn ∧ P th v
def bIn (x a b : Int32) : Prop := ¬ x < a ∧ ¬ b < x
section bMod
variable {l : Launch} {dd : bD} {ad : Nat → Nat} {w : Nat → va_E} {N : Nat} {th ve wr cu dn : Int32}
theorem ct_M_thrown (hN : 323 ≤ N) (hm : w 305 = mO ad th ve wr cu dn) : bK l dd y_M_thrown 0 0 0 0 [.ref (ad 305)] ad w N (bSame ad w N (fun v => v = some (.int th))) bNo := by
  refine bK.start [(0, .ref (ad 305))] (by decide) t3_179 (Nat.le_of_ble_eq_true rfl) rfl (fun p e s m args below meth c A hnm C => ?_)
  refine bv_aload_n 1 rfl C d_M_thrown_0 rfl ?_
  refine bv_get 305 0 4 rfl C k_M (by omega) rfl hm (by decide) t3_107 rfl d_M_thrown_1 ?_
  exact bv_ireturn C rfl d_M_thrown_4 (Nat.le_refl _) (Nat.le_refl _) ⟨rfl, rfl, rfl, rfl⟩
theorem ct_M_says (hN : 323 ≤ N) (hm : w 305 = mO ad th ve wr cu dn) {x : Int32} : bK l dd y_M_says 0 0 0 0 [.ref (ad 305), .int x] ad w N (fun v ad' w' N' => ad = ad' ∧ N = N' ∧ w' = va_up w 305 (mO ad x ve wr cu dn) ∧ ((x = 0 ∧ v = some (.int (nI 1))) ∨ (¬ x = 0 ∧ v = some (.int (nI 0))))) bNo := by
  refine bK.start [(0, .ref (ad 305)), (1, .int x)] (by decide) t3_190 (Nat.le_of_ble_eq_true rfl) rfl (fun p e s m args below meth c A hnm C => ?_)
  refine bv_aload_n 1 rfl C d_M_says_0 rfl ?_
  refine bv_iload_n 2 rfl C d_M_says_1 rfl ?_
  refine bv_put 305 0 5 rfl C k_M (by omega) rfl hm (by decide) t3_107 rfl rfl rfl (Nat.le_of_ble_eq_true rfl) d_M_says_2 ?_
  refine bv_iload_n 6 rfl C d_M_says_5 rfl ?_
  refine bv_if_ne 13 9 rfl C d_M_says_6 (by decide) (fun h => ?_) (fun h => ?_)
  · refine bv_iconst (v := nI 0) 14 rfl C d_M_says_13 (by decide) ?_
    exact bv_zreturn C rfl (Or.inl rfl) d_M_says_14 (Nat.le_refl _) (Nat.le_refl _) ⟨rfl, rfl, rfl, Or.inr ⟨h, rfl⟩⟩
  · refine bv_iconst (v := nI 1) 10 rfl C d_M_says_9 (by decide) ?_
    refine bv_goto 14 C d_M_says_10 (by decide) ?_
    exact bv_zreturn C rfl (Or.inr rfl) d_M_says_14 (Nat.le_refl _) (Nat.le_refl _) ⟨rfl, rfl, rfl, Or.inl ⟨h, rfl⟩⟩
theorem ct_M_in {x a b : Int32} : bK l dd y_M_in 0 0 0 0 [.int x, .int a, .int b] ad w N (bSame ad w N (fun v => (bIn x a b ∧ v = some (.int (nI 1))) ∨ (¬ bIn x a b ∧ v = some (.int (nI 0))))) bNo := by
  refine bK.start [(0, .int x), (1, .int a), (2, .int b)] (by decide) t3_186 (Nat.le_of_ble_eq_true rfl) rfl (fun p e s m args below meth c A hnm C => ?_)
  refine bv_iload_n 1 rfl C d_M_in_0 rfl ?_
  refine bv_iload_n 2 rfl C d_M_in_1 rfl ?_
  refine bv_icmp_lt 14 5 rfl C d_M_in_2 (by decide) (fun x1 => ?_) (fun x1 => ?_)
  · refine bv_iconst (v := nI 0) 15 rfl C d_M_in_14 (by decide) ?_
    exact bv_zreturn C rfl (Or.inl rfl) d_M_in_15 (Nat.le_refl _) (Nat.le_refl _) ⟨rfl, rfl, rfl, Or.inr ⟨fun hh => hh.1 x1, rfl⟩⟩
  · refine bv_iload_n 6 rfl C d_M_in_5 rfl ?_
    refine bv_iload_n 7 rfl C d_M_in_6 rfl ?_
    refine bv_icmp_gt 14 10 rfl C d_M_in_7 (by decide) (fun x2 => ?_) (fun x2 => ?_)
    · refine bv_iconst (v := nI 0) 15 rfl C d_M_in_14 (by decide) ?_
      exact bv_zreturn C rfl (Or.inl rfl) d_M_in_15 (Nat.le_refl _) (Nat.le_refl _) ⟨rfl, rfl, rfl, Or.inr ⟨fun hh => hh.2 x2, rfl⟩⟩
    · refine bv_iconst (v := nI 1) 11 rfl C d_M_in_10 (by decide) ?_
      refine bv_goto 15 C d_M_in_11 (by decide) ?_
      exact bv_zreturn C rfl (Or.inr rfl) d_M_in_15 (Nat.le_refl _) (Nat.le_refl _) ⟨rfl, rfl, rfl, Or.inl ⟨⟨x1, x2⟩, rfl⟩⟩
/-- writes with no cut told -/
theorem ct_M_writes (hN : 323 ≤ N) (hm : w 305 = mO ad th ve wr (-1) dn) {x : Int32} : bK l dd y_M_writes 0 0 0 0 [.ref (ad 305), .int x] ad w N (fun v ad' w' N' => ad = ad' ∧ N = N' ∧ w' = va_up w 305 (mO ad th ve (wr + nI 1) (-1) dn) ∧ v = some (.int (nI 1))) bNo := by
  refine bK.start [(0, .ref (ad 305)), (1, .int x)] (by decide) t3_194 (Nat.le_of_ble_eq_true rfl) rfl (fun p e s m args below meth c A hnm C => ?_)
  refine bv_aload_n 1 rfl C d_M_writes_0 rfl ?_
  refine bv_get 305 15 4 rfl C k_M (by omega) rfl hm (by decide) t3_122 rfl d_M_writes_1 ?_
  refine bv_if_ne 24 7 rfl C d_M_writes_4 (by decide) (fun h => ?_) (fun h => absurd h (show ¬ (-1 : Int32) = 0 by decide))
  refine bv_aload_n 25 rfl C d_M_writes_24 rfl ?_
  refine bv_dup 26 rfl C d_M_writes_25 rfl ?_
  refine bv_get 305 15 29 rfl C k_M (by omega) rfl hm (by decide) t3_122 rfl d_M_writes_26 ?_
  refine bv_aload_n 30 rfl C d_M_writes_29 rfl ?_
  refine bv_get 305 15 33 rfl C k_M (by omega) rfl hm (by decide) t3_122 rfl d_M_writes_30 ?_
  refine bv_if_le 40 36 rfl C d_M_writes_33 (by decide) (fun h => ?_) (fun h => absurd (show (-1 : Int32) ≤ 0 by decide) h)
  refine bv_iconst (v := nI 0) 41 rfl C d_M_writes_40 (by decide) ?_
  refine bv_isub 42 rfl C d_M_writes_41 ?_
  refine bv_seti (-1) (by decide) ?_
  refine bv_put 305 15 45 rfl C k_M (by omega) rfl hm (by decide) t3_122 rfl rfl rfl (Nat.le_of_ble_eq_true rfl) d_M_writes_42 ?_
  refine bv_aload_n 46 rfl C d_M_writes_45 rfl ?_
  refine bv_dup 47 rfl C d_M_writes_46 rfl ?_
  refine bv_get 305 14 50 rfl C k_M (by omega) rfl (va_up_self _ _ _) (by decide) t3_121 rfl d_M_writes_47 ?_
  refine bv_iconst (v := nI 1) 51 rfl C d_M_writes_50 (by decide) ?_
  refine bv_iadd 52 rfl C d_M_writes_51 ?_
  refine bv_put 305 14 55 rfl C k_M (by omega) rfl (va_up_self _ _ _) (by decide) t3_121 rfl rfl rfl (Nat.le_of_ble_eq_true rfl) d_M_writes_52 ?_
  refine bv_iconst (v := nI 1) 56 rfl C d_M_writes_55 (by decide) ?_
  exact bv_zreturn C rfl (Or.inr rfl) d_M_writes_56 (Nat.le_refl _) (Nat.le_refl _) ⟨rfl, rfl, by rw [bu_same]; rfl, rfl⟩
theorem ct_M_isOpen (hN : 323 ≤ N) (hm : w 305 = mO ad th ve wr cu dn) (ho : w 308 = aZ dd 5 (fun _ => 0)) {x : Int32} : bK l dd y_M_isOpen 1 22 0 0 [.ref (ad 305), .int x] ad w N (bSame ad w N (fun v => v = some (.int (nI 0)))) bNo := by
  refine bK.start [(0, .ref (ad 305)), (1, .int x)] (by decide) t3_202 (Nat.le_of_ble_eq_true rfl) rfl (fun p e s m args below meth c A hnm C => ?_)
  refine bv_iload_n 1 rfl C d_M_isOpen_0 rfl ?_
  refine bv_iconst (v := nI 0) 2 rfl C d_M_isOpen_1 (by decide) ?_
  refine bv_iconst (v := nI 4) 3 rfl C d_M_isOpen_2 (by decide) ?_
  refine bv_call (rest := []) 6 rfl C d_M_isOpen_3 (ct_M_in (x := x) (a := nI 0) (b := nI 4)) i_M_in t1_8 (fun H locs ls _ => bs_S (av := [.int x, .int (nI 0), .int (nI 4)]) C i_M_in t3_184 t3_185 t1_8 (by decide) rfl rfl d_M_isOpen_3 H locs ls) ⟨by first | decide | omega, by first | decide | omega⟩ (by decide) (by decide) (Nat.le_of_ble_eq_true rfl) (fun v ad1 w1 N1 hpo => ?_) (fun x Cn ad' w' N' hth => hth.elim)
  obtain ⟨rfl, rfl, rfl, hv⟩ := hpo
  rcases hv with ⟨hi, rfl⟩ | ⟨hi, rfl⟩
  · obtain ⟨i, hi5, rfl⟩ : ∃ i : Nat, i < 5 ∧ x = nI i := by
      rcases pk_ix x (show 5 < 2 ^ 31 by decide) with h | h | h
      · exact absurd h hi.1
      · exfalso
        refine hi.2 ?_
        rw [Int32.le_iff_toInt_le] at h
        rw [Int32.lt_iff_toInt_lt]
        have : (nI 5).toInt = 5 := rfl
        have : (nI 4).toInt = 4 := rfl
        omega
      · exact h
    refine bv_if_eq 22 9 rfl C d_M_isOpen_6 (by decide) (fun h => absurd h (show ¬ nI 1 = 0 by decide)) (fun h => ?_)
    refine bv_aload_n 10 rfl C d_M_isOpen_9 rfl ?_
    refine bv_get 305 3 13 rfl C k_M (by omega) rfl hm (by decide) t3_110 rfl d_M_isOpen_10 ?_
    refine bv_iload_n 14 rfl C d_M_isOpen_13 rfl ?_
    refine bv_zald 308 i 15 rfl C (by omega) rfl ho rfl hi5 (by decide) d_M_isOpen_14 ?_
    refine bv_if_eq 22 18 rfl C d_M_isOpen_15 (by decide) (fun h => ?_) (fun h => absurd (show (0 : Int32) = 0 by decide) h)
    refine bv_iconst (v := nI 0) 23 rfl C d_M_isOpen_22 (by decide) ?_
    exact bv_zreturn C rfl (Or.inl rfl) d_M_isOpen_23 (Nat.le_refl _) (Nat.le_refl _) ⟨rfl, rfl, rfl, rfl⟩
  · refine bv_if_eq 22 9 rfl C d_M_isOpen_6 (by decide) (fun h => ?_) (fun h => absurd (show nI 0 = 0 by decide) h)
    refine bv_iconst (v := nI 0) 23 rfl C d_M_isOpen_22 (by decide) ?_
    exact bv_zreturn C rfl (Or.inl rfl) d_M_isOpen_23 (Nat.le_refl _) (Nat.le_refl _) ⟨rfl, rfl, rfl, rfl⟩
theorem ct_M_part (hN : 323 ≤ N) (hm : w 305 = mO ad th ve wr cu 0) (ho : w 308 = aZ dd 5 (fun _ => 0)) {x y z : Int32} {a b c0 : Int64} : bK l dd y_M_part 2 43 0 0 [.ref (ad 305), .int x, .int y, .int z, .long a, .long b, .long c0] ad w N (bMp ad N (fun t v => t = nI 2 ∧ ∃ r : Int32, v = some (.int r))) bNo := by
  refine bK.start [(0, .ref (ad 305)), (1, .int x), (2, .int y), (3, .int z), (4, .long a), (6, .long b), (8, .long c0)] (by decide) t3_198 (Nat.le_of_ble_eq_true rfl) rfl (fun p e s m args below meth c A hnm C => ?_)
  refine bv_aload_n 1 rfl C d_M_part_0 rfl ?_
  refine bv_aload_n 2 rfl C d_M_part_1 rfl ?_
  refine bv_get 305 16 5 rfl C k_M (by omega) rfl hm (by decide) t3_123 rfl d_M_part_2 ?_
  refine bv_if_eq 12 8 rfl C d_M_part_5 (by decide) (fun h => ?_) (fun h => absurd (show (0 : Int32) = 0 by decide) h)
  refine bv_aload_n 13 rfl C d_M_part_12 rfl ?_
  refine bv_iload_n 14 rfl C d_M_part_13 rfl ?_
  refine bv_call (rest := [.ref (ad 305)]) 17 rfl C d_M_part_14 (ct_M_isOpen hN hm ho) i_M_isOpen t1_8 (fun H locs ls hP => bs_V (av := [.int x]) 305 C i_M_isOpen t3_199 t3_201 s_40 (by omega) rfl hm rfl (by decide) rfl rfl d_M_part_14 H locs ls hP) ⟨by first | decide | omega, by first | decide | omega⟩ (by decide) (by decide) (Nat.le_of_ble_eq_true rfl) (fun v ad1 w1 N1 hpo => ?_) (fun x Cn ad' w' N' hth => hth.elim)
  obtain ⟨rfl, rfl, rfl, rfl⟩ := hpo
  refine bv_if_eq 40 20 rfl C d_M_part_17 (by decide) (fun h => ?_) (fun h => absurd (show nI 0 = 0 by decide) h)
  refine bv_iconst (v := nI 2) 41 rfl C d_M_part_40 (by decide) ?_
  refine bv_goto 45 C d_M_part_41 (by decide) ?_
  refine bv_call (rest := []) 48 rfl C d_M_part_45 (ct_M_says hN hm) i_M_says t1_8 (fun H locs ls hP => bs_V (av := [.int (nI 2)]) 305 C i_M_says t3_187 t3_189 s_38 (by omega) rfl hm rfl (by decide) rfl rfl d_M_part_45 H locs ls hP) ⟨by first | decide | omega, by first | decide | omega⟩ (by decide) (by decide) (Nat.le_of_ble_eq_true rfl) (fun v ad1 w1 N1 hpo => ?_) (fun x Cn ad' w' N' hth => hth.elim)
  obtain ⟨rfl, rfl, rfl, hv⟩ := hpo
  rcases hv with ⟨hz, -⟩ | ⟨-, rfl⟩
  · exact absurd hz (by decide)
  · refine bv_if_ne 53 51 rfl C d_M_part_48 (by decide) (fun h => absurd (show nI 0 = 0 by decide) h) (fun h => ?_)
    refine bv_iconst (v := nI 0) 52 rfl C d_M_part_51 (by decide) ?_
    exact bv_ireturn C rfl d_M_part_52 (by decide) (by decide) ⟨rfl, rfl, _, _, _, _, _, va_up_self _ _ _, rfl, _, rfl⟩
theorem ct_M_complete (hN : 323 ≤ N) (hm : w 305 = mO ad th 0 wr cu 0) (ho : w 308 = aZ dd 5 (fun _ => 0)) {x : Int32} : bK l dd y_M_complete 2 43 0 0 [.ref (ad 305), .int x] ad w N (bMp ad N (fun t v => t = nI 2 ∧ ∃ r : Int32, v = some (.int r))) bNo := by
  refine bK.start [(0, .ref (ad 305)), (1, .int x)] (by decide) t3_238 (Nat.le_of_ble_eq_true rfl) rfl (fun p e s m args below meth c A hnm C => ?_)
  refine bv_aload_n 1 rfl C d_M_complete_0 rfl ?_
  refine bv_aload_n 2 rfl C d_M_complete_1 rfl ?_
  refine bv_get 305 16 5 rfl C k_M (by omega) rfl hm (by decide) t3_123 rfl d_M_complete_2 ?_
  refine bv_if_ne 17 8 rfl C d_M_complete_5 (by decide) (fun h => absurd (show (0 : Int32) = 0 by decide) h) (fun h => ?_)
  refine bv_aload_n 9 rfl C d_M_complete_8 rfl ?_
  refine bv_get 305 8 12 rfl C k_M (by omega) rfl hm (by decide) t3_115 rfl d_M_complete_9 ?_
  refine bv_bipush (v := nI 40) 14 rfl C d_M_complete_12 (by decide) ?_
  refine bv_icmp_ne 21 17 rfl C d_M_complete_14 (by decide) (fun h => ?_) (fun h => absurd h (show ¬ (0 : Int32) = nI 40 by decide))
  refine bv_aload_n 22 rfl C d_M_complete_21 rfl ?_
  refine bv_iload_n 23 rfl C d_M_complete_22 rfl ?_
  refine bv_call (rest := [.ref (ad 305)]) 26 rfl C d_M_complete_23 (ct_M_isOpen hN hm ho) i_M_isOpen t1_8 (fun H locs ls hP => bs_V (av := [.int x]) 305 C i_M_isOpen t3_199 t3_201 s_40 (by omega) rfl hm rfl (by decide) rfl rfl d_M_complete_23 H locs ls hP) ⟨by first | decide | omega, by first | decide | omega⟩ (by decide) (by decide) (Nat.le_of_ble_eq_true rfl) (fun v ad1 w1 N1 hpo => ?_) (fun x Cn ad' w' N' hth => hth.elim)
  obtain ⟨rfl, rfl, rfl, rfl⟩ := hpo
  refine bv_if_ne 33 29 rfl C d_M_complete_26 (by decide) (fun h => absurd (show nI 0 = 0 by decide) h) (fun h => ?_)
  refine bv_iconst (v := nI 2) 30 rfl C d_M_complete_29 (by decide) ?_
  refine bv_goto 34 C d_M_complete_30 (by decide) ?_
  refine bv_call (rest := []) 37 rfl C d_M_complete_34 (ct_M_says hN hm) i_M_says t1_8 (fun H locs ls hP => bs_V (av := [.int (nI 2)]) 305 C i_M_says t3_187 t3_189 s_38 (by omega) rfl hm rfl (by decide) rfl rfl d_M_complete_34 H locs ls hP) ⟨by first | decide | omega, by first | decide | omega⟩ (by decide) (by decide) (Nat.le_of_ble_eq_true rfl) (fun v ad1 w1 N1 hpo => ?_) (fun x Cn ad' w' N' hth => hth.elim)
  obtain ⟨rfl, rfl, rfl, hv⟩ := hpo
  rcases hv with ⟨hz, -⟩ | ⟨-, rfl⟩
  · exact absurd hz (by decide)
  · refine bv_if_eq 48 40 rfl C d_M_complete_37 (by decide) (fun h => ?_) (fun h => absurd (show nI 0 = 0 by decide) h)
    refine bv_iconst (v := nI 0) 49 rfl C d_M_complete_48 (by decide) ?_
    exact bv_ireturn C rfl d_M_complete_49 (by decide) (by decide) ⟨rfl, rfl, _, _, _, _, _, va_up_self _ _ _, rfl, _, rfl⟩
theorem ct_M_abort (hN : 323 ≤ N) (hm : w 305 = mO ad th ve wr cu 0) (ho : w 308 = aZ dd 5 (fun _ => 0)) {x : Int32} : bK l dd y_M_abort 2 43 0 0 [.ref (ad 305), .int x] ad w N (bMp ad N (fun t v => t = nI 2 ∧ v = none)) bNo := by
  refine bK.start [(0, .ref (ad 305)), (1, .int x)] (by decide) t4_2 (Nat.le_of_ble_eq_true rfl) rfl (fun p e s m args below meth c A hnm C => ?_)
  refine bv_aload_n 1 rfl C d_M_abort_0 rfl ?_
  refine bv_aload_n 2 rfl C d_M_abort_1 rfl ?_
  refine bv_get 305 16 5 rfl C k_M (by omega) rfl hm (by decide) t3_123 rfl d_M_abort_2 ?_
  refine bv_if_eq 12 8 rfl C d_M_abort_5 (by decide) (fun h => ?_) (fun h => absurd (show (0 : Int32) = 0 by decide) h)
  refine bv_aload_n 13 rfl C d_M_abort_12 rfl ?_
  refine bv_iload_n 14 rfl C d_M_abort_13 rfl ?_
  refine bv_call (rest := [.ref (ad 305)]) 17 rfl C d_M_abort_14 (ct_M_isOpen hN hm ho) i_M_isOpen t1_8 (fun H locs ls hP => bs_V (av := [.int x]) 305 C i_M_isOpen t3_199 t3_201 s_40 (by omega) rfl hm rfl (by decide) rfl rfl d_M_abort_14 H locs ls hP) ⟨by first | decide | omega, by first | decide | omega⟩ (by decide) (by decide) (Nat.le_of_ble_eq_true rfl) (fun v ad1 w1 N1 hpo => ?_) (fun x Cn ad' w' N' hth => hth.elim)
  obtain ⟨rfl, rfl, rfl, rfl⟩ := hpo
  refine bv_if_ne 24 20 rfl C d_M_abort_17 (by decide) (fun h => absurd (show nI 0 = 0 by decide) h) (fun h => ?_)
  refine bv_iconst (v := nI 2) 21 rfl C d_M_abort_20 (by decide) ?_
  refine bv_goto 25 C d_M_abort_21 (by decide) ?_
  refine bv_call (rest := []) 28 rfl C d_M_abort_25 (ct_M_says hN hm) i_M_says t1_8 (fun H locs ls hP => bs_V (av := [.int (nI 2)]) 305 C i_M_says t3_187 t3_189 s_38 (by omega) rfl hm rfl (by decide) rfl rfl d_M_abort_25 H locs ls hP) ⟨by first | decide | omega, by first | decide | omega⟩ (by decide) (by decide) (Nat.le_of_ble_eq_true rfl) (fun v ad1 w1 N1 hpo => ?_) (fun x Cn ad' w' N' hth => hth.elim)
  obtain ⟨rfl, rfl, rfl, hv⟩ := hpo
  rcases hv with ⟨hz, -⟩ | ⟨-, rfl⟩
  · exact absurd hz (by decide)
  · refine bv_if_eq 46 31 rfl C d_M_abort_28 (by decide) (fun h => ?_) (fun h => absurd (show nI 0 = 0 by decide) h)
    exact bv_return C rfl d_M_abort_46 (by decide) (by decide) ⟨rfl, rfl, _, _, _, _, _, va_up_self _ _ _, rfl, rfl⟩
theorem ct_M_isLiving (hN : 323 ≤ N) (hm : w 305 = mO ad th 0 wr cu dn) {x : Int32} : bK l dd y_M_isLiving 1 22 0 0 [.ref (ad 305), .int x] ad w N (bSame ad w N (fun v => v = some (.int (nI 0)))) bNo := by
  refine bK.start [(0, .ref (ad 305)), (1, .int x)] (by decide) t4_10 (Nat.le_of_ble_eq_true rfl) rfl (fun p e s m args below meth c A hnm C => ?_)
  refine bv_iload_n 1 rfl C d_M_isLiving_0 rfl ?_
  refine bv_iconst (v := nI 1) 2 rfl C d_M_isLiving_1 (by decide) ?_
  refine bv_aload_n 3 rfl C d_M_isLiving_2 rfl ?_
  refine bv_get 305 8 6 rfl C k_M (by omega) rfl hm (by decide) t3_115 rfl d_M_isLiving_3 ?_
  refine bv_call (rest := []) 9 rfl C d_M_isLiving_6 (ct_M_in (x := x) (a := nI 1) (b := 0)) i_M_in t1_8 (fun H locs ls _ => bs_S (av := [.int x, .int (nI 1), .int 0]) C i_M_in t3_184 t3_185 t1_8 (by decide) rfl rfl d_M_isLiving_6 H locs ls) ⟨by first | decide | omega, by first | decide | omega⟩ (by decide) (by decide) (Nat.le_of_ble_eq_true rfl) (fun v ad1 w1 N1 hpo => ?_) (fun x Cn ad' w' N' hth => hth.elim)
  obtain ⟨rfl, rfl, rfl, hv⟩ := hpo
  rcases hv with ⟨hi, rfl⟩ | ⟨hi, rfl⟩
  · exfalso
    have h1 := hi.1
    have h2 := hi.2
    rw [Int32.lt_iff_toInt_lt] at h1 h2
    have : (nI 1).toInt = 1 := rfl
    have : (0 : Int32).toInt = 0 := rfl
    omega
  · refine bv_if_eq 25 12 rfl C d_M_isLiving_9 (by decide) (fun h => ?_) (fun h => absurd (show nI 0 = 0 by decide) h)
    refine bv_iconst (v := nI 0) 26 rfl C d_M_isLiving_25 (by decide) ?_
    exact bv_zreturn C rfl (Or.inl rfl) d_M_isLiving_26 (Nat.le_refl _) (Nat.le_refl _) ⟨rfl, rfl, rfl, rfl⟩
theorem ct_M_delete (hN : 323 ≤ N) (hm : w 305 = mO ad th 0 wr cu 0) {x : Int32} : bK l dd y_M_delete 2 43 0 0 [.ref (ad 305), .int x] ad w N (bMp ad N (fun t v => t = nI 0 ∧ v = some (.int (nI 0)))) bNo := by
  refine bK.start [(0, .ref (ad 305)), (1, .int x)] (by decide) t4_6 (Nat.le_of_ble_eq_true rfl) rfl (fun p e s m args below meth c A hnm C => ?_)
  refine bv_aload_n 1 rfl C d_M_delete_0 rfl ?_
  refine bv_aload_n 2 rfl C d_M_delete_1 rfl ?_
  refine bv_get 305 16 5 rfl C k_M (by omega) rfl hm (by decide) t3_123 rfl d_M_delete_2 ?_
  refine bv_if_eq 12 8 rfl C d_M_delete_5 (by decide) (fun h => ?_) (fun h => absurd (show (0 : Int32) = 0 by decide) h)
  refine bv_iconst (v := nI 0) 13 rfl C d_M_delete_12 (by decide) ?_
  refine bv_call (rest := []) 16 rfl C d_M_delete_13 (ct_M_says hN hm) i_M_says t1_8 (fun H locs ls hP => bs_V (av := [.int (nI 0)]) 305 C i_M_says t3_187 t3_189 s_38 (by omega) rfl hm rfl (by decide) rfl rfl d_M_delete_13 H locs ls hP) ⟨by first | decide | omega, by first | decide | omega⟩ (by decide) (by decide) (Nat.le_of_ble_eq_true rfl) (fun v ad1 w1 N1 hpo => ?_) (fun x Cn ad' w' N' hth => hth.elim)
  obtain ⟨rfl, rfl, rfl, hv⟩ := hpo
  rcases hv with ⟨-, rfl⟩ | ⟨hz, -⟩
  · refine bv_if_eq 35 19 rfl C d_M_delete_16 (by decide) (fun h => absurd h (show ¬ nI 1 = 0 by decide)) (fun h => ?_)
    refine bv_aload_n 20 rfl C d_M_delete_19 rfl ?_
    refine bv_iload_n 21 rfl C d_M_delete_20 rfl ?_
    refine bv_call (rest := []) 24 rfl C d_M_delete_21 (ct_M_isLiving (w := va_up w 305 (mO ad (nI 0) 0 wr cu 0)) hN (va_up_self _ _ _)) i_M_isLiving t1_8 (fun H locs ls hP => bs_V (av := [.int x]) 305 C i_M_isLiving t4_7 t4_9 s_48 (by omega) rfl (va_up_self _ _ _) rfl (by decide) rfl rfl d_M_delete_21 H locs ls hP) ⟨by first | decide | omega, by first | decide | omega⟩ (by decide) (by decide) (Nat.le_of_ble_eq_true rfl) (fun v ad1 w1 N1 hpo => ?_) (fun x Cn ad' w' N' hth => hth.elim)
    obtain ⟨rfl, rfl, rfl, rfl⟩ := hpo
    refine bv_if_eq 35 27 rfl C d_M_delete_24 (by decide) (fun h => ?_) (fun h => absurd (show nI 0 = 0 by decide) h)
    refine bv_iconst (v := nI 0) 36 rfl C d_M_delete_35 (by decide) ?_
    exact bv_zreturn C rfl (Or.inl rfl) d_M_delete_36 (by decide) (by decide) ⟨rfl, rfl, _, _, _, _, _, va_up_self _ _ _, rfl, rfl⟩
  · exact absurd rfl hz
theorem ct_M_cutAfter (hN : 323 ≤ N) (hm : w 305 = mO ad th ve wr cu dn) {x : Int32} : bK l dd y_M_cutAfter 1 22 0 0 [.ref (ad 305), .int x] ad w N (fun v ad' w' N' => ad = ad' ∧ N = N' ∧ v = none ∧ ((bIn x (nI 0) (nI 1000) ∧ w' = va_up w 305 (mO ad (nI 0) ve wr x dn)) ∨ (¬ bIn x (nI 0) (nI 1000) ∧ w' = va_up w 305 (mO ad (nI 1) ve wr cu dn)))) bNo := by
  refine bK.start [(0, .ref (ad 305)), (1, .int x)] (by decide) t4_26 (Nat.le_of_ble_eq_true rfl) rfl (fun p e s m args below meth c A hnm C => ?_)
  refine bv_aload_n 1 rfl C d_M_cutAfter_0 rfl ?_
  refine bv_iload_n 2 rfl C d_M_cutAfter_1 rfl ?_
  refine bv_iconst (v := nI 0) 3 rfl C d_M_cutAfter_2 (by decide) ?_
  refine bv_sipush (v := nI 1000) 6 rfl C d_M_cutAfter_3 (by decide) ?_
  refine bv_call (rest := [.ref (ad 305)]) 9 rfl C d_M_cutAfter_6 (ct_M_in (x := x) (a := nI 0) (b := nI 1000)) i_M_in t1_8 (fun H locs ls _ => bs_S (av := [.int x, .int (nI 0), .int (nI 1000)]) C i_M_in t3_184 t3_185 t1_8 (by decide) rfl rfl d_M_cutAfter_6 H locs ls) ⟨by first | decide | omega, by first | decide | omega⟩ (by decide) (by decide) (Nat.le_of_ble_eq_true rfl) (fun v ad1 w1 N1 hpo => ?_) (fun x Cn ad' w' N' hth => hth.elim)
  obtain ⟨rfl, rfl, rfl, hv⟩ := hpo
  rcases hv with ⟨hi, rfl⟩ | ⟨hi, rfl⟩
  · refine bv_if_eq 16 12 rfl C d_M_cutAfter_9 (by decide) (fun h => absurd h (show ¬ nI 1 = 0 by decide)) (fun h => ?_)
    refine bv_iconst (v := nI 0) 13 rfl C d_M_cutAfter_12 (by decide) ?_
    refine bv_goto 17 C d_M_cutAfter_13 (by decide) ?_
    refine bv_call (rest := []) 20 rfl C d_M_cutAfter_17 (ct_M_says hN hm) i_M_says t1_8 (fun H locs ls hP => bs_V (av := [.int (nI 0)]) 305 C i_M_says t3_187 t3_189 s_38 (by omega) rfl hm rfl (by decide) rfl rfl d_M_cutAfter_17 H locs ls hP) ⟨by first | decide | omega, by first | decide | omega⟩ (by decide) (by decide) (Nat.le_of_ble_eq_true rfl) (fun v ad1 w1 N1 hpo => ?_) (fun x Cn ad' w' N' hth => hth.elim)
    obtain ⟨rfl, rfl, rfl, hv⟩ := hpo
    rcases hv with ⟨-, rfl⟩ | ⟨hz, -⟩
    · refine bv_if_eq 28 23 rfl C d_M_cutAfter_20 (by decide) (fun h => absurd h (show ¬ nI 1 = 0 by decide)) (fun h => ?_)
      refine bv_aload_n 24 rfl C d_M_cutAfter_23 rfl ?_
      refine bv_iload_n 25 rfl C d_M_cutAfter_24 rfl ?_
      refine bv_put 305 15 28 rfl C k_M (by omega) rfl (va_up_self _ _ _) (by decide) t3_122 rfl rfl rfl (Nat.le_of_ble_eq_true rfl) d_M_cutAfter_25 ?_
      exact bv_return C rfl d_M_cutAfter_28 (by decide) (by decide) ⟨rfl, rfl, rfl, Or.inl ⟨hi, by rw [bu_same]; rfl⟩⟩
    · exact absurd rfl hz
  · refine bv_if_eq 16 12 rfl C d_M_cutAfter_9 (by decide) (fun h => ?_) (fun h => absurd (show nI 0 = 0 by decide) h)
    refine bv_iconst (v := nI 1) 17 rfl C d_M_cutAfter_16 (by decide) ?_
    refine bv_call (rest := []) 20 rfl C d_M_cutAfter_17 (ct_M_says hN hm) i_M_says t1_8 (fun H locs ls hP => bs_V (av := [.int (nI 1)]) 305 C i_M_says t3_187 t3_189 s_38 (by omega) rfl hm rfl (by decide) rfl rfl d_M_cutAfter_17 H locs ls hP) ⟨by first | decide | omega, by first | decide | omega⟩ (by decide) (by decide) (Nat.le_of_ble_eq_true rfl) (fun v ad1 w1 N1 hpo => ?_) (fun x Cn ad' w' N' hth => hth.elim)
    obtain ⟨rfl, rfl, rfl, hv⟩ := hpo
    rcases hv with ⟨hz, -⟩ | ⟨-, rfl⟩
    · exact absurd hz (by decide)
    · refine bv_if_eq 28 23 rfl C d_M_cutAfter_20 (by decide) (fun h => ?_) (fun h => absurd (show nI 0 = 0 by decide) h)
      exact bv_return C rfl d_M_cutAfter_28 (by decide) (by decide) ⟨rfl, rfl, rfl, Or.inr ⟨hi, rfl⟩⟩
theorem ct_M_recover (hN : 323 ≤ N) (hm : w 305 = mO ad th ve wr cu 0) : bK l dd y_M_recover 0 0 0 0 [.ref (ad 305)] ad w N (bMp ad N (fun _ v => v = some (.int (nI 0)))) bNo := by
  refine bK.start [(0, .ref (ad 305))] (by decide) t4_30 (Nat.le_of_ble_eq_true rfl) rfl (fun p e s m args below meth c A hnm C => ?_)
  refine bv_aload_n 1 rfl C d_M_recover_0 rfl ?_
  refine bv_iconst (v := nI 0) 2 rfl C d_M_recover_1 (by decide) ?_
  refine bv_put 305 0 5 rfl C k_M (by omega) rfl hm (by decide) t3_107 rfl rfl rfl (Nat.le_of_ble_eq_true rfl) d_M_recover_2 ?_
  refine bv_aload_n 6 rfl C d_M_recover_5 rfl ?_
  refine bv_get 305 16 9 rfl C k_M (by omega) rfl (va_up_self _ _ _) (by decide) t3_123 rfl d_M_recover_6 ?_
  refine bv_istore_n 10 rfl C d_M_recover_9 (by decide) ?_
  refine bv_aload_n 11 rfl C d_M_recover_10 rfl ?_
  refine bv_get 305 16 14 rfl C k_M (by omega) rfl (va_up_self _ _ _) (by decide) t3_123 rfl d_M_recover_11 ?_
  refine bv_if_eq 22 17 rfl C d_M_recover_14 (by decide) (fun h => ?_) (fun h => absurd (show (0 : Int32) = 0 by decide) h)
  refine bv_aload_n 23 rfl C d_M_recover_22 rfl ?_
  refine bv_iconst (v := nI 0) 24 rfl C d_M_recover_23 (by decide) ?_
  refine bv_put 305 16 27 rfl C k_M (by omega) rfl (va_up_self _ _ _) (by decide) t3_123 rfl rfl rfl (Nat.le_of_ble_eq_true rfl) d_M_recover_24 ?_
  refine bv_iload_n 28 rfl C d_M_recover_27 rfl ?_
  exact bv_zreturn C rfl (Or.inl rfl) d_M_recover_28 (by decide) (by decide) ⟨rfl, rfl, _, _, _, _, _, va_up_self _ _ _, rfl⟩
theorem ct_M_latest (hN : 323 ≤ N) (hm : w 305 = mO ad th 0 wr cu dn) {x y : Int32} : bK l dd y_M_latest 0 0 0 0 [.ref (ad 305), .int x, .int y] ad w N (bMp ad N (fun _ v => v = some (.int (nI 0)))) bNo := by
  refine bK.start [(0, .ref (ad 305)), (1, .int x), (2, .int y)] (by decide) t4_34 (Nat.le_of_ble_eq_true rfl) rfl (fun p e s m args below meth c A hnm C => ?_)
  refine bv_aload_n 1 rfl C d_M_latest_0 rfl ?_
  refine bv_iconst (v := nI 0) 2 rfl C d_M_latest_1 (by decide) ?_
  refine bv_put 305 0 5 rfl C k_M (by omega) rfl hm (by decide) t3_107 rfl rfl rfl (Nat.le_of_ble_eq_true rfl) d_M_latest_2 ?_
  refine bv_aload_n 6 rfl C d_M_latest_5 rfl ?_
  refine bv_get 305 8 9 rfl C k_M (by omega) rfl (va_up_self _ _ _) (by decide) t3_115 rfl d_M_latest_6 ?_
  refine bv_istore_n 10 rfl C d_M_latest_9 (by decide) ?_
  refine bv_iload_n 11 rfl C d_M_latest_10 rfl ?_
  refine bv_if_le 51 14 rfl C d_M_latest_11 (by decide) (fun h => ?_) (fun h => absurd (show (0 : Int32) ≤ 0 by decide) h)
  refine bv_iconst (v := nI 0) 52 rfl C d_M_latest_51 (by decide) ?_
  exact bv_ireturn C rfl d_M_latest_52 (Nat.le_refl _) (Nat.le_refl _) ⟨rfl, rfl, _, _, _, _, _, va_up_self _ _ _, rfl⟩
theorem ct_M_size (hN : 323 ≤ N) (hm : w 305 = mO ad th 0 wr cu dn) {x : Int32} : bK l dd y_M_size 2 43 0 0 [.ref (ad 305), .int x] ad w N (bMp ad N (fun _ v => v = some (.int (-1)))) bNo := by
  refine bK.start [(0, .ref (ad 305)), (1, .int x)] (by decide) t4_38 (Nat.le_of_ble_eq_true rfl) rfl (fun p e s m args below meth c A hnm C => ?_)
  refine bv_aload_n 1 rfl C d_M_size_0 rfl ?_
  refine bv_iconst (v := nI 0) 2 rfl C d_M_size_1 (by decide) ?_
  refine bv_put 305 0 5 rfl C k_M (by omega) rfl hm (by decide) t3_107 rfl rfl rfl (Nat.le_of_ble_eq_true rfl) d_M_size_2 ?_
  refine bv_aload_n 6 rfl C d_M_size_5 rfl ?_
  refine bv_iload_n 7 rfl C d_M_size_6 rfl ?_
  refine bv_call (rest := []) 10 rfl C d_M_size_7 (ct_M_isLiving (w := va_up w 305 (mO ad (nI 0) 0 wr cu dn)) hN (va_up_self _ _ _)) i_M_isLiving t1_8 (fun H locs ls hP => bs_V (av := [.int x]) 305 C i_M_isLiving t4_7 t4_9 s_48 (by omega) rfl (va_up_self _ _ _) rfl (by decide) rfl rfl d_M_size_7 H locs ls hP) ⟨by first | decide | omega, by first | decide | omega⟩ (by decide) (by decide) (Nat.le_of_ble_eq_true rfl) (fun v ad1 w1 N1 hpo => ?_) (fun x Cn ad' w' N' hth => hth.elim)
  obtain ⟨rfl, rfl, rfl, rfl⟩ := hpo
  refine bv_if_ne 15 13 rfl C d_M_size_10 (by decide) (fun h => absurd (show nI 0 = 0 by decide) h) (fun h => ?_)
  refine bv_iconst (v := -1) 14 rfl C d_M_size_13 (by decide) ?_
  exact bv_ireturn C rfl d_M_size_14 (by decide) (by decide) ⟨rfl, rfl, _, _, _, _, _, va_up_self _ _ _, rfl⟩
theorem ct_M_byteAt (hN : 323 ≤ N) (hm : w 305 = mO ad th 0 wr cu dn) {x y : Int32} : bK l dd y_M_byteAt 2 43 0 0 [.ref (ad 305), .int x, .int y] ad w N (bMp ad N (fun _ v => v = some (.int (-1)))) bNo := by
  refine bK.start [(0, .ref (ad 305)), (1, .int x), (2, .int y)] (by decide) t4_42 (Nat.le_of_ble_eq_true rfl) rfl (fun p e s m args below meth c A hnm C => ?_)
  refine bv_aload_n 1 rfl C d_M_byteAt_0 rfl ?_
  refine bv_iconst (v := nI 0) 2 rfl C d_M_byteAt_1 (by decide) ?_
  refine bv_put 305 0 5 rfl C k_M (by omega) rfl hm (by decide) t3_107 rfl rfl rfl (Nat.le_of_ble_eq_true rfl) d_M_byteAt_2 ?_
  refine bv_aload_n 6 rfl C d_M_byteAt_5 rfl ?_
  refine bv_iload_n 7 rfl C d_M_byteAt_6 rfl ?_
  refine bv_call (rest := []) 10 rfl C d_M_byteAt_7 (ct_M_isLiving (w := va_up w 305 (mO ad (nI 0) 0 wr cu dn)) hN (va_up_self _ _ _)) i_M_isLiving t1_8 (fun H locs ls hP => bs_V (av := [.int x]) 305 C i_M_isLiving t4_7 t4_9 s_48 (by omega) rfl (va_up_self _ _ _) rfl (by decide) rfl rfl d_M_byteAt_7 H locs ls hP) ⟨by first | decide | omega, by first | decide | omega⟩ (by decide) (by decide) (Nat.le_of_ble_eq_true rfl) (fun v ad1 w1 N1 hpo => ?_) (fun x Cn ad' w' N' hth => hth.elim)
  obtain ⟨rfl, rfl, rfl, rfl⟩ := hpo
  refine bv_if_eq 17 13 rfl C d_M_byteAt_10 (by decide) (fun h => ?_) (fun h => absurd (show nI 0 = 0 by decide) h)
  refine bv_iconst (v := -1) 18 rfl C d_M_byteAt_17 (by decide) ?_
  exact bv_ireturn C rfl d_M_byteAt_18 (by decide) (by decide) ⟨rfl, rfl, _, _, _, _, _, va_up_self _ _ _, rfl⟩
theorem ct_M_hasChunk (hN : 323 ≤ N) (hm : w 305 = mO ad th ve wr cu dn) (hz : w 306 = aI dd 48 (fun _ => 0)) {x : Int32} : bK l dd y_M_hasChunk 1 22 0 0 [.ref (ad 305), .int x] ad w N (bSame ad w N (fun v => v = some (.int (nI 0)))) bNo := by
  refine bK.start [(0, .ref (ad 305)), (1, .int x)] (by decide) t4_50 (Nat.le_of_ble_eq_true rfl) rfl (fun p e s m args below meth c A hnm C => ?_)
  refine bv_iload_n 1 rfl C d_M_hasChunk_0 rfl ?_
  refine bv_iconst (v := nI 0) 2 rfl C d_M_hasChunk_1 (by decide) ?_
  refine bv_bipush (v := nI 47) 4 rfl C d_M_hasChunk_2 (by decide) ?_
  refine bv_call (rest := []) 7 rfl C d_M_hasChunk_4 (ct_M_in (x := x) (a := nI 0) (b := nI 47)) i_M_in t1_8 (fun H locs ls _ => bs_S (av := [.int x, .int (nI 0), .int (nI 47)]) C i_M_in t3_184 t3_185 t1_8 (by decide) rfl rfl d_M_hasChunk_4 H locs ls) ⟨by first | decide | omega, by first | decide | omega⟩ (by decide) (by decide) (Nat.le_of_ble_eq_true rfl) (fun v ad1 w1 N1 hpo => ?_) (fun x Cn ad' w' N' hth => hth.elim)
  obtain ⟨rfl, rfl, rfl, hv⟩ := hpo
  rcases hv with ⟨hi, rfl⟩ | ⟨hi, rfl⟩
  · obtain ⟨i, hi5, rfl⟩ : ∃ i : Nat, i < 48 ∧ x = nI i := by
      rcases pk_ix x (show 48 < 2 ^ 31 by decide) with h | h | h
      · exact absurd h hi.1
      · exfalso
        refine hi.2 ?_
        rw [Int32.le_iff_toInt_le] at h
        rw [Int32.lt_iff_toInt_lt]
        have : (nI 48).toInt = 48 := rfl
        have : (nI 47).toInt = 47 := rfl
        omega
      · exact h
    refine bv_if_eq 23 10 rfl C d_M_hasChunk_7 (by decide) (fun h => absurd h (show ¬ nI 1 = 0 by decide)) (fun h => ?_)
    refine bv_aload_n 11 rfl C d_M_hasChunk_10 rfl ?_
    refine bv_get 305 1 14 rfl C k_M (by omega) rfl hm (by decide) t3_108 rfl d_M_hasChunk_11 ?_
    refine bv_iload_n 15 rfl C d_M_hasChunk_14 rfl ?_
    refine bv_iald 306 i 16 rfl C (by omega) rfl hz rfl hi5 (by decide) d_M_hasChunk_15 ?_
    refine bv_if_le 23 19 rfl C d_M_hasChunk_16 (by decide) (fun h => ?_) (fun h => absurd (show (0 : Int32) ≤ 0 by decide) h)
    refine bv_iconst (v := nI 0) 24 rfl C d_M_hasChunk_23 (by decide) ?_
    exact bv_zreturn C rfl (Or.inl rfl) d_M_hasChunk_24 (Nat.le_refl _) (Nat.le_refl _) ⟨rfl, rfl, rfl, rfl⟩
  · refine bv_if_eq 23 10 rfl C d_M_hasChunk_7 (by decide) (fun h => ?_) (fun h => absurd (show nI 0 = 0 by decide) h)
    refine bv_iconst (v := nI 0) 24 rfl C d_M_hasChunk_23 (by decide) ?_
    exact bv_zreturn C rfl (Or.inl rfl) d_M_hasChunk_24 (Nat.le_refl _) (Nat.le_refl _) ⟨rfl, rfl, rfl, rfl⟩
theorem ct_M_address (hN : 323 ≤ N) (hm : w 305 = mO ad th ve wr cu dn) (hz : w 306 = aI dd 48 (fun _ => 0)) {x y : Int32} : bK l dd y_M_address 2 43 0 0 [.ref (ad 305), .int x, .int y] ad w N (bMp ad N (fun t v => t = nI 1 ∧ ∃ r : Int32, v = some (.int r))) bNo := by
  refine bK.start [(0, .ref (ad 305)), (1, .int x), (2, .int y)] (by decide) t4_46 (Nat.le_of_ble_eq_true rfl) rfl (fun p e s m args below meth c A hnm C => ?_)
  refine bv_aload_n 1 rfl C d_M_address_0 rfl ?_
  refine bv_aload_n 2 rfl C d_M_address_1 rfl ?_
  refine bv_iload_n 3 rfl C d_M_address_2 rfl ?_
  refine bv_call (rest := [.ref (ad 305)]) 6 rfl C d_M_address_3 (ct_M_hasChunk hN hm hz) i_M_hasChunk t1_8 (fun H locs ls hP => bs_V (av := [.int x]) 305 C i_M_hasChunk t4_47 t4_49 s_51 (by omega) rfl hm rfl (by decide) rfl rfl d_M_address_3 H locs ls hP) ⟨by first | decide | omega, by first | decide | omega⟩ (by decide) (by decide) (Nat.le_of_ble_eq_true rfl) (fun v ad1 w1 N1 hpo => ?_) (fun x Cn ad' w' N' hth => hth.elim)
  obtain ⟨rfl, rfl, rfl, rfl⟩ := hpo
  refine bv_if_eq 23 9 rfl C d_M_address_6 (by decide) (fun h => ?_) (fun h => absurd (show nI 0 = 0 by decide) h)
  refine bv_iconst (v := nI 1) 24 rfl C d_M_address_23 (by decide) ?_
  refine bv_call (rest := []) 27 rfl C d_M_address_24 (ct_M_says hN hm) i_M_says t1_8 (fun H locs ls hP => bs_V (av := [.int (nI 1)]) 305 C i_M_says t3_187 t3_189 s_38 (by omega) rfl hm rfl (by decide) rfl rfl d_M_address_24 H locs ls hP) ⟨by first | decide | omega, by first | decide | omega⟩ (by decide) (by decide) (Nat.le_of_ble_eq_true rfl) (fun v ad1 w1 N1 hpo => ?_) (fun x Cn ad' w' N' hth => hth.elim)
  obtain ⟨rfl, rfl, rfl, hv⟩ := hpo
  rcases hv with ⟨hz, -⟩ | ⟨-, rfl⟩
  · exact absurd hz (by decide)
  · refine bv_if_ne 32 30 rfl C d_M_address_27 (by decide) (fun h => absurd (show nI 0 = 0 by decide) h) (fun h => ?_)
    refine bv_iconst (v := nI 0) 31 rfl C d_M_address_30 (by decide) ?_
    exact bv_ireturn C rfl d_M_address_31 (by decide) (by decide) ⟨rfl, rfl, _, _, _, _, _, va_up_self _ _ _, rfl, _, rfl⟩
theorem ct_M_needed (hN : 323 ≤ N) (hm : w 305 = mO ad th ve wr cu dn) (hz : w 306 = aI dd 48 (fun _ => 0)) {x : Int32} : bK l dd y_M_needed 2 43 0 0 [.ref (ad 305), .int x] ad w N (bMp ad N (fun _ v => v = some (.int (-1)))) bNo := by
  refine bK.start [(0, .ref (ad 305)), (1, .int x)] (by decide) t4_61 (Nat.le_of_ble_eq_true rfl) rfl (fun p e s m args below meth c A hnm C => ?_)
  refine bv_aload_n 1 rfl C d_M_needed_0 rfl ?_
  refine bv_iconst (v := nI 0) 2 rfl C d_M_needed_1 (by decide) ?_
  refine bv_put 305 0 5 rfl C k_M (by omega) rfl hm (by decide) t3_107 rfl rfl rfl (Nat.le_of_ble_eq_true rfl) d_M_needed_2 ?_
  refine bv_aload_n 6 rfl C d_M_needed_5 rfl ?_
  refine bv_iload_n 7 rfl C d_M_needed_6 rfl ?_
  refine bv_call (rest := []) 10 rfl C d_M_needed_7 (ct_M_hasChunk (w := va_up w 305 (mO ad (nI 0) ve wr cu dn)) hN (va_up_self _ _ _) (by rw [va_up_ne _ _ (by decide)]; exact hz)) i_M_hasChunk t1_8 (fun H locs ls hP => bs_V (av := [.int x]) 305 C i_M_hasChunk t4_47 t4_49 s_51 (by omega) rfl (va_up_self _ _ _) rfl (by decide) rfl rfl d_M_needed_7 H locs ls hP) ⟨by first | decide | omega, by first | decide | omega⟩ (by decide) (by decide) (Nat.le_of_ble_eq_true rfl) (fun v ad1 w1 N1 hpo => ?_) (fun x Cn ad' w' N' hth => hth.elim)
  obtain ⟨rfl, rfl, rfl, rfl⟩ := hpo
  refine bv_if_eq 21 13 rfl C d_M_needed_10 (by decide) (fun h => ?_) (fun h => absurd (show nI 0 = 0 by decide) h)
  refine bv_iconst (v := -1) 22 rfl C d_M_needed_21 (by decide) ?_
  exact bv_ireturn C rfl d_M_needed_22 (by decide) (by decide) ⟨rfl, rfl, _, _, _, _, _, va_up_self _ _ _, rfl⟩
end bMod
end
