section
-- ===== PART A: goes FIRST, ahead of the names: the tables' words, and 'selects' of the private methods out of them =====
/-- a private method of a class that the tables say can be made, by its rows of tables_1 -/
def lw_okq (q : MethodName × Nat) : Prop := (q.1.cls ≠ "java/lang/invoke/MethodHandle" ∧ q.1.cls ≠ "java/lang/invoke/VarHandle") ∧ Cond.instantiable q.1.cls q.2 ∈ tables_1 ∧ Cond.privateMethod q.1 ∈ tables_1 ∧ Cond.instanceMethod q.1 ∈ tables_1
theorem lw_p0 : lw_okq (⟨"BlobStore$Power", "turnOn", "()Z"⟩, 3) := ⟨⟨by decide +kernel, by decide +kernel⟩, List.mem_of_getElem? (i := 29) (by decide +kernel), List.mem_of_getElem? (i := 182) (by decide +kernel), List.mem_of_getElem? (i := 183) (by decide +kernel)⟩
theorem lw_p1 : lw_okq (⟨"BlobStore", "livingVersion", "(I)LBlobStore$Version;"⟩, 10) := ⟨⟨by decide +kernel, by decide +kernel⟩, List.mem_of_getElem? (i := 21) (by decide +kernel), List.mem_of_getElem? (i := 194) (by decide +kernel), List.mem_of_getElem? (i := 195) (by decide +kernel)⟩
theorem lw_p2 : lw_okq (⟨"BlobStore$Chunk", "byteOf", "(I)I"⟩, 3) := ⟨⟨by decide +kernel, by decide +kernel⟩, List.mem_of_getElem? (i := 79) (by decide +kernel), List.mem_of_getElem? (i := 202) (by decide +kernel), List.mem_of_getElem? (i := 203) (by decide +kernel)⟩
theorem lw_p3 : lw_okq (⟨"BlobStore", "hasChunk", "(I)Z"⟩, 10) := ⟨⟨by decide +kernel, by decide +kernel⟩, List.mem_of_getElem? (i := 21) (by decide +kernel), List.mem_of_getElem? (i := 210) (by decide +kernel), List.mem_of_getElem? (i := 211) (by decide +kernel)⟩
theorem lw_p4 : lw_okq (⟨"BlobStore$Chunk", "isFree", "()Z"⟩, 3) := ⟨⟨by decide +kernel, by decide +kernel⟩, List.mem_of_getElem? (i := 79) (by decide +kernel), List.mem_of_getElem? (i := 214) (by decide +kernel), List.mem_of_getElem? (i := 215) (by decide +kernel)⟩
theorem lw_p5 : lw_okq (⟨"BlobStore", "countNeeds", "()V"⟩, 10) := ⟨⟨by decide +kernel, by decide +kernel⟩, List.mem_of_getElem? (i := 21) (by decide +kernel), List.mem_of_getElem? (i := 218) (by decide +kernel), List.mem_of_getElem? (i := 219) (by decide +kernel)⟩
theorem lw_p6 : lw_okq (⟨"BlobStore$Session", "countInto", "([I)V"⟩, 4) := ⟨⟨by decide +kernel, by decide +kernel⟩, List.mem_of_getElem? (i := 96) (by decide +kernel), List.mem_of_getElem? (i := 225) (by decide +kernel), List.mem_of_getElem? (i := 226) (by decide +kernel)⟩
theorem lw_p7 : lw_okq (⟨"BlobStore$Row", "countInto", "([I)V"⟩, 2) := ⟨⟨by decide +kernel, by decide +kernel⟩, List.mem_of_getElem? (i := 64) (by decide +kernel), List.mem_of_getElem? (i := 229) (by decide +kernel), List.mem_of_getElem? (i := 230) (by decide +kernel)⟩
theorem lw_p8 : lw_okq (⟨"BlobStore$Chunk", "fill", "(IJLBlobStore$Sha256;)V"⟩, 3) := ⟨⟨by decide +kernel, by decide +kernel⟩, List.mem_of_getElem? (i := 79) (by decide +kernel), List.mem_of_getElem? (i := 238) (by decide +kernel), List.mem_of_getElem? (i := 239) (by decide +kernel)⟩
theorem lw_p9 : lw_okq (⟨"BlobStore$Sha256", "digest", "(IJ[I)V"⟩, 1) := ⟨⟨by decide +kernel, by decide +kernel⟩, List.mem_of_getElem? (i := 47) (by decide +kernel), List.mem_of_getElem? (i := 243) (by decide +kernel), List.mem_of_getElem? (i := 244) (by decide +kernel)⟩
theorem lw_p10 : lw_okq (⟨"BlobStore$Sha256", "padBlock", "(IJ)V"⟩, 1) := ⟨⟨by decide +kernel, by decide +kernel⟩, List.mem_of_getElem? (i := 47) (by decide +kernel), List.mem_of_getElem? (i := 247) (by decide +kernel), List.mem_of_getElem? (i := 248) (by decide +kernel)⟩
theorem lw_p11 : lw_okq (⟨"BlobStore$Sha256", "expandBlock", "()V"⟩, 1) := ⟨⟨by decide +kernel, by decide +kernel⟩, List.mem_of_getElem? (i := 47) (by decide +kernel), List.mem_of_getElem? (i := 253) (by decide +kernel), List.mem_of_getElem? (i := 254) (by decide +kernel)⟩
theorem lw_p12 : lw_okq (⟨"BlobStore$Sha256", "mixBlock", "([I)V"⟩, 1) := ⟨⟨by decide +kernel, by decide +kernel⟩, List.mem_of_getElem? (i := 47) (by decide +kernel), List.mem_of_getElem? (i := 260) (by decide +kernel), List.mem_of_getElem? (i := 261) (by decide +kernel)⟩
theorem lw_p13 : lw_okq (⟨"BlobStore", "slotWith", "(LBlobStore$Chunk;)I"⟩, 10) := ⟨⟨by decide +kernel, by decide +kernel⟩, List.mem_of_getElem? (i := 21) (by decide +kernel), List.mem_of_getElem? (i := 268) (by decide +kernel), List.mem_of_getElem? (i := 269) (by decide +kernel)⟩
theorem lw_p14 : lw_okq (⟨"BlobStore$Chunk", "isLike", "(LBlobStore$Chunk;)Z"⟩, 3) := ⟨⟨by decide +kernel, by decide +kernel⟩, List.mem_of_getElem? (i := 79) (by decide +kernel), List.mem_of_getElem? (i := 272) (by decide +kernel), List.mem_of_getElem? (i := 273) (by decide +kernel)⟩
theorem lw_p15 : lw_okq (⟨"BlobStore", "countChunks", "()I"⟩, 10) := ⟨⟨by decide +kernel, by decide +kernel⟩, List.mem_of_getElem? (i := 21) (by decide +kernel), List.mem_of_getElem? (i := 280) (by decide +kernel), List.mem_of_getElem? (i := 281) (by decide +kernel)⟩
def lw_privs_1 : List (MethodName × Nat) := [(⟨"BlobStore$Power", "turnOn", "()Z"⟩, 3), (⟨"BlobStore", "livingVersion", "(I)LBlobStore$Version;"⟩, 10), (⟨"BlobStore$Chunk", "byteOf", "(I)I"⟩, 3), (⟨"BlobStore", "hasChunk", "(I)Z"⟩, 10), (⟨"BlobStore$Chunk", "isFree", "()Z"⟩, 3), (⟨"BlobStore", "countNeeds", "()V"⟩, 10), (⟨"BlobStore$Session", "countInto", "([I)V"⟩, 4), (⟨"BlobStore$Row", "countInto", "([I)V"⟩, 2), (⟨"BlobStore$Chunk", "fill", "(IJLBlobStore$Sha256;)V"⟩, 3), (⟨"BlobStore$Sha256", "digest", "(IJ[I)V"⟩, 1), (⟨"BlobStore$Sha256", "padBlock", "(IJ)V"⟩, 1), (⟨"BlobStore$Sha256", "expandBlock", "()V"⟩, 1), (⟨"BlobStore$Sha256", "mixBlock", "([I)V"⟩, 1), (⟨"BlobStore", "slotWith", "(LBlobStore$Chunk;)I"⟩, 10), (⟨"BlobStore$Chunk", "isLike", "(LBlobStore$Chunk;)Z"⟩, 3), (⟨"BlobStore", "countChunks", "()I"⟩, 10)]
theorem lw_r1 : ∀ q ∈ lw_privs_1, lw_okq q := List.forall_mem_cons.mpr ⟨lw_p0, List.forall_mem_cons.mpr ⟨lw_p1, List.forall_mem_cons.mpr ⟨lw_p2, List.forall_mem_cons.mpr ⟨lw_p3, List.forall_mem_cons.mpr ⟨lw_p4, List.forall_mem_cons.mpr ⟨lw_p5, List.forall_mem_cons.mpr ⟨lw_p6, List.forall_mem_cons.mpr ⟨lw_p7, List.forall_mem_cons.mpr ⟨lw_p8, List.forall_mem_cons.mpr ⟨lw_p9, List.forall_mem_cons.mpr ⟨lw_p10, List.forall_mem_cons.mpr ⟨lw_p11, List.forall_mem_cons.mpr ⟨lw_p12, List.forall_mem_cons.mpr ⟨lw_p13, List.forall_mem_cons.mpr ⟨lw_p14, List.forall_mem_cons.mpr ⟨lw_p15, fun _ h => absurd h List.not_mem_nil⟩⟩⟩⟩⟩⟩⟩⟩⟩⟩⟩⟩⟩⟩⟩⟩
theorem lw_p16 : lw_okq (⟨"BlobStore", "countOpenSessions", "()I"⟩, 10) := ⟨⟨by decide +kernel, by decide +kernel⟩, List.mem_of_getElem? (i := 21) (by decide +kernel), List.mem_of_getElem? (i := 284) (by decide +kernel), List.mem_of_getElem? (i := 285) (by decide +kernel)⟩
theorem lw_p17 : lw_okq (⟨"BlobStore", "countLivingVersions", "()I"⟩, 10) := ⟨⟨by decide +kernel, by decide +kernel⟩, List.mem_of_getElem? (i := 21) (by decide +kernel), List.mem_of_getElem? (i := 288) (by decide +kernel), List.mem_of_getElem? (i := 289) (by decide +kernel)⟩
theorem lw_p18 : lw_okq (⟨"BlobStore$Power", "requireOn", "()V"⟩, 3) := ⟨⟨by decide +kernel, by decide +kernel⟩, List.mem_of_getElem? (i := 29) (by decide +kernel), List.mem_of_getElem? (i := 302) (by decide +kernel), List.mem_of_getElem? (i := 303) (by decide +kernel)⟩
theorem lw_p19 : lw_okq (⟨"java/lang/Throwable", "fillInStackTrace", "(I)Ljava/lang/Throwable;"⟩, 6) := ⟨⟨by decide +kernel, by decide +kernel⟩, List.mem_of_getElem? (i := 346) (by decide +kernel), List.mem_of_getElem? (i := 344) (by decide +kernel), List.mem_of_getElem? (i := 345) (by decide +kernel)⟩
theorem lw_p20 : lw_okq (⟨"BlobStore", "leastClosedSession", "()I"⟩, 10) := ⟨⟨by decide +kernel, by decide +kernel⟩, List.mem_of_getElem? (i := 21) (by decide +kernel), List.mem_of_getElem? (i := 376) (by decide +kernel), List.mem_of_getElem? (i := 377) (by decide +kernel)⟩
theorem lw_p21 : lw_okq (⟨"BlobStore$Power", "spendWrite", "()V"⟩, 3) := ⟨⟨by decide +kernel, by decide +kernel⟩, List.mem_of_getElem? (i := 29) (by decide +kernel), List.mem_of_getElem? (i := 399) (by decide +kernel), List.mem_of_getElem? (i := 400) (by decide +kernel)⟩
theorem lw_p22 : lw_okq (⟨"BlobStore$Session", "start", "(II)V"⟩, 4) := ⟨⟨by decide +kernel, by decide +kernel⟩, List.mem_of_getElem? (i := 96) (by decide +kernel), List.mem_of_getElem? (i := 419) (by decide +kernel), List.mem_of_getElem? (i := 420) (by decide +kernel)⟩
theorem lw_p23 : lw_okq (⟨"BlobStore", "openSession", "(I)LBlobStore$Session;"⟩, 10) := ⟨⟨by decide +kernel, by decide +kernel⟩, List.mem_of_getElem? (i := 21) (by decide +kernel), List.mem_of_getElem? (i := 431) (by decide +kernel), List.mem_of_getElem? (i := 432) (by decide +kernel)⟩
theorem lw_p24 : lw_okq (⟨"BlobStore", "cutIntoChunks", "(IJJJ)I"⟩, 10) := ⟨⟨by decide +kernel, by decide +kernel⟩, List.mem_of_getElem? (i := 21) (by decide +kernel), List.mem_of_getElem? (i := 437) (by decide +kernel), List.mem_of_getElem? (i := 438) (by decide +kernel)⟩
theorem lw_p25 : lw_okq (⟨"BlobStore", "planSlots", "(I)V"⟩, 10) := ⟨⟨by decide +kernel, by decide +kernel⟩, List.mem_of_getElem? (i := 21) (by decide +kernel), List.mem_of_getElem? (i := 444) (by decide +kernel), List.mem_of_getElem? (i := 445) (by decide +kernel)⟩
theorem lw_p26 : lw_okq (⟨"BlobStore", "plannedSlot", "(I)I"⟩, 10) := ⟨⟨by decide +kernel, by decide +kernel⟩, List.mem_of_getElem? (i := 21) (by decide +kernel), List.mem_of_getElem? (i := 448) (by decide +kernel), List.mem_of_getElem? (i := 449) (by decide +kernel)⟩
theorem lw_p27 : lw_okq (⟨"BlobStore", "leastFreeSlot", "(I)I"⟩, 10) := ⟨⟨by decide +kernel, by decide +kernel⟩, List.mem_of_getElem? (i := 21) (by decide +kernel), List.mem_of_getElem? (i := 452) (by decide +kernel), List.mem_of_getElem? (i := 453) (by decide +kernel)⟩
theorem lw_p28 : lw_okq (⟨"BlobStore$Row", "add", "(I)V"⟩, 2) := ⟨⟨by decide +kernel, by decide +kernel⟩, List.mem_of_getElem? (i := 64) (by decide +kernel), List.mem_of_getElem? (i := 472) (by decide +kernel), List.mem_of_getElem? (i := 473) (by decide +kernel)⟩
theorem lw_p29 : lw_okq (⟨"BlobStore", "writeChunks", "(I)I"⟩, 10) := ⟨⟨by decide +kernel, by decide +kernel⟩, List.mem_of_getElem? (i := 21) (by decide +kernel), List.mem_of_getElem? (i := 476) (by decide +kernel), List.mem_of_getElem? (i := 477) (by decide +kernel)⟩
theorem lw_p30 : lw_okq (⟨"BlobStore$Chunk", "copyFrom", "(LBlobStore$Chunk;)V"⟩, 3) := ⟨⟨by decide +kernel, by decide +kernel⟩, List.mem_of_getElem? (i := 79) (by decide +kernel), List.mem_of_getElem? (i := 480) (by decide +kernel), List.mem_of_getElem? (i := 481) (by decide +kernel)⟩
theorem lw_p31 : lw_okq (⟨"BlobStore$Row", "copyFrom", "(LBlobStore$Row;)V"⟩, 2) := ⟨⟨by decide +kernel, by decide +kernel⟩, List.mem_of_getElem? (i := 64) (by decide +kernel), List.mem_of_getElem? (i := 487) (by decide +kernel), List.mem_of_getElem? (i := 488) (by decide +kernel)⟩
def lw_privs_2 : List (MethodName × Nat) := [(⟨"BlobStore", "countOpenSessions", "()I"⟩, 10), (⟨"BlobStore", "countLivingVersions", "()I"⟩, 10), (⟨"BlobStore$Power", "requireOn", "()V"⟩, 3), (⟨"java/lang/Throwable", "fillInStackTrace", "(I)Ljava/lang/Throwable;"⟩, 6), (⟨"BlobStore", "leastClosedSession", "()I"⟩, 10), (⟨"BlobStore$Power", "spendWrite", "()V"⟩, 3), (⟨"BlobStore$Session", "start", "(II)V"⟩, 4), (⟨"BlobStore", "openSession", "(I)LBlobStore$Session;"⟩, 10), (⟨"BlobStore", "cutIntoChunks", "(IJJJ)I"⟩, 10), (⟨"BlobStore", "planSlots", "(I)V"⟩, 10), (⟨"BlobStore", "plannedSlot", "(I)I"⟩, 10), (⟨"BlobStore", "leastFreeSlot", "(I)I"⟩, 10), (⟨"BlobStore$Row", "add", "(I)V"⟩, 2), (⟨"BlobStore", "writeChunks", "(I)I"⟩, 10), (⟨"BlobStore$Chunk", "copyFrom", "(LBlobStore$Chunk;)V"⟩, 3), (⟨"BlobStore$Row", "copyFrom", "(LBlobStore$Row;)V"⟩, 2)]
theorem lw_r2 : ∀ q ∈ lw_privs_2, lw_okq q := List.forall_mem_cons.mpr ⟨lw_p16, List.forall_mem_cons.mpr ⟨lw_p17, List.forall_mem_cons.mpr ⟨lw_p18, List.forall_mem_cons.mpr ⟨lw_p19, List.forall_mem_cons.mpr ⟨lw_p20, List.forall_mem_cons.mpr ⟨lw_p21, List.forall_mem_cons.mpr ⟨lw_p22, List.forall_mem_cons.mpr ⟨lw_p23, List.forall_mem_cons.mpr ⟨lw_p24, List.forall_mem_cons.mpr ⟨lw_p25, List.forall_mem_cons.mpr ⟨lw_p26, List.forall_mem_cons.mpr ⟨lw_p27, List.forall_mem_cons.mpr ⟨lw_p28, List.forall_mem_cons.mpr ⟨lw_p29, List.forall_mem_cons.mpr ⟨lw_p30, List.forall_mem_cons.mpr ⟨lw_p31, fun _ h => absurd h List.not_mem_nil⟩⟩⟩⟩⟩⟩⟩⟩⟩⟩⟩⟩⟩⟩⟩⟩
theorem lw_p32 : lw_okq (⟨"BlobStore$Row", "addAll", "(LBlobStore$Row;)V"⟩, 2) := ⟨⟨by decide +kernel, by decide +kernel⟩, List.mem_of_getElem? (i := 64) (by decide +kernel), List.mem_of_getElem? (i := 491) (by decide +kernel), List.mem_of_getElem? (i := 492) (by decide +kernel)⟩
theorem lw_p33 : lw_okq (⟨"BlobStore$Version", "comeFrom", "(LBlobStore$Session;)V"⟩, 4) := ⟨⟨by decide +kernel, by decide +kernel⟩, List.mem_of_getElem? (i := 122) (by decide +kernel), List.mem_of_getElem? (i := 504) (by decide +kernel), List.mem_of_getElem? (i := 505) (by decide +kernel)⟩
theorem lw_p34 : lw_okq (⟨"BlobStore$Chunk", "free", "()V"⟩, 3) := ⟨⟨by decide +kernel, by decide +kernel⟩, List.mem_of_getElem? (i := 79) (by decide +kernel), List.mem_of_getElem? (i := 530) (by decide +kernel), List.mem_of_getElem? (i := 531) (by decide +kernel)⟩
theorem lw_p35 : lw_okq (⟨"BlobStore$Power", "tellCut", "(I)V"⟩, 3) := ⟨⟨by decide +kernel, by decide +kernel⟩, List.mem_of_getElem? (i := 29) (by decide +kernel), List.mem_of_getElem? (i := 542) (by decide +kernel), List.mem_of_getElem? (i := 543) (by decide +kernel)⟩
theorem lw_p36 : lw_okq (⟨"BlobStoreModel", "root", "(II)I"⟩, 22) := ⟨⟨by decide +kernel, by decide +kernel⟩, List.mem_of_getElem? (i := 570) (by decide +kernel), List.mem_of_getElem? (i := 579) (by decide +kernel), List.mem_of_getElem? (i := 580) (by decide +kernel)⟩
theorem lw_p37 : lw_okq (⟨"BlobStoreModel", "isAbove", "(JII)Z"⟩, 22) := ⟨⟨by decide +kernel, by decide +kernel⟩, List.mem_of_getElem? (i := 570) (by decide +kernel), List.mem_of_getElem? (i := 583) (by decide +kernel), List.mem_of_getElem? (i := 584) (by decide +kernel)⟩
theorem lw_p38 : lw_okq (⟨"BlobStoreModel", "says", "(I)Z"⟩, 22) := ⟨⟨by decide +kernel, by decide +kernel⟩, List.mem_of_getElem? (i := 570) (by decide +kernel), List.mem_of_getElem? (i := 668) (by decide +kernel), List.mem_of_getElem? (i := 669) (by decide +kernel)⟩
theorem lw_p39 : lw_okq (⟨"BlobStoreModel", "writes", "(I)Z"⟩, 22) := ⟨⟨by decide +kernel, by decide +kernel⟩, List.mem_of_getElem? (i := 570) (by decide +kernel), List.mem_of_getElem? (i := 672) (by decide +kernel), List.mem_of_getElem? (i := 673) (by decide +kernel)⟩
theorem lw_p40 : lw_okq (⟨"BlobStoreModel", "isOpen", "(I)Z"⟩, 22) := ⟨⟨by decide +kernel, by decide +kernel⟩, List.mem_of_getElem? (i := 570) (by decide +kernel), List.mem_of_getElem? (i := 680) (by decide +kernel), List.mem_of_getElem? (i := 681) (by decide +kernel)⟩
theorem lw_p41 : lw_okq (⟨"BlobStoreModel", "lay", "(JJJ)V"⟩, 22) := ⟨⟨by decide +kernel, by decide +kernel⟩, List.mem_of_getElem? (i := 570) (by decide +kernel), List.mem_of_getElem? (i := 684) (by decide +kernel), List.mem_of_getElem? (i := 685) (by decide +kernel)⟩
theorem lw_p42 : lw_okq (⟨"BlobStoreModel", "missing", "(I)I"⟩, 22) := ⟨⟨by decide +kernel, by decide +kernel⟩, List.mem_of_getElem? (i := 570) (by decide +kernel), List.mem_of_getElem? (i := 689) (by decide +kernel), List.mem_of_getElem? (i := 690) (by decide +kernel)⟩
theorem lw_p43 : lw_okq (⟨"BlobStoreModel", "find", "(II)I"⟩, 22) := ⟨⟨by decide +kernel, by decide +kernel⟩, List.mem_of_getElem? (i := 570) (by decide +kernel), List.mem_of_getElem? (i := 696) (by decide +kernel), List.mem_of_getElem? (i := 697) (by decide +kernel)⟩
theorem lw_p44 : lw_okq (⟨"BlobStoreModel", "isThere", "(III)Z"⟩, 22) := ⟨⟨by decide +kernel, by decide +kernel⟩, List.mem_of_getElem? (i := 570) (by decide +kernel), List.mem_of_getElem? (i := 700) (by decide +kernel), List.mem_of_getElem? (i := 701) (by decide +kernel)⟩
theorem lw_p45 : lw_okq (⟨"BlobStoreModel", "isAlike", "(III)Z"⟩, 22) := ⟨⟨by decide +kernel, by decide +kernel⟩, List.mem_of_getElem? (i := 570) (by decide +kernel), List.mem_of_getElem? (i := 704) (by decide +kernel), List.mem_of_getElem? (i := 705) (by decide +kernel)⟩
theorem lw_p46 : lw_okq (⟨"BlobStoreModel", "freeSlots", "()I"⟩, 22) := ⟨⟨by decide +kernel, by decide +kernel⟩, List.mem_of_getElem? (i := 570) (by decide +kernel), List.mem_of_getElem? (i := 708) (by decide +kernel), List.mem_of_getElem? (i := 709) (by decide +kernel)⟩
theorem lw_p47 : lw_okq (⟨"BlobStoreModel", "firstFree", "()I"⟩, 22) := ⟨⟨by decide +kernel, by decide +kernel⟩, List.mem_of_getElem? (i := 570) (by decide +kernel), List.mem_of_getElem? (i := 712) (by decide +kernel), List.mem_of_getElem? (i := 713) (by decide +kernel)⟩
def lw_privs_3 : List (MethodName × Nat) := [(⟨"BlobStore$Row", "addAll", "(LBlobStore$Row;)V"⟩, 2), (⟨"BlobStore$Version", "comeFrom", "(LBlobStore$Session;)V"⟩, 4), (⟨"BlobStore$Chunk", "free", "()V"⟩, 3), (⟨"BlobStore$Power", "tellCut", "(I)V"⟩, 3), (⟨"BlobStoreModel", "root", "(II)I"⟩, 22), (⟨"BlobStoreModel", "isAbove", "(JII)Z"⟩, 22), (⟨"BlobStoreModel", "says", "(I)Z"⟩, 22), (⟨"BlobStoreModel", "writes", "(I)Z"⟩, 22), (⟨"BlobStoreModel", "isOpen", "(I)Z"⟩, 22), (⟨"BlobStoreModel", "lay", "(JJJ)V"⟩, 22), (⟨"BlobStoreModel", "missing", "(I)I"⟩, 22), (⟨"BlobStoreModel", "find", "(II)I"⟩, 22), (⟨"BlobStoreModel", "isThere", "(III)Z"⟩, 22), (⟨"BlobStoreModel", "isAlike", "(III)Z"⟩, 22), (⟨"BlobStoreModel", "freeSlots", "()I"⟩, 22), (⟨"BlobStoreModel", "firstFree", "()I"⟩, 22)]
theorem lw_r3 : ∀ q ∈ lw_privs_3, lw_okq q := List.forall_mem_cons.mpr ⟨lw_p32, List.forall_mem_cons.mpr ⟨lw_p33, List.forall_mem_cons.mpr ⟨lw_p34, List.forall_mem_cons.mpr ⟨lw_p35, List.forall_mem_cons.mpr ⟨lw_p36, List.forall_mem_cons.mpr ⟨lw_p37, List.forall_mem_cons.mpr ⟨lw_p38, List.forall_mem_cons.mpr ⟨lw_p39, List.forall_mem_cons.mpr ⟨lw_p40, List.forall_mem_cons.mpr ⟨lw_p41, List.forall_mem_cons.mpr ⟨lw_p42, List.forall_mem_cons.mpr ⟨lw_p43, List.forall_mem_cons.mpr ⟨lw_p44, List.forall_mem_cons.mpr ⟨lw_p45, List.forall_mem_cons.mpr ⟨lw_p46, List.forall_mem_cons.mpr ⟨lw_p47, fun _ h => absurd h List.not_mem_nil⟩⟩⟩⟩⟩⟩⟩⟩⟩⟩⟩⟩⟩⟩⟩⟩
theorem lw_p48 : lw_okq (⟨"BlobStoreModel", "isLiving", "(I)Z"⟩, 22) := ⟨⟨by decide +kernel, by decide +kernel⟩, List.mem_of_getElem? (i := 570) (by decide +kernel), List.mem_of_getElem? (i := 728) (by decide +kernel), List.mem_of_getElem? (i := 729) (by decide +kernel)⟩
theorem lw_p49 : lw_okq (⟨"BlobStoreModel", "need", "(I)I"⟩, 22) := ⟨⟨by decide +kernel, by decide +kernel⟩, List.mem_of_getElem? (i := 570) (by decide +kernel), List.mem_of_getElem? (i := 736) (by decide +kernel), List.mem_of_getElem? (i := 737) (by decide +kernel)⟩
theorem lw_p50 : lw_okq (⟨"BlobStoreModel", "slotAt", "(II)I"⟩, 22) := ⟨⟨by decide +kernel, by decide +kernel⟩, List.mem_of_getElem? (i := 570) (by decide +kernel), List.mem_of_getElem? (i := 740) (by decide +kernel), List.mem_of_getElem? (i := 741) (by decide +kernel)⟩
theorem lw_p51 : lw_okq (⟨"BlobStoreModel", "hasChunk", "(I)Z"⟩, 22) := ⟨⟨by decide +kernel, by decide +kernel⟩, List.mem_of_getElem? (i := 570) (by decide +kernel), List.mem_of_getElem? (i := 768) (by decide +kernel), List.mem_of_getElem? (i := 769) (by decide +kernel)⟩
theorem lw_p52 : lw_okq (⟨"BlobStoreModel", "addressOf", "(I)V"⟩, 22) := ⟨⟨by decide +kernel, by decide +kernel⟩, List.mem_of_getElem? (i := 570) (by decide +kernel), List.mem_of_getElem? (i := 772) (by decide +kernel), List.mem_of_getElem? (i := 773) (by decide +kernel)⟩
def lw_privs_4 : List (MethodName × Nat) := [(⟨"BlobStoreModel", "isLiving", "(I)Z"⟩, 22), (⟨"BlobStoreModel", "need", "(I)I"⟩, 22), (⟨"BlobStoreModel", "slotAt", "(II)I"⟩, 22), (⟨"BlobStoreModel", "hasChunk", "(I)Z"⟩, 22), (⟨"BlobStoreModel", "addressOf", "(I)V"⟩, 22)]
theorem lw_r4 : ∀ q ∈ lw_privs_4, lw_okq q := List.forall_mem_cons.mpr ⟨lw_p48, List.forall_mem_cons.mpr ⟨lw_p49, List.forall_mem_cons.mpr ⟨lw_p50, List.forall_mem_cons.mpr ⟨lw_p51, List.forall_mem_cons.mpr ⟨lw_p52, fun _ h => absurd h List.not_mem_nil⟩⟩⟩⟩⟩
def lw_privs : List (MethodName × Nat) := lw_privs_1 ++ (lw_privs_2 ++ (lw_privs_3 ++ (lw_privs_4)))
def lw_tbl : List Cond := k2_sels lw_privs ++ tables_1
theorem lw_privs_ok : ∀ q ∈ lw_privs, lw_okq q := by
  show ∀ q ∈ lw_privs_1 ++ (lw_privs_2 ++ (lw_privs_3 ++ (lw_privs_4))), lw_okq q
  exact List.forall_mem_append.mpr ⟨lw_r1, List.forall_mem_append.mpr ⟨lw_r2, List.forall_mem_append.mpr ⟨lw_r3, lw_r4⟩⟩⟩
end
section
/-! the words, a name each -/
def bGood (w : Cond) : Bool := (w.onTables && w.keeps) || (match w with
  | .arrayClass _ => true
  | _ => false)
def bNestOnly : Cond → Bool
  | .fieldLinkNest .. => true
  | .methodLinkNest .. => true
  | .declares _ => true
  | .castable .. => true
  | _ => false
def Tb : List Cond := lw_tbl.filter bGood
def bNst : List Cond := tables_1.filter bNestOnly
theorem tb_t {w : Cond} (h : w ∈ tables_1) (hg : bGood w = true) : w ∈ Tb := List.mem_filter.mpr ⟨List.mem_append_right _ h, hg⟩
theorem tb_s {q : MethodName × Nat} (h : q ∈ lw_privs) (hg : bGood (Cond.selects q.1.cls q.1 q.1) = true) : Cond.selects q.1.cls q.1 q.1 ∈ Tb := List.mem_filter.mpr ⟨List.mem_append_left _ (List.mem_map.mpr ⟨q, h, rfl⟩), hg⟩
theorem tn_t {w : Cond} (h : w ∈ tables_1) (hg : bNestOnly w = true) : w ∈ bNst := List.mem_filter.mpr ⟨h, hg⟩
theorem tt_1 (i : Nat) {w : Cond} (h : tables_1_1[i]? = some w) : w ∈ tables_1 := List.mem_append_left _ (List.mem_of_getElem? h)
theorem tt_2 (i : Nat) {w : Cond} (h : tables_1_2[i]? = some w) : w ∈ tables_1 := List.mem_append_right _ (List.mem_append_left _ (List.mem_of_getElem? h))
theorem tt_3 (i : Nat) {w : Cond} (h : tables_1_3[i]? = some w) : w ∈ tables_1 := List.mem_append_right _ (List.mem_append_right _ (List.mem_append_left _ (List.mem_of_getElem? h)))
theorem tt_4 (i : Nat) {w : Cond} (h : tables_1_4[i]? = some w) : w ∈ tables_1 := List.mem_append_right _ (List.mem_append_right _ (List.mem_append_right _ (List.mem_of_getElem? h)))
theorem bTb_good : ∀ w ∈ Tb, bGood w = true := fun _ h => (List.mem_filter.mp h).2
theorem bNst_only : ∀ w ∈ bNst, bNestOnly w = true := fun _ h => (List.mem_filter.mp h).2
theorem t1_0 : (Jvm.Cond.initialized "BlobStoreLaw") ∈ Tb := tb_t (tt_1 0 rfl) rfl
theorem t1_1 : (Jvm.Cond.initialized "BlobStore") ∈ Tb := tb_t (tt_1 1 rfl) rfl
theorem t1_2 : (Jvm.Cond.initialized "BlobStore$Power") ∈ Tb := tb_t (tt_1 2 rfl) rfl
theorem t1_3 : (Jvm.Cond.initialized "BlobStore$Sha256") ∈ Tb := tb_t (tt_1 3 rfl) rfl
theorem t1_4 : (Jvm.Cond.initialized "BlobStore$Row") ∈ Tb := tb_t (tt_1 4 rfl) rfl
theorem t1_5 : (Jvm.Cond.initialized "BlobStore$Chunk") ∈ Tb := tb_t (tt_1 5 rfl) rfl
theorem t1_6 : (Jvm.Cond.initialized "BlobStore$Session") ∈ Tb := tb_t (tt_1 6 rfl) rfl
theorem t1_7 : (Jvm.Cond.initialized "BlobStore$Version") ∈ Tb := tb_t (tt_1 7 rfl) rfl
theorem t1_8 : (Jvm.Cond.initialized "BlobStoreModel") ∈ Tb := tb_t (tt_1 8 rfl) rfl
theorem t1_9 : (Jvm.Cond.initialized "java/lang/Throwable") ∈ Tb := tb_t (tt_1 9 rfl) rfl
theorem t1_10 : (Jvm.Cond.initialized "java/lang/Exception") ∈ Tb := tb_t (tt_1 10 rfl) rfl
theorem t1_11 : (Jvm.Cond.initialized "java/lang/RuntimeException") ∈ Tb := tb_t (tt_1 11 rfl) rfl
theorem t1_12 : (Jvm.Cond.initialized "java/lang/IllegalStateException") ∈ Tb := tb_t (tt_1 12 rfl) rfl
theorem t1_13 : (Jvm.Cond.initialized "java/lang/IllegalArgumentException") ∈ Tb := tb_t (tt_1 13 rfl) rfl
theorem t1_14 : (Jvm.Cond.initialized "java/lang/UnsupportedOperationException") ∈ Tb := tb_t (tt_1 14 rfl) rfl
theorem t1_15 : (Jvm.Cond.initialized "java/lang/Math") ∈ Tb := tb_t (tt_1 15 rfl) rfl
theorem t1_16 : (Jvm.Cond.initialized "java/lang/IndexOutOfBoundsException") ∈ Tb := tb_t (tt_1 16 rfl) rfl
theorem t1_17 : (Jvm.Cond.initialized "java/lang/System") ∈ Tb := tb_t (tt_1 17 rfl) rfl
theorem t1_18 : (Jvm.Cond.initialized "java/util/Arrays") ∈ Tb := tb_t (tt_1 18 rfl) rfl
theorem t1_19 : (Jvm.Cond.initialized "java/util/NoSuchElementException") ∈ Tb := tb_t (tt_1 19 rfl) rfl
theorem t1_20 : (Jvm.Cond.classLink "BlobStoreLaw" (8 : Nat) "BlobStore") ∈ Tb := tb_t (tt_1 20 rfl) rfl
theorem t1_21 : (Jvm.Cond.instantiable "BlobStore" (10 : Nat)) ∈ Tb := tb_t (tt_1 21 rfl) rfl
theorem t1_22 : (Jvm.Cond.methodLink "BlobStoreLaw" (49 : Nat) ({ cls := "BlobStore", name := "<init>", desc := "()V" } : Jvm.MethodName)) ∈ Tb := tb_t (tt_1 22 rfl) rfl
theorem t1_23 : (Jvm.Cond.instanceMethod ({ cls := "BlobStore", name := "<init>", desc := "()V" } : Jvm.MethodName)) ∈ Tb := tb_t (tt_1 23 rfl) rfl
theorem t1_24 : (Jvm.Cond.code ({ cls := "BlobStore", name := "<init>", desc := "()V" } : Jvm.MethodName) prog_1_method_1_code (2 : Nat) (Option.none : Option Jvm.ClassFile.FieldType)) ∈ Tb := tb_t (tt_1 24 rfl) rfl
theorem t1_25 : (Jvm.Cond.methodLink "BlobStore" (3 : Nat) ({ cls := "java/lang/Object", name := "<init>", desc := "()V" } : Jvm.MethodName)) ∈ Tb := tb_t (tt_1 25 rfl) rfl
theorem t1_26 : (Jvm.Cond.instanceMethod ({ cls := "java/lang/Object", name := "<init>", desc := "()V" } : Jvm.MethodName)) ∈ Tb := tb_t (tt_1 26 rfl) rfl
theorem t1_27 : (Jvm.Cond.code ({ cls := "java/lang/Object", name := "<init>", desc := "()V" } : Jvm.MethodName) object_method_1_code (1 : Nat) (Option.none : Option Jvm.ClassFile.FieldType)) ∈ Tb := tb_t (tt_1 27 rfl) rfl
theorem t1_28 : (Jvm.Cond.classLink "BlobStore" (9 : Nat) "BlobStore$Power") ∈ Tb := tb_t (tt_1 28 rfl) rfl
theorem t1_29 : (Jvm.Cond.instantiable "BlobStore$Power" (3 : Nat)) ∈ Tb := tb_t (tt_1 29 rfl) rfl
theorem n1_30 : (Jvm.Cond.methodLinkNest "BlobStore" (11 : Nat) ({ cls := "BlobStore$Power", name := "<init>", desc := "()V" } : Jvm.MethodName) "BlobStore") ∈ bNst := tn_t (tt_1 30 rfl) rfl
theorem t1_31 : (Jvm.Cond.instanceMethod ({ cls := "BlobStore$Power", name := "<init>", desc := "()V" } : Jvm.MethodName)) ∈ Tb := tb_t (tt_1 31 rfl) rfl
theorem t1_32 : (Jvm.Cond.code ({ cls := "BlobStore$Power", name := "<init>", desc := "()V" } : Jvm.MethodName) prog_3_method_1_code (1 : Nat) (Option.none : Option Jvm.ClassFile.FieldType)) ∈ Tb := tb_t (tt_1 32 rfl) rfl
theorem t1_33 : (Jvm.Cond.methodLink "BlobStore$Power" (1 : Nat) ({ cls := "java/lang/Object", name := "<init>", desc := "()V" } : Jvm.MethodName)) ∈ Tb := tb_t (tt_1 33 rfl) rfl
theorem t1_34 : (Jvm.Cond.fieldLink "BlobStore$Power" (7 : Nat) "BlobStore$Power" "writes" "I") ∈ Tb := tb_t (tt_1 34 rfl) rfl
theorem n1_35 : (Jvm.Cond.fieldLinkNest "BlobStore" (201 : Nat) "BlobStore$Power" "writes" "I" "BlobStore") ∈ bNst := tn_t (tt_1 35 rfl) rfl
theorem t1_36 : (Jvm.Cond.fieldLink "BlobStore$Power" (13 : Nat) "BlobStore$Power" "writesToCut" "I") ∈ Tb := tb_t (tt_1 36 rfl) rfl
theorem t1_37 : (Jvm.Cond.fieldLink "BlobStore$Power" (16 : Nat) "BlobStore$Power" "gone" "Z") ∈ Tb := tb_t (tt_1 37 rfl) rfl
theorem n1_38 : (Jvm.Cond.fieldLinkNest "BlobStore" (204 : Nat) "BlobStore$Power" "gone" "Z" "BlobStore") ∈ bNst := tn_t (tt_1 38 rfl) rfl
theorem t1_39 : (Jvm.Cond.lays "BlobStore$Power" "BlobStore$Power" "writes" "I") ∈ Tb := tb_t (tt_1 39 rfl) rfl
theorem u1_40 : (Jvm.Cond.soleField "BlobStore$Power" "writes") ∈ tables_1 := tt_1 40 rfl
theorem t1_41 : (Jvm.Cond.lays "BlobStore$Power" "BlobStore$Power" "writesToCut" "I") ∈ Tb := tb_t (tt_1 41 rfl) rfl
theorem u1_42 : (Jvm.Cond.soleField "BlobStore$Power" "writesToCut") ∈ tables_1 := tt_1 42 rfl
theorem t1_43 : (Jvm.Cond.lays "BlobStore$Power" "BlobStore$Power" "gone" "Z") ∈ Tb := tb_t (tt_1 43 rfl) rfl
theorem u1_44 : (Jvm.Cond.soleField "BlobStore$Power" "gone") ∈ tables_1 := tt_1 44 rfl
theorem t1_45 : (Jvm.Cond.superclass "BlobStore$Power" "java/lang/Object") ∈ Tb := tb_t (tt_1 45 rfl) rfl
theorem t1_46 : (Jvm.Cond.classLink "BlobStore" (16 : Nat) "BlobStore$Sha256") ∈ Tb := tb_t (tt_1 46 rfl) rfl
theorem t1_47 : (Jvm.Cond.instantiable "BlobStore$Sha256" (1 : Nat)) ∈ Tb := tb_t (tt_1 47 rfl) rfl
theorem n1_48 : (Jvm.Cond.methodLinkNest "BlobStore" (18 : Nat) ({ cls := "BlobStore$Sha256", name := "<init>", desc := "()V" } : Jvm.MethodName) "BlobStore") ∈ bNst := tn_t (tt_1 48 rfl) rfl
theorem t1_49 : (Jvm.Cond.instanceMethod ({ cls := "BlobStore$Sha256", name := "<init>", desc := "()V" } : Jvm.MethodName)) ∈ Tb := tb_t (tt_1 49 rfl) rfl
theorem t1_50 : (Jvm.Cond.code ({ cls := "BlobStore$Sha256", name := "<init>", desc := "()V" } : Jvm.MethodName) prog_6_method_1_code (1 : Nat) (Option.none : Option Jvm.ClassFile.FieldType)) ∈ Tb := tb_t (tt_1 50 rfl) rfl
theorem t1_51 : (Jvm.Cond.methodLink "BlobStore$Sha256" (3 : Nat) ({ cls := "java/lang/Object", name := "<init>", desc := "()V" } : Jvm.MethodName)) ∈ Tb := tb_t (tt_1 51 rfl) rfl
theorem t1_52 : (Jvm.Cond.fieldLink "BlobStore$Sha256" (11 : Nat) "BlobStore$Sha256" "schedule" "[I") ∈ Tb := tb_t (tt_1 52 rfl) rfl
theorem t1_53 : (Jvm.Cond.laysFinal "BlobStore$Sha256" "BlobStore$Sha256" "schedule" "[I") ∈ Tb := tb_t (tt_1 53 rfl) rfl
theorem u1_54 : (Jvm.Cond.soleField "BlobStore$Sha256" "schedule") ∈ tables_1 := tt_1 54 rfl
theorem t1_55 : (Jvm.Cond.superclass "BlobStore$Sha256" "java/lang/Object") ∈ Tb := tb_t (tt_1 55 rfl) rfl
theorem t1_56 : (Jvm.Cond.arrayClass Jvm.ClassFile.FieldType.int) ∈ Tb := tb_t (tt_1 56 rfl) rfl
theorem t1_57 : (Jvm.Cond.classLink "BlobStore" (23 : Nat) "BlobStore$Chunk") ∈ Tb := tb_t (tt_1 57 rfl) rfl
theorem u1_58 : (Jvm.Cond.arrayOver (Jvm.ClassFile.FieldType.object "BlobStore$Chunk")) ∈ tables_1 := tt_1 58 rfl
theorem t1_59 : (Jvm.Cond.classLink "BlobStore" (29 : Nat) "BlobStore$Session") ∈ Tb := tb_t (tt_1 59 rfl) rfl
theorem u1_60 : (Jvm.Cond.arrayOver (Jvm.ClassFile.FieldType.object "BlobStore$Session")) ∈ tables_1 := tt_1 60 rfl
theorem t1_61 : (Jvm.Cond.classLink "BlobStore" (35 : Nat) "BlobStore$Version") ∈ Tb := tb_t (tt_1 61 rfl) rfl
theorem u1_62 : (Jvm.Cond.arrayOver (Jvm.ClassFile.FieldType.object "BlobStore$Version")) ∈ tables_1 := tt_1 62 rfl
theorem t1_63 : (Jvm.Cond.classLink "BlobStore" (48 : Nat) "BlobStore$Row") ∈ Tb := tb_t (tt_1 63 rfl) rfl
theorem t1_64 : (Jvm.Cond.instantiable "BlobStore$Row" (2 : Nat)) ∈ Tb := tb_t (tt_1 64 rfl) rfl
theorem n1_65 : (Jvm.Cond.methodLinkNest "BlobStore" (50 : Nat) ({ cls := "BlobStore$Row", name := "<init>", desc := "(I)V" } : Jvm.MethodName) "BlobStore") ∈ bNst := tn_t (tt_1 65 rfl) rfl
theorem t1_66 : (Jvm.Cond.instanceMethod ({ cls := "BlobStore$Row", name := "<init>", desc := "(I)V" } : Jvm.MethodName)) ∈ Tb := tb_t (tt_1 66 rfl) rfl
theorem t1_67 : (Jvm.Cond.code ({ cls := "BlobStore$Row", name := "<init>", desc := "(I)V" } : Jvm.MethodName) prog_4_method_1_code (2 : Nat) (Option.none : Option Jvm.ClassFile.FieldType)) ∈ Tb := tb_t (tt_1 67 rfl) rfl
theorem t1_68 : (Jvm.Cond.methodLink "BlobStore$Row" (1 : Nat) ({ cls := "java/lang/Object", name := "<init>", desc := "()V" } : Jvm.MethodName)) ∈ Tb := tb_t (tt_1 68 rfl) rfl
theorem t1_69 : (Jvm.Cond.fieldLink "BlobStore$Row" (13 : Nat) "BlobStore$Row" "slots" "[I") ∈ Tb := tb_t (tt_1 69 rfl) rfl
theorem n1_70 : (Jvm.Cond.fieldLinkNest "BlobStore" (166 : Nat) "BlobStore$Row" "slots" "[I" "BlobStore") ∈ bNst := tn_t (tt_1 70 rfl) rfl
theorem t1_71 : (Jvm.Cond.fieldLink "BlobStore$Row" (7 : Nat) "BlobStore$Row" "length" "I") ∈ Tb := tb_t (tt_1 71 rfl) rfl
theorem n1_72 : (Jvm.Cond.fieldLinkNest "BlobStore$Session" (31 : Nat) "BlobStore$Row" "length" "I" "BlobStore") ∈ bNst := tn_t (tt_1 72 rfl) rfl
theorem n1_73 : (Jvm.Cond.fieldLinkNest "BlobStore" (163 : Nat) "BlobStore$Row" "length" "I" "BlobStore") ∈ bNst := tn_t (tt_1 73 rfl) rfl
theorem t1_74 : (Jvm.Cond.laysFinal "BlobStore$Row" "BlobStore$Row" "slots" "[I") ∈ Tb := tb_t (tt_1 74 rfl) rfl
theorem u1_75 : (Jvm.Cond.soleField "BlobStore$Row" "slots") ∈ tables_1 := tt_1 75 rfl
theorem t1_76 : (Jvm.Cond.lays "BlobStore$Row" "BlobStore$Row" "length" "I") ∈ Tb := tb_t (tt_1 76 rfl) rfl
theorem u1_77 : (Jvm.Cond.soleField "BlobStore$Row" "length") ∈ tables_1 := tt_1 77 rfl
theorem t1_78 : (Jvm.Cond.superclass "BlobStore$Row" "java/lang/Object") ∈ Tb := tb_t (tt_1 78 rfl) rfl
theorem t1_79 : (Jvm.Cond.instantiable "BlobStore$Chunk" (3 : Nat)) ∈ Tb := tb_t (tt_1 79 rfl) rfl
theorem n1_80 : (Jvm.Cond.methodLinkNest "BlobStore" (57 : Nat) ({ cls := "BlobStore$Chunk", name := "<init>", desc := "()V" } : Jvm.MethodName) "BlobStore") ∈ bNst := tn_t (tt_1 80 rfl) rfl
theorem t1_81 : (Jvm.Cond.instanceMethod ({ cls := "BlobStore$Chunk", name := "<init>", desc := "()V" } : Jvm.MethodName)) ∈ Tb := tb_t (tt_1 81 rfl) rfl
theorem t1_82 : (Jvm.Cond.code ({ cls := "BlobStore$Chunk", name := "<init>", desc := "()V" } : Jvm.MethodName) prog_2_method_1_code (1 : Nat) (Option.none : Option Jvm.ClassFile.FieldType)) ∈ Tb := tb_t (tt_1 82 rfl) rfl
theorem t1_83 : (Jvm.Cond.methodLink "BlobStore$Chunk" (3 : Nat) ({ cls := "java/lang/Object", name := "<init>", desc := "()V" } : Jvm.MethodName)) ∈ Tb := tb_t (tt_1 83 rfl) rfl
theorem t1_84 : (Jvm.Cond.fieldLink "BlobStore$Chunk" (9 : Nat) "BlobStore$Chunk" "length" "I") ∈ Tb := tb_t (tt_1 84 rfl) rfl
theorem n1_85 : (Jvm.Cond.fieldLinkNest "BlobStore" (168 : Nat) "BlobStore$Chunk" "length" "I" "BlobStore") ∈ bNst := tn_t (tt_1 85 rfl) rfl
theorem t1_86 : (Jvm.Cond.fieldLink "BlobStore$Chunk" (15 : Nat) "BlobStore$Chunk" "bytes" "J") ∈ Tb := tb_t (tt_1 86 rfl) rfl
theorem t1_87 : (Jvm.Cond.fieldLink "BlobStore$Chunk" (19 : Nat) "BlobStore$Chunk" "address" "[I") ∈ Tb := tb_t (tt_1 87 rfl) rfl
theorem n1_88 : (Jvm.Cond.fieldLinkNest "BlobStore" (181 : Nat) "BlobStore$Chunk" "address" "[I" "BlobStore") ∈ bNst := tn_t (tt_1 88 rfl) rfl
theorem t1_89 : (Jvm.Cond.lays "BlobStore$Chunk" "BlobStore$Chunk" "length" "I") ∈ Tb := tb_t (tt_1 89 rfl) rfl
theorem u1_90 : (Jvm.Cond.soleField "BlobStore$Chunk" "length") ∈ tables_1 := tt_1 90 rfl
theorem t1_91 : (Jvm.Cond.lays "BlobStore$Chunk" "BlobStore$Chunk" "bytes" "J") ∈ Tb := tb_t (tt_1 91 rfl) rfl
theorem u1_92 : (Jvm.Cond.soleField "BlobStore$Chunk" "bytes") ∈ tables_1 := tt_1 92 rfl
theorem t1_93 : (Jvm.Cond.laysFinal "BlobStore$Chunk" "BlobStore$Chunk" "address" "[I") ∈ Tb := tb_t (tt_1 93 rfl) rfl
theorem u1_94 : (Jvm.Cond.soleField "BlobStore$Chunk" "address") ∈ tables_1 := tt_1 94 rfl
theorem t1_95 : (Jvm.Cond.superclass "BlobStore$Chunk" "java/lang/Object") ∈ Tb := tb_t (tt_1 95 rfl) rfl
theorem t1_96 : (Jvm.Cond.instantiable "BlobStore$Session" (4 : Nat)) ∈ Tb := tb_t (tt_1 96 rfl) rfl
theorem n1_97 : (Jvm.Cond.methodLinkNest "BlobStore" (66 : Nat) ({ cls := "BlobStore$Session", name := "<init>", desc := "()V" } : Jvm.MethodName) "BlobStore") ∈ bNst := tn_t (tt_1 97 rfl) rfl
theorem t1_98 : (Jvm.Cond.instanceMethod ({ cls := "BlobStore$Session", name := "<init>", desc := "()V" } : Jvm.MethodName)) ∈ Tb := tb_t (tt_1 98 rfl) rfl
theorem t1_99 : (Jvm.Cond.code ({ cls := "BlobStore$Session", name := "<init>", desc := "()V" } : Jvm.MethodName) prog_5_method_1_code (2 : Nat) (Option.none : Option Jvm.ClassFile.FieldType)) ∈ Tb := tb_t (tt_1 99 rfl) rfl
theorem t1_100 : (Jvm.Cond.methodLink "BlobStore$Session" (3 : Nat) ({ cls := "java/lang/Object", name := "<init>", desc := "()V" } : Jvm.MethodName)) ∈ Tb := tb_t (tt_1 100 rfl) rfl
theorem t1_101 : (Jvm.Cond.classLink "BlobStore$Session" (22 : Nat) "BlobStore$Row") ∈ Tb := tb_t (tt_1 101 rfl) rfl
theorem u1_102 : (Jvm.Cond.arrayOver (Jvm.ClassFile.FieldType.object "BlobStore$Row")) ∈ tables_1 := tt_1 102 rfl
theorem n1_103 : (Jvm.Cond.methodLinkNest "BlobStore$Session" (28 : Nat) ({ cls := "BlobStore$Row", name := "<init>", desc := "(I)V" } : Jvm.MethodName) "BlobStore") ∈ bNst := tn_t (tt_1 103 rfl) rfl
theorem t1_104 : (Jvm.Cond.fieldLink "BlobStore$Session" (9 : Nat) "BlobStore$Session" "open" "Z") ∈ Tb := tb_t (tt_1 104 rfl) rfl
theorem n1_105 : (Jvm.Cond.fieldLinkNest "BlobStore" (125 : Nat) "BlobStore$Session" "open" "Z" "BlobStore") ∈ bNst := tn_t (tt_1 105 rfl) rfl
theorem t1_106 : (Jvm.Cond.fieldLink "BlobStore$Session" (15 : Nat) "BlobStore$Session" "bucket" "I") ∈ Tb := tb_t (tt_1 106 rfl) rfl
theorem n1_107 : (Jvm.Cond.fieldLinkNest "BlobStore$Version" (31 : Nat) "BlobStore$Session" "bucket" "I" "BlobStore") ∈ bNst := tn_t (tt_1 107 rfl) rfl
theorem t1_108 : (Jvm.Cond.fieldLink "BlobStore$Session" (19 : Nat) "BlobStore$Session" "key" "I") ∈ Tb := tb_t (tt_1 108 rfl) rfl
theorem n1_109 : (Jvm.Cond.fieldLinkNest "BlobStore$Version" (34 : Nat) "BlobStore$Session" "key" "I" "BlobStore") ∈ bNst := tn_t (tt_1 109 rfl) rfl
theorem t1_110 : (Jvm.Cond.fieldLink "BlobStore$Session" (24 : Nat) "BlobStore$Session" "parts" "[LBlobStore$Row;") ∈ Tb := tb_t (tt_1 110 rfl) rfl
theorem n1_111 : (Jvm.Cond.fieldLinkNest "BlobStore$Version" (35 : Nat) "BlobStore$Session" "parts" "[LBlobStore$Row;" "BlobStore") ∈ bNst := tn_t (tt_1 111 rfl) rfl
theorem n1_112 : (Jvm.Cond.fieldLinkNest "BlobStore" (111 : Nat) "BlobStore$Session" "parts" "[LBlobStore$Row;" "BlobStore") ∈ bNst := tn_t (tt_1 112 rfl) rfl
theorem t1_113 : (Jvm.Cond.lays "BlobStore$Session" "BlobStore$Session" "open" "Z") ∈ Tb := tb_t (tt_1 113 rfl) rfl
theorem u1_114 : (Jvm.Cond.soleField "BlobStore$Session" "open") ∈ tables_1 := tt_1 114 rfl
theorem t1_115 : (Jvm.Cond.lays "BlobStore$Session" "BlobStore$Session" "bucket" "I") ∈ Tb := tb_t (tt_1 115 rfl) rfl
theorem u1_116 : (Jvm.Cond.soleField "BlobStore$Session" "bucket") ∈ tables_1 := tt_1 116 rfl
theorem t1_117 : (Jvm.Cond.lays "BlobStore$Session" "BlobStore$Session" "key" "I") ∈ Tb := tb_t (tt_1 117 rfl) rfl
theorem u1_118 : (Jvm.Cond.soleField "BlobStore$Session" "key") ∈ tables_1 := tt_1 118 rfl
theorem t1_119 : (Jvm.Cond.laysFinal "BlobStore$Session" "BlobStore$Session" "parts" "[LBlobStore$Row;") ∈ Tb := tb_t (tt_1 119 rfl) rfl
theorem u1_120 : (Jvm.Cond.soleField "BlobStore$Session" "parts") ∈ tables_1 := tt_1 120 rfl
theorem t1_121 : (Jvm.Cond.superclass "BlobStore$Session" "java/lang/Object") ∈ Tb := tb_t (tt_1 121 rfl) rfl
theorem t1_122 : (Jvm.Cond.instantiable "BlobStore$Version" (4 : Nat)) ∈ Tb := tb_t (tt_1 122 rfl) rfl
theorem n1_123 : (Jvm.Cond.methodLinkNest "BlobStore" (67 : Nat) ({ cls := "BlobStore$Version", name := "<init>", desc := "()V" } : Jvm.MethodName) "BlobStore") ∈ bNst := tn_t (tt_1 123 rfl) rfl
theorem t1_124 : (Jvm.Cond.instanceMethod ({ cls := "BlobStore$Version", name := "<init>", desc := "()V" } : Jvm.MethodName)) ∈ Tb := tb_t (tt_1 124 rfl) rfl
theorem t1_125 : (Jvm.Cond.code ({ cls := "BlobStore$Version", name := "<init>", desc := "()V" } : Jvm.MethodName) prog_7_method_1_code (1 : Nat) (Option.none : Option Jvm.ClassFile.FieldType)) ∈ Tb := tb_t (tt_1 125 rfl) rfl
theorem t1_126 : (Jvm.Cond.methodLink "BlobStore$Version" (3 : Nat) ({ cls := "java/lang/Object", name := "<init>", desc := "()V" } : Jvm.MethodName)) ∈ Tb := tb_t (tt_1 126 rfl) rfl
theorem t1_127 : (Jvm.Cond.classLink "BlobStore$Version" (22 : Nat) "BlobStore$Row") ∈ Tb := tb_t (tt_1 127 rfl) rfl
theorem n1_128 : (Jvm.Cond.methodLinkNest "BlobStore$Version" (24 : Nat) ({ cls := "BlobStore$Row", name := "<init>", desc := "(I)V" } : Jvm.MethodName) "BlobStore") ∈ bNst := tn_t (tt_1 128 rfl) rfl
theorem t1_129 : (Jvm.Cond.fieldLink "BlobStore$Version" (9 : Nat) "BlobStore$Version" "lives" "Z") ∈ Tb := tb_t (tt_1 129 rfl) rfl
theorem n1_130 : (Jvm.Cond.fieldLinkNest "BlobStore" (133 : Nat) "BlobStore$Version" "lives" "Z" "BlobStore") ∈ bNst := tn_t (tt_1 130 rfl) rfl
theorem t1_131 : (Jvm.Cond.fieldLink "BlobStore$Version" (15 : Nat) "BlobStore$Version" "bucket" "I") ∈ Tb := tb_t (tt_1 131 rfl) rfl
theorem n1_132 : (Jvm.Cond.fieldLinkNest "BlobStore" (154 : Nat) "BlobStore$Version" "bucket" "I" "BlobStore") ∈ bNst := tn_t (tt_1 132 rfl) rfl
theorem t1_133 : (Jvm.Cond.fieldLink "BlobStore$Version" (19 : Nat) "BlobStore$Version" "key" "I") ∈ Tb := tb_t (tt_1 133 rfl) rfl
theorem n1_134 : (Jvm.Cond.fieldLinkNest "BlobStore" (157 : Nat) "BlobStore$Version" "key" "I" "BlobStore") ∈ bNst := tn_t (tt_1 134 rfl) rfl
theorem t1_135 : (Jvm.Cond.fieldLink "BlobStore$Version" (27 : Nat) "BlobStore$Version" "row" "LBlobStore$Row;") ∈ Tb := tb_t (tt_1 135 rfl) rfl
theorem n1_136 : (Jvm.Cond.fieldLinkNest "BlobStore" (160 : Nat) "BlobStore$Version" "row" "LBlobStore$Row;" "BlobStore") ∈ bNst := tn_t (tt_1 136 rfl) rfl
theorem t1_137 : (Jvm.Cond.lays "BlobStore$Version" "BlobStore$Version" "lives" "Z") ∈ Tb := tb_t (tt_1 137 rfl) rfl
theorem u1_138 : (Jvm.Cond.soleField "BlobStore$Version" "lives") ∈ tables_1 := tt_1 138 rfl
theorem t1_139 : (Jvm.Cond.lays "BlobStore$Version" "BlobStore$Version" "bucket" "I") ∈ Tb := tb_t (tt_1 139 rfl) rfl
theorem u1_140 : (Jvm.Cond.soleField "BlobStore$Version" "bucket") ∈ tables_1 := tt_1 140 rfl
theorem t1_141 : (Jvm.Cond.lays "BlobStore$Version" "BlobStore$Version" "key" "I") ∈ Tb := tb_t (tt_1 141 rfl) rfl
theorem u1_142 : (Jvm.Cond.soleField "BlobStore$Version" "key") ∈ tables_1 := tt_1 142 rfl
theorem t1_143 : (Jvm.Cond.laysFinal "BlobStore$Version" "BlobStore$Version" "row" "LBlobStore$Row;") ∈ Tb := tb_t (tt_1 143 rfl) rfl
theorem u1_144 : (Jvm.Cond.soleField "BlobStore$Version" "row") ∈ tables_1 := tt_1 144 rfl
theorem t1_145 : (Jvm.Cond.superclass "BlobStore$Version" "java/lang/Object") ∈ Tb := tb_t (tt_1 145 rfl) rfl
theorem t1_146 : (Jvm.Cond.fieldLink "BlobStore" (12 : Nat) "BlobStore" "power" "LBlobStore$Power;") ∈ Tb := tb_t (tt_1 146 rfl) rfl
theorem t1_147 : (Jvm.Cond.fieldLink "BlobStore" (19 : Nat) "BlobStore" "sha256" "LBlobStore$Sha256;") ∈ Tb := tb_t (tt_1 147 rfl) rfl
theorem t1_148 : (Jvm.Cond.fieldLink "BlobStore" (25 : Nat) "BlobStore" "slots" "[LBlobStore$Chunk;") ∈ Tb := tb_t (tt_1 148 rfl) rfl
theorem t1_149 : (Jvm.Cond.fieldLink "BlobStore" (31 : Nat) "BlobStore" "sessions" "[LBlobStore$Session;") ∈ Tb := tb_t (tt_1 149 rfl) rfl
theorem t1_150 : (Jvm.Cond.fieldLink "BlobStore" (37 : Nat) "BlobStore" "versions" "[LBlobStore$Version;") ∈ Tb := tb_t (tt_1 150 rfl) rfl
theorem t1_151 : (Jvm.Cond.fieldLink "BlobStore" (41 : Nat) "BlobStore" "versionsEver" "I") ∈ Tb := tb_t (tt_1 151 rfl) rfl
theorem t1_152 : (Jvm.Cond.fieldLink "BlobStore" (45 : Nat) "BlobStore" "incoming" "[LBlobStore$Chunk;") ∈ Tb := tb_t (tt_1 152 rfl) rfl
theorem t1_153 : (Jvm.Cond.fieldLink "BlobStore" (53 : Nat) "BlobStore" "incomingSlots" "LBlobStore$Row;") ∈ Tb := tb_t (tt_1 153 rfl) rfl
theorem t1_154 : (Jvm.Cond.fieldLink "BlobStore" (58 : Nat) "BlobStore" "wanted" "LBlobStore$Chunk;") ∈ Tb := tb_t (tt_1 154 rfl) rfl
theorem t1_155 : (Jvm.Cond.fieldLink "BlobStore" (62 : Nat) "BlobStore" "needs" "[I") ∈ Tb := tb_t (tt_1 155 rfl) rfl
theorem t1_156 : (Jvm.Cond.laysFinal "BlobStore" "BlobStore" "power" "LBlobStore$Power;") ∈ Tb := tb_t (tt_1 156 rfl) rfl
theorem u1_157 : (Jvm.Cond.soleField "BlobStore" "power") ∈ tables_1 := tt_1 157 rfl
theorem t1_158 : (Jvm.Cond.laysFinal "BlobStore" "BlobStore" "sha256" "LBlobStore$Sha256;") ∈ Tb := tb_t (tt_1 158 rfl) rfl
theorem u1_159 : (Jvm.Cond.soleField "BlobStore" "sha256") ∈ tables_1 := tt_1 159 rfl
theorem t1_160 : (Jvm.Cond.laysFinal "BlobStore" "BlobStore" "slots" "[LBlobStore$Chunk;") ∈ Tb := tb_t (tt_1 160 rfl) rfl
theorem u1_161 : (Jvm.Cond.soleField "BlobStore" "slots") ∈ tables_1 := tt_1 161 rfl
theorem t1_162 : (Jvm.Cond.laysFinal "BlobStore" "BlobStore" "sessions" "[LBlobStore$Session;") ∈ Tb := tb_t (tt_1 162 rfl) rfl
theorem u1_163 : (Jvm.Cond.soleField "BlobStore" "sessions") ∈ tables_1 := tt_1 163 rfl
theorem t1_164 : (Jvm.Cond.laysFinal "BlobStore" "BlobStore" "versions" "[LBlobStore$Version;") ∈ Tb := tb_t (tt_1 164 rfl) rfl
theorem u1_165 : (Jvm.Cond.soleField "BlobStore" "versions") ∈ tables_1 := tt_1 165 rfl
theorem t1_166 : (Jvm.Cond.lays "BlobStore" "BlobStore" "versionsEver" "I") ∈ Tb := tb_t (tt_1 166 rfl) rfl
theorem u1_167 : (Jvm.Cond.soleField "BlobStore" "versionsEver") ∈ tables_1 := tt_1 167 rfl
theorem t1_168 : (Jvm.Cond.laysFinal "BlobStore" "BlobStore" "incoming" "[LBlobStore$Chunk;") ∈ Tb := tb_t (tt_1 168 rfl) rfl
theorem u1_169 : (Jvm.Cond.soleField "BlobStore" "incoming") ∈ tables_1 := tt_1 169 rfl
theorem t1_170 : (Jvm.Cond.laysFinal "BlobStore" "BlobStore" "incomingSlots" "LBlobStore$Row;") ∈ Tb := tb_t (tt_1 170 rfl) rfl
theorem u1_171 : (Jvm.Cond.soleField "BlobStore" "incomingSlots") ∈ tables_1 := tt_1 171 rfl
theorem t1_172 : (Jvm.Cond.laysFinal "BlobStore" "BlobStore" "wanted" "LBlobStore$Chunk;") ∈ Tb := tb_t (tt_1 172 rfl) rfl
theorem u1_173 : (Jvm.Cond.soleField "BlobStore" "wanted") ∈ tables_1 := tt_1 173 rfl
theorem t1_174 : (Jvm.Cond.laysFinal "BlobStore" "BlobStore" "needs" "[I") ∈ Tb := tb_t (tt_1 174 rfl) rfl
theorem u1_175 : (Jvm.Cond.soleField "BlobStore" "needs") ∈ tables_1 := tt_1 175 rfl
theorem t1_176 : (Jvm.Cond.superclass "BlobStore" "java/lang/Object") ∈ Tb := tb_t (tt_1 176 rfl) rfl
theorem t1_177 : (Jvm.Cond.methodLink "BlobStoreLaw" (86 : Nat) ({ cls := "BlobStore", name := "recover", desc := "()Z" } : Jvm.MethodName)) ∈ Tb := tb_t (tt_1 177 rfl) rfl
theorem t1_178 : (Jvm.Cond.instanceMethod ({ cls := "BlobStore", name := "recover", desc := "()Z" } : Jvm.MethodName)) ∈ Tb := tb_t (tt_1 178 rfl) rfl
theorem t1_179 : (Jvm.Cond.selects "BlobStore" ({ cls := "BlobStore", name := "recover", desc := "()Z" } : Jvm.MethodName) ({ cls := "BlobStore", name := "recover", desc := "()Z" } : Jvm.MethodName)) ∈ Tb := tb_t (tt_1 179 rfl) rfl
theorem t1_180 : (Jvm.Cond.code ({ cls := "BlobStore", name := "recover", desc := "()Z" } : Jvm.MethodName) prog_1_method_9_code (1 : Nat) (Option.some Jvm.ClassFile.FieldType.boolean)) ∈ Tb := tb_t (tt_1 180 rfl) rfl
theorem n1_181 : (Jvm.Cond.methodLinkNest "BlobStore" (151 : Nat) ({ cls := "BlobStore$Power", name := "turnOn", desc := "()Z" } : Jvm.MethodName) "BlobStore") ∈ bNst := tn_t (tt_1 181 rfl) rfl
theorem u1_182 : (Jvm.Cond.privateMethod ({ cls := "BlobStore$Power", name := "turnOn", desc := "()Z" } : Jvm.MethodName)) ∈ tables_1 := tt_1 182 rfl
theorem t1_183 : (Jvm.Cond.instanceMethod ({ cls := "BlobStore$Power", name := "turnOn", desc := "()Z" } : Jvm.MethodName)) ∈ Tb := tb_t (tt_1 183 rfl) rfl
theorem t1_184 : (Jvm.Cond.code ({ cls := "BlobStore$Power", name := "turnOn", desc := "()Z" } : Jvm.MethodName) prog_3_method_5_code (1 : Nat) (Option.some Jvm.ClassFile.FieldType.boolean)) ∈ Tb := tb_t (tt_1 184 rfl) rfl
theorem t1_185 : (Jvm.Cond.methodLink "BlobStoreLaw" (91 : Nat) ({ cls := "BlobStore", name := "latest", desc := "(II)I" } : Jvm.MethodName)) ∈ Tb := tb_t (tt_1 185 rfl) rfl
theorem t1_186 : (Jvm.Cond.instanceMethod ({ cls := "BlobStore", name := "latest", desc := "(II)I" } : Jvm.MethodName)) ∈ Tb := tb_t (tt_1 186 rfl) rfl
theorem t1_187 : (Jvm.Cond.selects "BlobStore" ({ cls := "BlobStore", name := "latest", desc := "(II)I" } : Jvm.MethodName) ({ cls := "BlobStore", name := "latest", desc := "(II)I" } : Jvm.MethodName)) ∈ Tb := tb_t (tt_1 187 rfl) rfl
theorem t1_188 : (Jvm.Cond.code ({ cls := "BlobStore", name := "latest", desc := "(II)I" } : Jvm.MethodName) prog_1_method_10_code (5 : Nat) (Option.some Jvm.ClassFile.FieldType.int)) ∈ Tb := tb_t (tt_1 188 rfl) rfl
theorem t1_189 : (Jvm.Cond.methodLink "BlobStoreLaw" (95 : Nat) ({ cls := "BlobStore", name := "size", desc := "(I)I" } : Jvm.MethodName)) ∈ Tb := tb_t (tt_1 189 rfl) rfl
theorem t1_190 : (Jvm.Cond.instanceMethod ({ cls := "BlobStore", name := "size", desc := "(I)I" } : Jvm.MethodName)) ∈ Tb := tb_t (tt_1 190 rfl) rfl
theorem t1_191 : (Jvm.Cond.selects "BlobStore" ({ cls := "BlobStore", name := "size", desc := "(I)I" } : Jvm.MethodName) ({ cls := "BlobStore", name := "size", desc := "(I)I" } : Jvm.MethodName)) ∈ Tb := tb_t (tt_1 191 rfl) rfl
theorem t1_192 : (Jvm.Cond.code ({ cls := "BlobStore", name := "size", desc := "(I)I" } : Jvm.MethodName) prog_1_method_11_code (5 : Nat) (Option.some Jvm.ClassFile.FieldType.int)) ∈ Tb := tb_t (tt_1 192 rfl) rfl
theorem t1_193 : (Jvm.Cond.methodLink "BlobStore" (129 : Nat) ({ cls := "BlobStore", name := "livingVersion", desc := "(I)LBlobStore$Version;" } : Jvm.MethodName)) ∈ Tb := tb_t (tt_1 193 rfl) rfl
theorem u1_194 : (Jvm.Cond.privateMethod ({ cls := "BlobStore", name := "livingVersion", desc := "(I)LBlobStore$Version;" } : Jvm.MethodName)) ∈ tables_1 := tt_1 194 rfl
theorem t1_195 : (Jvm.Cond.instanceMethod ({ cls := "BlobStore", name := "livingVersion", desc := "(I)LBlobStore$Version;" } : Jvm.MethodName)) ∈ Tb := tb_t (tt_1 195 rfl) rfl
theorem t1_196 : (Jvm.Cond.code ({ cls := "BlobStore", name := "livingVersion", desc := "(I)LBlobStore$Version;" } : Jvm.MethodName) prog_1_method_19_code (2 : Nat) (Option.some (Jvm.ClassFile.FieldType.object "BlobStore$Version"))) ∈ Tb := tb_t (tt_1 196 rfl) rfl
theorem t1_197 : (Jvm.Cond.methodLink "BlobStoreLaw" (99 : Nat) ({ cls := "BlobStore", name := "byteAt", desc := "(II)I" } : Jvm.MethodName)) ∈ Tb := tb_t (tt_1 197 rfl) rfl
theorem t1_198 : (Jvm.Cond.instanceMethod ({ cls := "BlobStore", name := "byteAt", desc := "(II)I" } : Jvm.MethodName)) ∈ Tb := tb_t (tt_1 198 rfl) rfl
theorem t1_199 : (Jvm.Cond.selects "BlobStore" ({ cls := "BlobStore", name := "byteAt", desc := "(II)I" } : Jvm.MethodName) ({ cls := "BlobStore", name := "byteAt", desc := "(II)I" } : Jvm.MethodName)) ∈ Tb := tb_t (tt_1 199 rfl) rfl
theorem t1_200 : (Jvm.Cond.code ({ cls := "BlobStore", name := "byteAt", desc := "(II)I" } : Jvm.MethodName) prog_1_method_12_code (7 : Nat) (Option.some Jvm.ClassFile.FieldType.int)) ∈ Tb := tb_t (tt_1 200 rfl) rfl
theorem n1_201 : (Jvm.Cond.methodLinkNest "BlobStore" (169 : Nat) ({ cls := "BlobStore$Chunk", name := "byteOf", desc := "(I)I" } : Jvm.MethodName) "BlobStore") ∈ bNst := tn_t (tt_1 201 rfl) rfl
theorem u1_202 : (Jvm.Cond.privateMethod ({ cls := "BlobStore$Chunk", name := "byteOf", desc := "(I)I" } : Jvm.MethodName)) ∈ tables_1 := tt_1 202 rfl
theorem t1_203 : (Jvm.Cond.instanceMethod ({ cls := "BlobStore$Chunk", name := "byteOf", desc := "(I)I" } : Jvm.MethodName)) ∈ Tb := tb_t (tt_1 203 rfl) rfl
theorem t1_204 : (Jvm.Cond.code ({ cls := "BlobStore$Chunk", name := "byteOf", desc := "(I)I" } : Jvm.MethodName) prog_2_method_7_code (2 : Nat) (Option.some Jvm.ClassFile.FieldType.int)) ∈ Tb := tb_t (tt_1 204 rfl) rfl
theorem t1_205 : (Jvm.Cond.methodLink "BlobStoreLaw" (106 : Nat) ({ cls := "BlobStore", name := "needed", desc := "(I)I" } : Jvm.MethodName)) ∈ Tb := tb_t (tt_1 205 rfl) rfl
theorem t1_206 : (Jvm.Cond.instanceMethod ({ cls := "BlobStore", name := "needed", desc := "(I)I" } : Jvm.MethodName)) ∈ Tb := tb_t (tt_1 206 rfl) rfl
theorem t1_207 : (Jvm.Cond.selects "BlobStore" ({ cls := "BlobStore", name := "needed", desc := "(I)I" } : Jvm.MethodName) ({ cls := "BlobStore", name := "needed", desc := "(I)I" } : Jvm.MethodName)) ∈ Tb := tb_t (tt_1 207 rfl) rfl
theorem t1_208 : (Jvm.Cond.code ({ cls := "BlobStore", name := "needed", desc := "(I)I" } : Jvm.MethodName) prog_1_method_14_code (2 : Nat) (Option.some Jvm.ClassFile.FieldType.int)) ∈ Tb := tb_t (tt_1 208 rfl) rfl
theorem t1_209 : (Jvm.Cond.methodLink "BlobStore" (172 : Nat) ({ cls := "BlobStore", name := "hasChunk", desc := "(I)Z" } : Jvm.MethodName)) ∈ Tb := tb_t (tt_1 209 rfl) rfl
theorem u1_210 : (Jvm.Cond.privateMethod ({ cls := "BlobStore", name := "hasChunk", desc := "(I)Z" } : Jvm.MethodName)) ∈ tables_1 := tt_1 210 rfl
theorem t1_211 : (Jvm.Cond.instanceMethod ({ cls := "BlobStore", name := "hasChunk", desc := "(I)Z" } : Jvm.MethodName)) ∈ Tb := tb_t (tt_1 211 rfl) rfl
theorem t1_212 : (Jvm.Cond.code ({ cls := "BlobStore", name := "hasChunk", desc := "(I)Z" } : Jvm.MethodName) prog_1_method_20_code (2 : Nat) (Option.some Jvm.ClassFile.FieldType.boolean)) ∈ Tb := tb_t (tt_1 212 rfl) rfl
theorem n1_213 : (Jvm.Cond.methodLinkNest "BlobStore" (139 : Nat) ({ cls := "BlobStore$Chunk", name := "isFree", desc := "()Z" } : Jvm.MethodName) "BlobStore") ∈ bNst := tn_t (tt_1 213 rfl) rfl
theorem u1_214 : (Jvm.Cond.privateMethod ({ cls := "BlobStore$Chunk", name := "isFree", desc := "()Z" } : Jvm.MethodName)) ∈ tables_1 := tt_1 214 rfl
theorem t1_215 : (Jvm.Cond.instanceMethod ({ cls := "BlobStore$Chunk", name := "isFree", desc := "()Z" } : Jvm.MethodName)) ∈ Tb := tb_t (tt_1 215 rfl) rfl
theorem t1_216 : (Jvm.Cond.code ({ cls := "BlobStore$Chunk", name := "isFree", desc := "()Z" } : Jvm.MethodName) prog_2_method_2_code (1 : Nat) (Option.some Jvm.ClassFile.FieldType.boolean)) ∈ Tb := tb_t (tt_1 216 rfl) rfl
theorem t1_217 : (Jvm.Cond.methodLink "BlobStore" (136 : Nat) ({ cls := "BlobStore", name := "countNeeds", desc := "()V" } : Jvm.MethodName)) ∈ Tb := tb_t (tt_1 217 rfl) rfl
theorem u1_218 : (Jvm.Cond.privateMethod ({ cls := "BlobStore", name := "countNeeds", desc := "()V" } : Jvm.MethodName)) ∈ tables_1 := tt_1 218 rfl
theorem t1_219 : (Jvm.Cond.instanceMethod ({ cls := "BlobStore", name := "countNeeds", desc := "()V" } : Jvm.MethodName)) ∈ Tb := tb_t (tt_1 219 rfl) rfl
theorem t1_220 : (Jvm.Cond.code ({ cls := "BlobStore", name := "countNeeds", desc := "()V" } : Jvm.MethodName) prog_1_method_27_code (2 : Nat) (Option.none : Option Jvm.ClassFile.FieldType)) ∈ Tb := tb_t (tt_1 220 rfl) rfl
theorem t1_221 : (Jvm.Cond.methodLink "BlobStore" (236 : Nat) ({ cls := "java/util/Arrays", name := "fill", desc := "([II)V" } : Jvm.MethodName)) ∈ Tb := tb_t (tt_1 221 rfl) rfl
theorem t1_222 : (Jvm.Cond.static ({ cls := "java/util/Arrays", name := "fill", desc := "([II)V" } : Jvm.MethodName)) ∈ Tb := tb_t (tt_1 222 rfl) rfl
theorem t1_223 : (Jvm.Cond.code ({ cls := "java/util/Arrays", name := "fill", desc := "([II)V" } : Jvm.MethodName) prog_20_method_103_code (4 : Nat) (Option.none : Option Jvm.ClassFile.FieldType)) ∈ Tb := tb_t (tt_1 223 rfl) rfl
theorem n1_224 : (Jvm.Cond.methodLinkNest "BlobStore" (241 : Nat) ({ cls := "BlobStore$Session", name := "countInto", desc := "([I)V" } : Jvm.MethodName) "BlobStore") ∈ bNst := tn_t (tt_1 224 rfl) rfl
theorem u1_225 : (Jvm.Cond.privateMethod ({ cls := "BlobStore$Session", name := "countInto", desc := "([I)V" } : Jvm.MethodName)) ∈ tables_1 := tt_1 225 rfl
theorem t1_226 : (Jvm.Cond.instanceMethod ({ cls := "BlobStore$Session", name := "countInto", desc := "([I)V" } : Jvm.MethodName)) ∈ Tb := tb_t (tt_1 226 rfl) rfl
theorem t1_227 : (Jvm.Cond.code ({ cls := "BlobStore$Session", name := "countInto", desc := "([I)V" } : Jvm.MethodName) prog_5_method_3_code (3 : Nat) (Option.none : Option Jvm.ClassFile.FieldType)) ∈ Tb := tb_t (tt_1 227 rfl) rfl
theorem n1_228 : (Jvm.Cond.methodLinkNest "BlobStore$Session" (34 : Nat) ({ cls := "BlobStore$Row", name := "countInto", desc := "([I)V" } : Jvm.MethodName) "BlobStore") ∈ bNst := tn_t (tt_1 228 rfl) rfl
theorem u1_229 : (Jvm.Cond.privateMethod ({ cls := "BlobStore$Row", name := "countInto", desc := "([I)V" } : Jvm.MethodName)) ∈ tables_1 := tt_1 229 rfl
theorem t1_230 : (Jvm.Cond.instanceMethod ({ cls := "BlobStore$Row", name := "countInto", desc := "([I)V" } : Jvm.MethodName)) ∈ Tb := tb_t (tt_1 230 rfl) rfl
theorem t1_231 : (Jvm.Cond.code ({ cls := "BlobStore$Row", name := "countInto", desc := "([I)V" } : Jvm.MethodName) prog_4_method_5_code (3 : Nat) (Option.none : Option Jvm.ClassFile.FieldType)) ∈ Tb := tb_t (tt_1 231 rfl) rfl
theorem n1_232 : (Jvm.Cond.methodLinkNest "BlobStore" (245 : Nat) ({ cls := "BlobStore$Row", name := "countInto", desc := "([I)V" } : Jvm.MethodName) "BlobStore") ∈ bNst := tn_t (tt_1 232 rfl) rfl
theorem t1_233 : (Jvm.Cond.methodLink "BlobStoreLaw" (110 : Nat) ({ cls := "BlobStore", name := "slotOf", desc := "(IJ)I" } : Jvm.MethodName)) ∈ Tb := tb_t (tt_1 233 rfl) rfl
theorem t1_234 : (Jvm.Cond.instanceMethod ({ cls := "BlobStore", name := "slotOf", desc := "(IJ)I" } : Jvm.MethodName)) ∈ Tb := tb_t (tt_1 234 rfl) rfl
theorem t1_235 : (Jvm.Cond.selects "BlobStore" ({ cls := "BlobStore", name := "slotOf", desc := "(IJ)I" } : Jvm.MethodName) ({ cls := "BlobStore", name := "slotOf", desc := "(IJ)I" } : Jvm.MethodName)) ∈ Tb := tb_t (tt_1 235 rfl) rfl
theorem t1_236 : (Jvm.Cond.code ({ cls := "BlobStore", name := "slotOf", desc := "(IJ)I" } : Jvm.MethodName) prog_1_method_15_code (4 : Nat) (Option.some Jvm.ClassFile.FieldType.int)) ∈ Tb := tb_t (tt_1 236 rfl) rfl
theorem n1_237 : (Jvm.Cond.methodLinkNest "BlobStore" (184 : Nat) ({ cls := "BlobStore$Chunk", name := "fill", desc := "(IJLBlobStore$Sha256;)V" } : Jvm.MethodName) "BlobStore") ∈ bNst := tn_t (tt_1 237 rfl) rfl
theorem u1_238 : (Jvm.Cond.privateMethod ({ cls := "BlobStore$Chunk", name := "fill", desc := "(IJLBlobStore$Sha256;)V" } : Jvm.MethodName)) ∈ tables_1 := tt_1 238 rfl
theorem t1_239 : (Jvm.Cond.instanceMethod ({ cls := "BlobStore$Chunk", name := "fill", desc := "(IJLBlobStore$Sha256;)V" } : Jvm.MethodName)) ∈ Tb := tb_t (tt_1 239 rfl) rfl
theorem t2_0 : (Jvm.Cond.code ({ cls := "BlobStore$Chunk", name := "fill", desc := "(IJLBlobStore$Sha256;)V" } : Jvm.MethodName) prog_2_method_4_code (5 : Nat) (Option.none : Option Jvm.ClassFile.FieldType)) ∈ Tb := tb_t (tt_2 0 rfl) rfl
theorem t2_1 : (Jvm.Cond.constantLong "BlobStore$Chunk" (23 : Nat) (-1 : Int64)) ∈ Tb := tb_t (tt_2 1 rfl) rfl
theorem n2_2 : (Jvm.Cond.methodLinkNest "BlobStore$Chunk" (25 : Nat) ({ cls := "BlobStore$Sha256", name := "digest", desc := "(IJ[I)V" } : Jvm.MethodName) "BlobStore") ∈ bNst := tn_t (tt_2 2 rfl) rfl
theorem u2_3 : (Jvm.Cond.privateMethod ({ cls := "BlobStore$Sha256", name := "digest", desc := "(IJ[I)V" } : Jvm.MethodName)) ∈ tables_1 := tt_2 3 rfl
theorem t2_4 : (Jvm.Cond.instanceMethod ({ cls := "BlobStore$Sha256", name := "digest", desc := "(IJ[I)V" } : Jvm.MethodName)) ∈ Tb := tb_t (tt_2 4 rfl) rfl
theorem t2_5 : (Jvm.Cond.code ({ cls := "BlobStore$Sha256", name := "digest", desc := "(IJ[I)V" } : Jvm.MethodName) prog_6_method_2_code (5 : Nat) (Option.none : Option Jvm.ClassFile.FieldType)) ∈ Tb := tb_t (tt_2 5 rfl) rfl
theorem t2_6 : (Jvm.Cond.methodLink "BlobStore$Sha256" (15 : Nat) ({ cls := "BlobStore$Sha256", name := "padBlock", desc := "(IJ)V" } : Jvm.MethodName)) ∈ Tb := tb_t (tt_2 6 rfl) rfl
theorem u2_7 : (Jvm.Cond.privateMethod ({ cls := "BlobStore$Sha256", name := "padBlock", desc := "(IJ)V" } : Jvm.MethodName)) ∈ tables_1 := tt_2 7 rfl
theorem t2_8 : (Jvm.Cond.instanceMethod ({ cls := "BlobStore$Sha256", name := "padBlock", desc := "(IJ)V" } : Jvm.MethodName)) ∈ Tb := tb_t (tt_2 8 rfl) rfl
theorem t2_9 : (Jvm.Cond.code ({ cls := "BlobStore$Sha256", name := "padBlock", desc := "(IJ)V" } : Jvm.MethodName) prog_6_method_3_code (7 : Nat) (Option.none : Option Jvm.ClassFile.FieldType)) ∈ Tb := tb_t (tt_2 9 rfl) rfl
theorem t2_10 : (Jvm.Cond.constantLong "BlobStore$Sha256" (26 : Nat) (128 : Int64)) ∈ Tb := tb_t (tt_2 10 rfl) rfl
theorem t2_11 : (Jvm.Cond.constant "BlobStore$Sha256" (28 : Nat) (-2147483648 : Int32)) ∈ Tb := tb_t (tt_2 11 rfl) rfl
theorem t2_12 : (Jvm.Cond.methodLink "BlobStore$Sha256" (19 : Nat) ({ cls := "BlobStore$Sha256", name := "expandBlock", desc := "()V" } : Jvm.MethodName)) ∈ Tb := tb_t (tt_2 12 rfl) rfl
theorem u2_13 : (Jvm.Cond.privateMethod ({ cls := "BlobStore$Sha256", name := "expandBlock", desc := "()V" } : Jvm.MethodName)) ∈ tables_1 := tt_2 13 rfl
theorem t2_14 : (Jvm.Cond.instanceMethod ({ cls := "BlobStore$Sha256", name := "expandBlock", desc := "()V" } : Jvm.MethodName)) ∈ Tb := tb_t (tt_2 14 rfl) rfl
theorem t2_15 : (Jvm.Cond.code ({ cls := "BlobStore$Sha256", name := "expandBlock", desc := "()V" } : Jvm.MethodName) prog_6_method_4_code (6 : Nat) (Option.none : Option Jvm.ClassFile.FieldType)) ∈ Tb := tb_t (tt_2 15 rfl) rfl
theorem t2_16 : (Jvm.Cond.methodLink "BlobStore$Sha256" (29 : Nat) ({ cls := "BlobStore$Sha256", name := "turnRight", desc := "(II)I" } : Jvm.MethodName)) ∈ Tb := tb_t (tt_2 16 rfl) rfl
theorem t2_17 : (Jvm.Cond.static ({ cls := "BlobStore$Sha256", name := "turnRight", desc := "(II)I" } : Jvm.MethodName)) ∈ Tb := tb_t (tt_2 17 rfl) rfl
theorem t2_18 : (Jvm.Cond.code ({ cls := "BlobStore$Sha256", name := "turnRight", desc := "(II)I" } : Jvm.MethodName) prog_6_method_6_code (2 : Nat) (Option.some Jvm.ClassFile.FieldType.int)) ∈ Tb := tb_t (tt_2 18 rfl) rfl
theorem t2_19 : (Jvm.Cond.methodLink "BlobStore$Sha256" (22 : Nat) ({ cls := "BlobStore$Sha256", name := "mixBlock", desc := "([I)V" } : Jvm.MethodName)) ∈ Tb := tb_t (tt_2 19 rfl) rfl
theorem u2_20 : (Jvm.Cond.privateMethod ({ cls := "BlobStore$Sha256", name := "mixBlock", desc := "([I)V" } : Jvm.MethodName)) ∈ tables_1 := tt_2 20 rfl
theorem t2_21 : (Jvm.Cond.instanceMethod ({ cls := "BlobStore$Sha256", name := "mixBlock", desc := "([I)V" } : Jvm.MethodName)) ∈ Tb := tb_t (tt_2 21 rfl) rfl
theorem t2_22 : (Jvm.Cond.code ({ cls := "BlobStore$Sha256", name := "mixBlock", desc := "([I)V" } : Jvm.MethodName) prog_6_method_5_code (16 : Nat) (Option.none : Option Jvm.ClassFile.FieldType)) ∈ Tb := tb_t (tt_2 22 rfl) rfl
theorem t2_23 : (Jvm.Cond.fieldLink "BlobStore$Sha256" (33 : Nat) "BlobStore$Sha256" "FIRST_HASH" "[I") ∈ Tb := tb_t (tt_2 23 rfl) rfl
theorem u2_24 : (Jvm.Cond.laysStatic "BlobStore$Sha256" "FIRST_HASH" "[I") ∈ tables_1 := tt_2 24 rfl
theorem t2_25 : (Jvm.Cond.fieldLink "BlobStore$Sha256" (36 : Nat) "BlobStore$Sha256" "ROUND_WORDS" "[I") ∈ Tb := tb_t (tt_2 25 rfl) rfl
theorem u2_26 : (Jvm.Cond.laysStatic "BlobStore$Sha256" "ROUND_WORDS" "[I") ∈ tables_1 := tt_2 26 rfl
theorem t2_27 : (Jvm.Cond.methodLink "BlobStore" (188 : Nat) ({ cls := "BlobStore", name := "slotWith", desc := "(LBlobStore$Chunk;)I" } : Jvm.MethodName)) ∈ Tb := tb_t (tt_2 27 rfl) rfl
theorem u2_28 : (Jvm.Cond.privateMethod ({ cls := "BlobStore", name := "slotWith", desc := "(LBlobStore$Chunk;)I" } : Jvm.MethodName)) ∈ tables_1 := tt_2 28 rfl
theorem t2_29 : (Jvm.Cond.instanceMethod ({ cls := "BlobStore", name := "slotWith", desc := "(LBlobStore$Chunk;)I" } : Jvm.MethodName)) ∈ Tb := tb_t (tt_2 29 rfl) rfl
theorem t2_30 : (Jvm.Cond.code ({ cls := "BlobStore", name := "slotWith", desc := "(LBlobStore$Chunk;)I" } : Jvm.MethodName) prog_1_method_21_code (3 : Nat) (Option.some Jvm.ClassFile.FieldType.int)) ∈ Tb := tb_t (tt_2 30 rfl) rfl
theorem n2_31 : (Jvm.Cond.methodLinkNest "BlobStore" (209 : Nat) ({ cls := "BlobStore$Chunk", name := "isLike", desc := "(LBlobStore$Chunk;)Z" } : Jvm.MethodName) "BlobStore") ∈ bNst := tn_t (tt_2 31 rfl) rfl
theorem u2_32 : (Jvm.Cond.privateMethod ({ cls := "BlobStore$Chunk", name := "isLike", desc := "(LBlobStore$Chunk;)Z" } : Jvm.MethodName)) ∈ tables_1 := tt_2 32 rfl
theorem t2_33 : (Jvm.Cond.instanceMethod ({ cls := "BlobStore$Chunk", name := "isLike", desc := "(LBlobStore$Chunk;)Z" } : Jvm.MethodName)) ∈ Tb := tb_t (tt_2 33 rfl) rfl
theorem t2_34 : (Jvm.Cond.code ({ cls := "BlobStore$Chunk", name := "isLike", desc := "(LBlobStore$Chunk;)Z" } : Jvm.MethodName) prog_2_method_6_code (3 : Nat) (Option.some Jvm.ClassFile.FieldType.boolean)) ∈ Tb := tb_t (tt_2 34 rfl) rfl
theorem t2_35 : (Jvm.Cond.methodLink "BlobStoreLaw" (115 : Nat) ({ cls := "BlobStore", name := "state", desc := "(I)I" } : Jvm.MethodName)) ∈ Tb := tb_t (tt_2 35 rfl) rfl
theorem t2_36 : (Jvm.Cond.instanceMethod ({ cls := "BlobStore", name := "state", desc := "(I)I" } : Jvm.MethodName)) ∈ Tb := tb_t (tt_2 36 rfl) rfl
theorem t2_37 : (Jvm.Cond.selects "BlobStore" ({ cls := "BlobStore", name := "state", desc := "(I)I" } : Jvm.MethodName) ({ cls := "BlobStore", name := "state", desc := "(I)I" } : Jvm.MethodName)) ∈ Tb := tb_t (tt_2 37 rfl) rfl
theorem t2_38 : (Jvm.Cond.code ({ cls := "BlobStore", name := "state", desc := "(I)I" } : Jvm.MethodName) prog_1_method_16_code (2 : Nat) (Option.some Jvm.ClassFile.FieldType.int)) ∈ Tb := tb_t (tt_2 38 rfl) rfl
theorem t2_39 : (Jvm.Cond.methodLink "BlobStore" (192 : Nat) ({ cls := "BlobStore", name := "countChunks", desc := "()I" } : Jvm.MethodName)) ∈ Tb := tb_t (tt_2 39 rfl) rfl
theorem u2_40 : (Jvm.Cond.privateMethod ({ cls := "BlobStore", name := "countChunks", desc := "()I" } : Jvm.MethodName)) ∈ tables_1 := tt_2 40 rfl
theorem t2_41 : (Jvm.Cond.instanceMethod ({ cls := "BlobStore", name := "countChunks", desc := "()I" } : Jvm.MethodName)) ∈ Tb := tb_t (tt_2 41 rfl) rfl
theorem t2_42 : (Jvm.Cond.code ({ cls := "BlobStore", name := "countChunks", desc := "()I" } : Jvm.MethodName) prog_1_method_28_code (3 : Nat) (Option.some Jvm.ClassFile.FieldType.int)) ∈ Tb := tb_t (tt_2 42 rfl) rfl
theorem t2_43 : (Jvm.Cond.methodLink "BlobStore" (195 : Nat) ({ cls := "BlobStore", name := "countOpenSessions", desc := "()I" } : Jvm.MethodName)) ∈ Tb := tb_t (tt_2 43 rfl) rfl
theorem u2_44 : (Jvm.Cond.privateMethod ({ cls := "BlobStore", name := "countOpenSessions", desc := "()I" } : Jvm.MethodName)) ∈ tables_1 := tt_2 44 rfl
theorem t2_45 : (Jvm.Cond.instanceMethod ({ cls := "BlobStore", name := "countOpenSessions", desc := "()I" } : Jvm.MethodName)) ∈ Tb := tb_t (tt_2 45 rfl) rfl
theorem t2_46 : (Jvm.Cond.code ({ cls := "BlobStore", name := "countOpenSessions", desc := "()I" } : Jvm.MethodName) prog_1_method_29_code (3 : Nat) (Option.some Jvm.ClassFile.FieldType.int)) ∈ Tb := tb_t (tt_2 46 rfl) rfl
theorem t2_47 : (Jvm.Cond.methodLink "BlobStore" (198 : Nat) ({ cls := "BlobStore", name := "countLivingVersions", desc := "()I" } : Jvm.MethodName)) ∈ Tb := tb_t (tt_2 47 rfl) rfl
theorem u2_48 : (Jvm.Cond.privateMethod ({ cls := "BlobStore", name := "countLivingVersions", desc := "()I" } : Jvm.MethodName)) ∈ tables_1 := tt_2 48 rfl
theorem t2_49 : (Jvm.Cond.instanceMethod ({ cls := "BlobStore", name := "countLivingVersions", desc := "()I" } : Jvm.MethodName)) ∈ Tb := tb_t (tt_2 49 rfl) rfl
theorem t2_50 : (Jvm.Cond.code ({ cls := "BlobStore", name := "countLivingVersions", desc := "()I" } : Jvm.MethodName) prog_1_method_30_code (3 : Nat) (Option.some Jvm.ClassFile.FieldType.int)) ∈ Tb := tb_t (tt_2 50 rfl) rfl
theorem t2_51 : (Jvm.Cond.methodLink "BlobStoreLaw" (53 : Nat) ({ cls := "BlobStoreLaw", name := "begin", desc := "(LBlobStore;II[J)I" } : Jvm.MethodName)) ∈ Tb := tb_t (tt_2 51 rfl) rfl
theorem t2_52 : (Jvm.Cond.static ({ cls := "BlobStoreLaw", name := "begin", desc := "(LBlobStore;II[J)I" } : Jvm.MethodName)) ∈ Tb := tb_t (tt_2 52 rfl) rfl
theorem t2_53 : (Jvm.Cond.codeWith ({ cls := "BlobStoreLaw", name := "begin", desc := "(LBlobStore;II[J)I" } : Jvm.MethodName) method_3_code (5 : Nat) (Option.some Jvm.ClassFile.FieldType.int) [((0 : Nat), (10 : Nat), (13 : Nat), (13 : Nat)), ((0 : Nat), (10 : Nat), (17 : Nat), (15 : Nat)), ((0 : Nat), (10 : Nat), (21 : Nat), (17 : Nat))]) ∈ Tb := tb_t (tt_2 53 rfl) rfl
theorem t2_54 : (Jvm.Cond.classLink "BlobStoreLaw" (13 : Nat) "java/lang/IllegalStateException") ∈ Tb := tb_t (tt_2 54 rfl) rfl
theorem t2_55 : (Jvm.Cond.classLink "BlobStoreLaw" (15 : Nat) "java/lang/IllegalArgumentException") ∈ Tb := tb_t (tt_2 55 rfl) rfl
theorem t2_56 : (Jvm.Cond.classLink "BlobStoreLaw" (17 : Nat) "java/lang/UnsupportedOperationException") ∈ Tb := tb_t (tt_2 56 rfl) rfl
theorem t2_57 : (Jvm.Cond.methodLink "BlobStoreLaw" (7 : Nat) ({ cls := "BlobStore", name := "begin", desc := "(II)I" } : Jvm.MethodName)) ∈ Tb := tb_t (tt_2 57 rfl) rfl
theorem t2_58 : (Jvm.Cond.instanceMethod ({ cls := "BlobStore", name := "begin", desc := "(II)I" } : Jvm.MethodName)) ∈ Tb := tb_t (tt_2 58 rfl) rfl
theorem t2_59 : (Jvm.Cond.selects "BlobStore" ({ cls := "BlobStore", name := "begin", desc := "(II)I" } : Jvm.MethodName) ({ cls := "BlobStore", name := "begin", desc := "(II)I" } : Jvm.MethodName)) ∈ Tb := tb_t (tt_2 59 rfl) rfl
theorem t2_60 : (Jvm.Cond.code ({ cls := "BlobStore", name := "begin", desc := "(II)I" } : Jvm.MethodName) prog_1_method_2_code (4 : Nat) (Option.some Jvm.ClassFile.FieldType.int)) ∈ Tb := tb_t (tt_2 60 rfl) rfl
theorem n2_61 : (Jvm.Cond.methodLinkNest "BlobStore" (68 : Nat) ({ cls := "BlobStore$Power", name := "requireOn", desc := "()V" } : Jvm.MethodName) "BlobStore") ∈ bNst := tn_t (tt_2 61 rfl) rfl
theorem u2_62 : (Jvm.Cond.privateMethod ({ cls := "BlobStore$Power", name := "requireOn", desc := "()V" } : Jvm.MethodName)) ∈ tables_1 := tt_2 62 rfl
theorem t2_63 : (Jvm.Cond.instanceMethod ({ cls := "BlobStore$Power", name := "requireOn", desc := "()V" } : Jvm.MethodName)) ∈ Tb := tb_t (tt_2 63 rfl) rfl
theorem t2_64 : (Jvm.Cond.code ({ cls := "BlobStore$Power", name := "requireOn", desc := "()V" } : Jvm.MethodName) prog_3_method_2_code (1 : Nat) (Option.none : Option Jvm.ClassFile.FieldType)) ∈ Tb := tb_t (tt_2 64 rfl) rfl
theorem t2_65 : (Jvm.Cond.classLink "BlobStore$Power" (20 : Nat) "java/lang/IllegalStateException") ∈ Tb := tb_t (tt_2 65 rfl) rfl
theorem t2_66 : (Jvm.Cond.instantiable "java/lang/IllegalStateException" (6 : Nat)) ∈ Tb := tb_t (tt_2 66 rfl) rfl
theorem n2_67 : (Jvm.Cond.castable "java/lang/IllegalStateException" "java/lang/IllegalStateException") ∈ bNst := tn_t (tt_2 67 rfl) rfl
theorem n2_68 : (Jvm.Cond.declares ({ cls := "java/lang/RuntimeException", name := "<init>", desc := "()V" } : Jvm.MethodName)) ∈ bNst := tn_t (tt_2 68 rfl) rfl
theorem n2_69 : (Jvm.Cond.declares ({ cls := "java/lang/RuntimeException", name := "<init>", desc := "(Ljava/lang/String;)V" } : Jvm.MethodName)) ∈ bNst := tn_t (tt_2 69 rfl) rfl
theorem n2_70 : (Jvm.Cond.declares ({ cls := "java/lang/Exception", name := "<init>", desc := "()V" } : Jvm.MethodName)) ∈ bNst := tn_t (tt_2 70 rfl) rfl
theorem n2_71 : (Jvm.Cond.declares ({ cls := "java/lang/Exception", name := "<init>", desc := "(Ljava/lang/String;)V" } : Jvm.MethodName)) ∈ bNst := tn_t (tt_2 71 rfl) rfl
theorem n2_72 : (Jvm.Cond.declares ({ cls := "java/lang/Throwable", name := "<init>", desc := "()V" } : Jvm.MethodName)) ∈ bNst := tn_t (tt_2 72 rfl) rfl
theorem n2_73 : (Jvm.Cond.declares ({ cls := "java/lang/Throwable", name := "<init>", desc := "(Ljava/lang/String;)V" } : Jvm.MethodName)) ∈ bNst := tn_t (tt_2 73 rfl) rfl
theorem t2_74 : (Jvm.Cond.selects "java/lang/IllegalStateException" ({ cls := "java/lang/Throwable", name := "fillInStackTrace", desc := "(I)Ljava/lang/Throwable;" } : Jvm.MethodName) ({ cls := "java/lang/Throwable", name := "fillInStackTrace", desc := "(I)Ljava/lang/Throwable;" } : Jvm.MethodName)) ∈ Tb := tb_t (tt_2 74 rfl) rfl
theorem t2_75 : (Jvm.Cond.selects "java/lang/IllegalStateException" ({ cls := "java/lang/Throwable", name := "fillInStackTrace", desc := "()Ljava/lang/Throwable;" } : Jvm.MethodName) ({ cls := "java/lang/Throwable", name := "fillInStackTrace", desc := "()Ljava/lang/Throwable;" } : Jvm.MethodName)) ∈ Tb := tb_t (tt_2 75 rfl) rfl
theorem t2_76 : (Jvm.Cond.lays "java/lang/IllegalStateException" "java/lang/Throwable" "cause" "Ljava/lang/Throwable;") ∈ Tb := tb_t (tt_2 76 rfl) rfl
theorem t2_77 : (Jvm.Cond.lays "java/lang/Throwable" "java/lang/Throwable" "cause" "Ljava/lang/Throwable;") ∈ Tb := tb_t (tt_2 77 rfl) rfl
theorem t2_78 : (Jvm.Cond.lays "java/lang/IllegalStateException" "java/lang/Throwable" "stackTrace" "[Ljava/lang/StackTraceElement;") ∈ Tb := tb_t (tt_2 78 rfl) rfl
theorem t2_79 : (Jvm.Cond.lays "java/lang/Throwable" "java/lang/Throwable" "stackTrace" "[Ljava/lang/StackTraceElement;") ∈ Tb := tb_t (tt_2 79 rfl) rfl
theorem t2_80 : (Jvm.Cond.lays "java/lang/IllegalStateException" "java/lang/Throwable" "suppressedExceptions" "Ljava/util/List;") ∈ Tb := tb_t (tt_2 80 rfl) rfl
theorem t2_81 : (Jvm.Cond.lays "java/lang/Throwable" "java/lang/Throwable" "suppressedExceptions" "Ljava/util/List;") ∈ Tb := tb_t (tt_2 81 rfl) rfl
theorem t2_82 : (Jvm.Cond.lays "java/lang/IllegalStateException" "java/lang/Throwable" "detailMessage" "Ljava/lang/String;") ∈ Tb := tb_t (tt_2 82 rfl) rfl
theorem t2_83 : (Jvm.Cond.lays "java/lang/Throwable" "java/lang/Throwable" "detailMessage" "Ljava/lang/String;") ∈ Tb := tb_t (tt_2 83 rfl) rfl
theorem t2_84 : (Jvm.Cond.lays "java/lang/IllegalStateException" "java/lang/Throwable" "backtrace" "Ljava/lang/Object;") ∈ Tb := tb_t (tt_2 84 rfl) rfl
theorem t2_85 : (Jvm.Cond.lays "java/lang/Throwable" "java/lang/Throwable" "backtrace" "Ljava/lang/Object;") ∈ Tb := tb_t (tt_2 85 rfl) rfl
theorem t2_86 : (Jvm.Cond.fieldLink "java/lang/Throwable" (198 : Nat) "java/lang/Throwable" "backtrace" "Ljava/lang/Object;") ∈ Tb := tb_t (tt_2 86 rfl) rfl
theorem t2_87 : (Jvm.Cond.superclass "java/lang/Throwable" "java/lang/Object") ∈ Tb := tb_t (tt_2 87 rfl) rfl
theorem t2_88 : (Jvm.Cond.instanceMethod ({ cls := "java/lang/Throwable", name := "<init>", desc := "()V" } : Jvm.MethodName)) ∈ Tb := tb_t (tt_2 88 rfl) rfl
theorem t2_89 : (Jvm.Cond.code ({ cls := "java/lang/Throwable", name := "<init>", desc := "()V" } : Jvm.MethodName) prog_18_method_1_code (1 : Nat) (Option.none : Option Jvm.ClassFile.FieldType)) ∈ Tb := tb_t (tt_2 89 rfl) rfl
theorem t2_90 : (Jvm.Cond.methodLink "java/lang/Throwable" (1 : Nat) ({ cls := "java/lang/Object", name := "<init>", desc := "()V" } : Jvm.MethodName)) ∈ Tb := tb_t (tt_2 90 rfl) rfl
theorem t2_91 : (Jvm.Cond.fieldLink "java/lang/Throwable" (13 : Nat) "java/lang/Throwable" "UNASSIGNED_STACK" "[Ljava/lang/StackTraceElement;") ∈ Tb := tb_t (tt_2 91 rfl) rfl
theorem u2_92 : (Jvm.Cond.laysStatic "java/lang/Throwable" "UNASSIGNED_STACK" "[Ljava/lang/StackTraceElement;") ∈ tables_1 := tt_2 92 rfl
theorem t2_93 : (Jvm.Cond.fieldLink "java/lang/Throwable" (20 : Nat) "java/lang/Throwable" "SUPPRESSED_SENTINEL" "Ljava/util/List;") ∈ Tb := tb_t (tt_2 93 rfl) rfl
theorem u2_94 : (Jvm.Cond.laysStatic "java/lang/Throwable" "SUPPRESSED_SENTINEL" "Ljava/util/List;") ∈ tables_1 := tt_2 94 rfl
theorem t2_95 : (Jvm.Cond.methodLink "java/lang/Throwable" (27 : Nat) ({ cls := "java/lang/Throwable", name := "fillInStackTrace", desc := "()Ljava/lang/Throwable;" } : Jvm.MethodName)) ∈ Tb := tb_t (tt_2 95 rfl) rfl
theorem t2_96 : (Jvm.Cond.instanceMethod ({ cls := "java/lang/Throwable", name := "fillInStackTrace", desc := "()Ljava/lang/Throwable;" } : Jvm.MethodName)) ∈ Tb := tb_t (tt_2 96 rfl) rfl
theorem u2_97 : (Jvm.Cond.sameMethod "java/lang/Throwable" "java/lang/Throwable" "fillInStackTrace" "()Ljava/lang/Throwable;") ∈ tables_1 := tt_2 97 rfl
theorem t2_98 : (Jvm.Cond.selects "java/lang/IllegalArgumentException" ({ cls := "java/lang/Throwable", name := "fillInStackTrace", desc := "()Ljava/lang/Throwable;" } : Jvm.MethodName) ({ cls := "java/lang/Throwable", name := "fillInStackTrace", desc := "()Ljava/lang/Throwable;" } : Jvm.MethodName)) ∈ Tb := tb_t (tt_2 98 rfl) rfl
theorem t2_99 : (Jvm.Cond.selects "java/lang/IndexOutOfBoundsException" ({ cls := "java/lang/Throwable", name := "fillInStackTrace", desc := "()Ljava/lang/Throwable;" } : Jvm.MethodName) ({ cls := "java/lang/Throwable", name := "fillInStackTrace", desc := "()Ljava/lang/Throwable;" } : Jvm.MethodName)) ∈ Tb := tb_t (tt_2 99 rfl) rfl
theorem t2_100 : (Jvm.Cond.selects "java/lang/UnsupportedOperationException" ({ cls := "java/lang/Throwable", name := "fillInStackTrace", desc := "()Ljava/lang/Throwable;" } : Jvm.MethodName) ({ cls := "java/lang/Throwable", name := "fillInStackTrace", desc := "()Ljava/lang/Throwable;" } : Jvm.MethodName)) ∈ Tb := tb_t (tt_2 100 rfl) rfl
theorem t2_101 : (Jvm.Cond.selects "java/util/NoSuchElementException" ({ cls := "java/lang/Throwable", name := "fillInStackTrace", desc := "()Ljava/lang/Throwable;" } : Jvm.MethodName) ({ cls := "java/lang/Throwable", name := "fillInStackTrace", desc := "()Ljava/lang/Throwable;" } : Jvm.MethodName)) ∈ Tb := tb_t (tt_2 101 rfl) rfl
theorem t2_102 : (Jvm.Cond.codeSync ({ cls := "java/lang/Throwable", name := "fillInStackTrace", desc := "()Ljava/lang/Throwable;" } : Jvm.MethodName) prog_18_method_18_code (1 : Nat) (Option.some (Jvm.ClassFile.FieldType.object "java/lang/Throwable"))) ∈ Tb := tb_t (tt_2 102 rfl) rfl
theorem t2_103 : (Jvm.Cond.methodLink "java/lang/Throwable" (202 : Nat) ({ cls := "java/lang/Throwable", name := "fillInStackTrace", desc := "(I)Ljava/lang/Throwable;" } : Jvm.MethodName)) ∈ Tb := tb_t (tt_2 103 rfl) rfl
theorem u2_104 : (Jvm.Cond.privateMethod ({ cls := "java/lang/Throwable", name := "fillInStackTrace", desc := "(I)Ljava/lang/Throwable;" } : Jvm.MethodName)) ∈ tables_1 := tt_2 104 rfl
theorem t2_105 : (Jvm.Cond.instanceMethod ({ cls := "java/lang/Throwable", name := "fillInStackTrace", desc := "(I)Ljava/lang/Throwable;" } : Jvm.MethodName)) ∈ Tb := tb_t (tt_2 105 rfl) rfl
theorem t2_106 : (Jvm.Cond.instantiable "java/lang/Throwable" (6 : Nat)) ∈ Tb := tb_t (tt_2 106 rfl) rfl
theorem t2_107 : (Jvm.Cond.native ({ cls := "java/lang/Throwable", name := "fillInStackTrace", desc := "(I)Ljava/lang/Throwable;" } : Jvm.MethodName)) ∈ Tb := tb_t (tt_2 107 rfl) rfl
theorem u2_108 : (Jvm.Cond.stringRef "BlobStore$Power" (22 : Nat) "the store is down") ∈ tables_1 := tt_2 108 rfl
theorem t2_109 : (Jvm.Cond.methodLink "BlobStore$Power" (24 : Nat) ({ cls := "java/lang/IllegalStateException", name := "<init>", desc := "(Ljava/lang/String;)V" } : Jvm.MethodName)) ∈ Tb := tb_t (tt_2 109 rfl) rfl
theorem t2_110 : (Jvm.Cond.instanceMethod ({ cls := "java/lang/IllegalStateException", name := "<init>", desc := "(Ljava/lang/String;)V" } : Jvm.MethodName)) ∈ Tb := tb_t (tt_2 110 rfl) rfl
theorem t2_111 : (Jvm.Cond.code ({ cls := "java/lang/IllegalStateException", name := "<init>", desc := "(Ljava/lang/String;)V" } : Jvm.MethodName) prog_12_method_2_code (2 : Nat) (Option.none : Option Jvm.ClassFile.FieldType)) ∈ Tb := tb_t (tt_2 111 rfl) rfl
theorem t2_112 : (Jvm.Cond.methodLink "java/lang/IllegalStateException" (7 : Nat) ({ cls := "java/lang/RuntimeException", name := "<init>", desc := "(Ljava/lang/String;)V" } : Jvm.MethodName)) ∈ Tb := tb_t (tt_2 112 rfl) rfl
theorem t2_113 : (Jvm.Cond.instanceMethod ({ cls := "java/lang/RuntimeException", name := "<init>", desc := "(Ljava/lang/String;)V" } : Jvm.MethodName)) ∈ Tb := tb_t (tt_2 113 rfl) rfl
theorem t2_114 : (Jvm.Cond.code ({ cls := "java/lang/RuntimeException", name := "<init>", desc := "(Ljava/lang/String;)V" } : Jvm.MethodName) prog_15_method_2_code (2 : Nat) (Option.none : Option Jvm.ClassFile.FieldType)) ∈ Tb := tb_t (tt_2 114 rfl) rfl
theorem t2_115 : (Jvm.Cond.methodLink "java/lang/RuntimeException" (7 : Nat) ({ cls := "java/lang/Exception", name := "<init>", desc := "(Ljava/lang/String;)V" } : Jvm.MethodName)) ∈ Tb := tb_t (tt_2 115 rfl) rfl
theorem t2_116 : (Jvm.Cond.instanceMethod ({ cls := "java/lang/Exception", name := "<init>", desc := "(Ljava/lang/String;)V" } : Jvm.MethodName)) ∈ Tb := tb_t (tt_2 116 rfl) rfl
theorem t2_117 : (Jvm.Cond.code ({ cls := "java/lang/Exception", name := "<init>", desc := "(Ljava/lang/String;)V" } : Jvm.MethodName) prog_10_method_2_code (2 : Nat) (Option.none : Option Jvm.ClassFile.FieldType)) ∈ Tb := tb_t (tt_2 117 rfl) rfl
theorem t2_118 : (Jvm.Cond.methodLink "java/lang/Exception" (7 : Nat) ({ cls := "java/lang/Throwable", name := "<init>", desc := "(Ljava/lang/String;)V" } : Jvm.MethodName)) ∈ Tb := tb_t (tt_2 118 rfl) rfl
theorem t2_119 : (Jvm.Cond.instanceMethod ({ cls := "java/lang/Throwable", name := "<init>", desc := "(Ljava/lang/String;)V" } : Jvm.MethodName)) ∈ Tb := tb_t (tt_2 119 rfl) rfl
theorem t2_120 : (Jvm.Cond.code ({ cls := "java/lang/Throwable", name := "<init>", desc := "(Ljava/lang/String;)V" } : Jvm.MethodName) prog_18_method_2_code (2 : Nat) (Option.none : Option Jvm.ClassFile.FieldType)) ∈ Tb := tb_t (tt_2 120 rfl) rfl
theorem t2_122 : (Jvm.Cond.fieldLink "java/lang/Throwable" (31 : Nat) "java/lang/Throwable" "detailMessage" "Ljava/lang/String;") ∈ Tb := tb_t (tt_2 122 rfl) rfl
theorem t2_123 : (Jvm.Cond.fieldLink "java/lang/Throwable" (7 : Nat) "java/lang/Throwable" "cause" "Ljava/lang/Throwable;") ∈ Tb := tb_t (tt_2 123 rfl) rfl
theorem t2_124 : (Jvm.Cond.fieldLink "java/lang/Throwable" (17 : Nat) "java/lang/Throwable" "stackTrace" "[Ljava/lang/StackTraceElement;") ∈ Tb := tb_t (tt_2 124 rfl) rfl
theorem t2_125 : (Jvm.Cond.fieldLink "java/lang/Throwable" (24 : Nat) "java/lang/Throwable" "suppressedExceptions" "Ljava/util/List;") ∈ Tb := tb_t (tt_2 125 rfl) rfl
theorem u2_126 : (Jvm.Cond.soleField "java/lang/Throwable" "backtrace") ∈ tables_1 := tt_2 126 rfl
theorem u2_127 : (Jvm.Cond.soleField "java/lang/Throwable" "detailMessage") ∈ tables_1 := tt_2 127 rfl
theorem u2_128 : (Jvm.Cond.soleField "java/lang/Throwable" "cause") ∈ tables_1 := tt_2 128 rfl
theorem u2_129 : (Jvm.Cond.soleField "java/lang/Throwable" "stackTrace") ∈ tables_1 := tt_2 129 rfl
theorem t2_130 : (Jvm.Cond.lays "java/lang/IllegalStateException" "java/lang/Throwable" "depth" "I") ∈ Tb := tb_t (tt_2 130 rfl) rfl
theorem u2_131 : (Jvm.Cond.soleField "java/lang/Throwable" "depth") ∈ tables_1 := tt_2 131 rfl
theorem u2_132 : (Jvm.Cond.soleField "java/lang/Throwable" "suppressedExceptions") ∈ tables_1 := tt_2 132 rfl
theorem t2_133 : (Jvm.Cond.superclass "java/lang/IllegalStateException" "java/lang/RuntimeException") ∈ Tb := tb_t (tt_2 133 rfl) rfl
theorem t2_134 : (Jvm.Cond.arrayClass Jvm.ClassFile.FieldType.byte) ∈ Tb := tb_t (tt_2 134 rfl) rfl
theorem t2_135 : (Jvm.Cond.methodLink "BlobStore" (71 : Nat) ({ cls := "BlobStore", name := "leastClosedSession", desc := "()I" } : Jvm.MethodName)) ∈ Tb := tb_t (tt_2 135 rfl) rfl
theorem u2_136 : (Jvm.Cond.privateMethod ({ cls := "BlobStore", name := "leastClosedSession", desc := "()I" } : Jvm.MethodName)) ∈ tables_1 := tt_2 136 rfl
theorem t2_137 : (Jvm.Cond.instanceMethod ({ cls := "BlobStore", name := "leastClosedSession", desc := "()I" } : Jvm.MethodName)) ∈ Tb := tb_t (tt_2 137 rfl) rfl
theorem t2_138 : (Jvm.Cond.code ({ cls := "BlobStore", name := "leastClosedSession", desc := "()I" } : Jvm.MethodName) prog_1_method_17_code (2 : Nat) (Option.some Jvm.ClassFile.FieldType.int)) ∈ Tb := tb_t (tt_2 138 rfl) rfl
theorem t2_139 : (Jvm.Cond.classLink "BlobStore" (75 : Nat) "java/lang/IllegalStateException") ∈ Tb := tb_t (tt_2 139 rfl) rfl
theorem u2_140 : (Jvm.Cond.stringRef "BlobStore" (77 : Nat) "all sessions are open") ∈ tables_1 := tt_2 140 rfl
theorem t2_141 : (Jvm.Cond.methodLink "BlobStore" (79 : Nat) ({ cls := "java/lang/IllegalStateException", name := "<init>", desc := "(Ljava/lang/String;)V" } : Jvm.MethodName)) ∈ Tb := tb_t (tt_2 141 rfl) rfl
theorem t2_142 : (Jvm.Cond.classLink "BlobStore" (82 : Nat) "java/lang/IllegalArgumentException") ∈ Tb := tb_t (tt_2 142 rfl) rfl
theorem t2_143 : (Jvm.Cond.instantiable "java/lang/IllegalArgumentException" (6 : Nat)) ∈ Tb := tb_t (tt_2 143 rfl) rfl
theorem n2_144 : (Jvm.Cond.castable "java/lang/IllegalArgumentException" "java/lang/IllegalArgumentException") ∈ bNst := tn_t (tt_2 144 rfl) rfl
theorem t2_145 : (Jvm.Cond.selects "java/lang/IllegalArgumentException" ({ cls := "java/lang/Throwable", name := "fillInStackTrace", desc := "(I)Ljava/lang/Throwable;" } : Jvm.MethodName) ({ cls := "java/lang/Throwable", name := "fillInStackTrace", desc := "(I)Ljava/lang/Throwable;" } : Jvm.MethodName)) ∈ Tb := tb_t (tt_2 145 rfl) rfl
theorem t2_146 : (Jvm.Cond.lays "java/lang/IllegalArgumentException" "java/lang/Throwable" "cause" "Ljava/lang/Throwable;") ∈ Tb := tb_t (tt_2 146 rfl) rfl
theorem t2_147 : (Jvm.Cond.lays "java/lang/IllegalArgumentException" "java/lang/Throwable" "stackTrace" "[Ljava/lang/StackTraceElement;") ∈ Tb := tb_t (tt_2 147 rfl) rfl
theorem t2_148 : (Jvm.Cond.lays "java/lang/IllegalArgumentException" "java/lang/Throwable" "suppressedExceptions" "Ljava/util/List;") ∈ Tb := tb_t (tt_2 148 rfl) rfl
theorem t2_149 : (Jvm.Cond.lays "java/lang/IllegalArgumentException" "java/lang/Throwable" "detailMessage" "Ljava/lang/String;") ∈ Tb := tb_t (tt_2 149 rfl) rfl
theorem t2_150 : (Jvm.Cond.lays "java/lang/IllegalArgumentException" "java/lang/Throwable" "backtrace" "Ljava/lang/Object;") ∈ Tb := tb_t (tt_2 150 rfl) rfl
theorem u2_151 : (Jvm.Cond.stringRef "BlobStore" (84 : Nat) "no such bucket or key") ∈ tables_1 := tt_2 151 rfl
theorem t2_152 : (Jvm.Cond.methodLink "BlobStore" (86 : Nat) ({ cls := "java/lang/IllegalArgumentException", name := "<init>", desc := "(Ljava/lang/String;)V" } : Jvm.MethodName)) ∈ Tb := tb_t (tt_2 152 rfl) rfl
theorem t2_153 : (Jvm.Cond.instanceMethod ({ cls := "java/lang/IllegalArgumentException", name := "<init>", desc := "(Ljava/lang/String;)V" } : Jvm.MethodName)) ∈ Tb := tb_t (tt_2 153 rfl) rfl
theorem t2_154 : (Jvm.Cond.code ({ cls := "java/lang/IllegalArgumentException", name := "<init>", desc := "(Ljava/lang/String;)V" } : Jvm.MethodName) prog_11_method_2_code (2 : Nat) (Option.none : Option Jvm.ClassFile.FieldType)) ∈ Tb := tb_t (tt_2 154 rfl) rfl
theorem t2_155 : (Jvm.Cond.methodLink "java/lang/IllegalArgumentException" (7 : Nat) ({ cls := "java/lang/RuntimeException", name := "<init>", desc := "(Ljava/lang/String;)V" } : Jvm.MethodName)) ∈ Tb := tb_t (tt_2 155 rfl) rfl
theorem t2_156 : (Jvm.Cond.lays "java/lang/IllegalArgumentException" "java/lang/Throwable" "depth" "I") ∈ Tb := tb_t (tt_2 156 rfl) rfl
theorem t2_157 : (Jvm.Cond.superclass "java/lang/IllegalArgumentException" "java/lang/RuntimeException") ∈ Tb := tb_t (tt_2 157 rfl) rfl
theorem n2_158 : (Jvm.Cond.methodLinkNest "BlobStore" (87 : Nat) ({ cls := "BlobStore$Power", name := "spendWrite", desc := "()V" } : Jvm.MethodName) "BlobStore") ∈ bNst := tn_t (tt_2 158 rfl) rfl
theorem u2_159 : (Jvm.Cond.privateMethod ({ cls := "BlobStore$Power", name := "spendWrite", desc := "()V" } : Jvm.MethodName)) ∈ tables_1 := tt_2 159 rfl
theorem t2_160 : (Jvm.Cond.instanceMethod ({ cls := "BlobStore$Power", name := "spendWrite", desc := "()V" } : Jvm.MethodName)) ∈ Tb := tb_t (tt_2 160 rfl) rfl
theorem t2_161 : (Jvm.Cond.code ({ cls := "BlobStore$Power", name := "spendWrite", desc := "()V" } : Jvm.MethodName) prog_3_method_3_code (1 : Nat) (Option.none : Option Jvm.ClassFile.FieldType)) ∈ Tb := tb_t (tt_2 161 rfl) rfl
theorem t2_162 : (Jvm.Cond.classLink "BlobStore$Power" (27 : Nat) "java/lang/UnsupportedOperationException") ∈ Tb := tb_t (tt_2 162 rfl) rfl
theorem t2_163 : (Jvm.Cond.instantiable "java/lang/UnsupportedOperationException" (6 : Nat)) ∈ Tb := tb_t (tt_2 163 rfl) rfl
theorem n2_164 : (Jvm.Cond.castable "java/lang/UnsupportedOperationException" "java/lang/UnsupportedOperationException") ∈ bNst := tn_t (tt_2 164 rfl) rfl
theorem t2_165 : (Jvm.Cond.selects "java/lang/UnsupportedOperationException" ({ cls := "java/lang/Throwable", name := "fillInStackTrace", desc := "(I)Ljava/lang/Throwable;" } : Jvm.MethodName) ({ cls := "java/lang/Throwable", name := "fillInStackTrace", desc := "(I)Ljava/lang/Throwable;" } : Jvm.MethodName)) ∈ Tb := tb_t (tt_2 165 rfl) rfl
theorem t2_166 : (Jvm.Cond.lays "java/lang/UnsupportedOperationException" "java/lang/Throwable" "cause" "Ljava/lang/Throwable;") ∈ Tb := tb_t (tt_2 166 rfl) rfl
theorem t2_167 : (Jvm.Cond.lays "java/lang/UnsupportedOperationException" "java/lang/Throwable" "stackTrace" "[Ljava/lang/StackTraceElement;") ∈ Tb := tb_t (tt_2 167 rfl) rfl
theorem t2_168 : (Jvm.Cond.lays "java/lang/UnsupportedOperationException" "java/lang/Throwable" "suppressedExceptions" "Ljava/util/List;") ∈ Tb := tb_t (tt_2 168 rfl) rfl
theorem t2_169 : (Jvm.Cond.lays "java/lang/UnsupportedOperationException" "java/lang/Throwable" "detailMessage" "Ljava/lang/String;") ∈ Tb := tb_t (tt_2 169 rfl) rfl
theorem t2_170 : (Jvm.Cond.lays "java/lang/UnsupportedOperationException" "java/lang/Throwable" "backtrace" "Ljava/lang/Object;") ∈ Tb := tb_t (tt_2 170 rfl) rfl
theorem u2_171 : (Jvm.Cond.stringRef "BlobStore$Power" (29 : Nat) "the power is gone") ∈ tables_1 := tt_2 171 rfl
theorem t2_172 : (Jvm.Cond.methodLink "BlobStore$Power" (31 : Nat) ({ cls := "java/lang/UnsupportedOperationException", name := "<init>", desc := "(Ljava/lang/String;)V" } : Jvm.MethodName)) ∈ Tb := tb_t (tt_2 172 rfl) rfl
theorem t2_173 : (Jvm.Cond.instanceMethod ({ cls := "java/lang/UnsupportedOperationException", name := "<init>", desc := "(Ljava/lang/String;)V" } : Jvm.MethodName)) ∈ Tb := tb_t (tt_2 173 rfl) rfl
theorem t2_174 : (Jvm.Cond.code ({ cls := "java/lang/UnsupportedOperationException", name := "<init>", desc := "(Ljava/lang/String;)V" } : Jvm.MethodName) prog_19_method_2_code (2 : Nat) (Option.none : Option Jvm.ClassFile.FieldType)) ∈ Tb := tb_t (tt_2 174 rfl) rfl
theorem t2_175 : (Jvm.Cond.methodLink "java/lang/UnsupportedOperationException" (7 : Nat) ({ cls := "java/lang/RuntimeException", name := "<init>", desc := "(Ljava/lang/String;)V" } : Jvm.MethodName)) ∈ Tb := tb_t (tt_2 175 rfl) rfl
theorem t2_176 : (Jvm.Cond.lays "java/lang/UnsupportedOperationException" "java/lang/Throwable" "depth" "I") ∈ Tb := tb_t (tt_2 176 rfl) rfl
theorem t2_177 : (Jvm.Cond.superclass "java/lang/UnsupportedOperationException" "java/lang/RuntimeException") ∈ Tb := tb_t (tt_2 177 rfl) rfl
theorem n2_178 : (Jvm.Cond.methodLinkNest "BlobStore" (90 : Nat) ({ cls := "BlobStore$Session", name := "start", desc := "(II)V" } : Jvm.MethodName) "BlobStore") ∈ bNst := tn_t (tt_2 178 rfl) rfl
theorem u2_179 : (Jvm.Cond.privateMethod ({ cls := "BlobStore$Session", name := "start", desc := "(II)V" } : Jvm.MethodName)) ∈ tables_1 := tt_2 179 rfl
theorem t2_180 : (Jvm.Cond.instanceMethod ({ cls := "BlobStore$Session", name := "start", desc := "(II)V" } : Jvm.MethodName)) ∈ Tb := tb_t (tt_2 180 rfl) rfl
theorem t2_181 : (Jvm.Cond.code ({ cls := "BlobStore$Session", name := "start", desc := "(II)V" } : Jvm.MethodName) prog_5_method_2_code (4 : Nat) (Option.none : Option Jvm.ClassFile.FieldType)) ∈ Tb := tb_t (tt_2 181 rfl) rfl
theorem t2_182 : (Jvm.Cond.methodLink "BlobStoreLaw" (64 : Nat) ({ cls := "BlobStoreLaw", name := "part", desc := "(LBlobStore;IIIJJJ[J)I" } : Jvm.MethodName)) ∈ Tb := tb_t (tt_2 182 rfl) rfl
theorem t2_183 : (Jvm.Cond.static ({ cls := "BlobStoreLaw", name := "part", desc := "(LBlobStore;IIIJJJ[J)I" } : Jvm.MethodName)) ∈ Tb := tb_t (tt_2 183 rfl) rfl
theorem t2_184 : (Jvm.Cond.codeWith ({ cls := "BlobStoreLaw", name := "part", desc := "(LBlobStore;IIIJJJ[J)I" } : Jvm.MethodName) method_4_code (12 : Nat) (Option.some Jvm.ClassFile.FieldType.int) [((0 : Nat), (18 : Nat), (21 : Nat), (13 : Nat)), ((0 : Nat), (18 : Nat), (25 : Nat), (15 : Nat)), ((0 : Nat), (18 : Nat), (29 : Nat), (23 : Nat)), ((0 : Nat), (18 : Nat), (33 : Nat), (17 : Nat))]) ∈ Tb := tb_t (tt_2 184 rfl) rfl
theorem t2_185 : (Jvm.Cond.classLink "BlobStoreLaw" (23 : Nat) "java/lang/IndexOutOfBoundsException") ∈ Tb := tb_t (tt_2 185 rfl) rfl
theorem t2_186 : (Jvm.Cond.methodLink "BlobStoreLaw" (19 : Nat) ({ cls := "BlobStore", name := "part", desc := "(IIIJJJ)I" } : Jvm.MethodName)) ∈ Tb := tb_t (tt_2 186 rfl) rfl
theorem t2_187 : (Jvm.Cond.instanceMethod ({ cls := "BlobStore", name := "part", desc := "(IIIJJJ)I" } : Jvm.MethodName)) ∈ Tb := tb_t (tt_2 187 rfl) rfl
theorem t2_188 : (Jvm.Cond.selects "BlobStore" ({ cls := "BlobStore", name := "part", desc := "(IIIJJJ)I" } : Jvm.MethodName) ({ cls := "BlobStore", name := "part", desc := "(IIIJJJ)I" } : Jvm.MethodName)) ∈ Tb := tb_t (tt_2 188 rfl) rfl
theorem t2_189 : (Jvm.Cond.code ({ cls := "BlobStore", name := "part", desc := "(IIIJJJ)I" } : Jvm.MethodName) prog_1_method_3_code (13 : Nat) (Option.some Jvm.ClassFile.FieldType.int)) ∈ Tb := tb_t (tt_2 189 rfl) rfl
theorem t2_190 : (Jvm.Cond.methodLink "BlobStore" (94 : Nat) ({ cls := "BlobStore", name := "openSession", desc := "(I)LBlobStore$Session;" } : Jvm.MethodName)) ∈ Tb := tb_t (tt_2 190 rfl) rfl
theorem u2_191 : (Jvm.Cond.privateMethod ({ cls := "BlobStore", name := "openSession", desc := "(I)LBlobStore$Session;" } : Jvm.MethodName)) ∈ tables_1 := tt_2 191 rfl
theorem t2_192 : (Jvm.Cond.instanceMethod ({ cls := "BlobStore", name := "openSession", desc := "(I)LBlobStore$Session;" } : Jvm.MethodName)) ∈ Tb := tb_t (tt_2 192 rfl) rfl
theorem t2_193 : (Jvm.Cond.code ({ cls := "BlobStore", name := "openSession", desc := "(I)LBlobStore$Session;" } : Jvm.MethodName) prog_1_method_18_code (2 : Nat) (Option.some (Jvm.ClassFile.FieldType.object "BlobStore$Session"))) ∈ Tb := tb_t (tt_2 193 rfl) rfl
theorem u2_194 : (Jvm.Cond.stringRef "BlobStore" (207 : Nat) "no such session is open") ∈ tables_1 := tt_2 194 rfl
theorem u2_195 : (Jvm.Cond.stringRef "BlobStore" (98 : Nat) "no such part number or count of bytes") ∈ tables_1 := tt_2 195 rfl
theorem t2_196 : (Jvm.Cond.methodLink "BlobStore" (100 : Nat) ({ cls := "BlobStore", name := "cutIntoChunks", desc := "(IJJJ)I" } : Jvm.MethodName)) ∈ Tb := tb_t (tt_2 196 rfl) rfl
theorem u2_197 : (Jvm.Cond.privateMethod ({ cls := "BlobStore", name := "cutIntoChunks", desc := "(IJJJ)I" } : Jvm.MethodName)) ∈ tables_1 := tt_2 197 rfl
theorem t2_198 : (Jvm.Cond.instanceMethod ({ cls := "BlobStore", name := "cutIntoChunks", desc := "(IJJJ)I" } : Jvm.MethodName)) ∈ Tb := tb_t (tt_2 198 rfl) rfl
theorem t2_199 : (Jvm.Cond.code ({ cls := "BlobStore", name := "cutIntoChunks", desc := "(IJJJ)I" } : Jvm.MethodName) prog_1_method_23_code (12 : Nat) (Option.some Jvm.ClassFile.FieldType.int)) ∈ Tb := tb_t (tt_2 199 rfl) rfl
theorem t2_200 : (Jvm.Cond.methodLink "BlobStore" (213 : Nat) ({ cls := "java/lang/Math", name := "min", desc := "(II)I" } : Jvm.MethodName)) ∈ Tb := tb_t (tt_2 200 rfl) rfl
theorem t2_201 : (Jvm.Cond.static ({ cls := "java/lang/Math", name := "min", desc := "(II)I" } : Jvm.MethodName)) ∈ Tb := tb_t (tt_2 201 rfl) rfl
theorem t2_202 : (Jvm.Cond.code ({ cls := "java/lang/Math", name := "min", desc := "(II)I" } : Jvm.MethodName) prog_14_method_69_code (2 : Nat) (Option.some Jvm.ClassFile.FieldType.int)) ∈ Tb := tb_t (tt_2 202 rfl) rfl
theorem t2_203 : (Jvm.Cond.methodLink "BlobStore" (104 : Nat) ({ cls := "BlobStore", name := "planSlots", desc := "(I)V" } : Jvm.MethodName)) ∈ Tb := tb_t (tt_2 203 rfl) rfl
theorem u2_204 : (Jvm.Cond.privateMethod ({ cls := "BlobStore", name := "planSlots", desc := "(I)V" } : Jvm.MethodName)) ∈ tables_1 := tt_2 204 rfl
theorem t2_205 : (Jvm.Cond.instanceMethod ({ cls := "BlobStore", name := "planSlots", desc := "(I)V" } : Jvm.MethodName)) ∈ Tb := tb_t (tt_2 205 rfl) rfl
theorem t2_206 : (Jvm.Cond.code ({ cls := "BlobStore", name := "planSlots", desc := "(I)V" } : Jvm.MethodName) prog_1_method_24_code (5 : Nat) (Option.none : Option Jvm.ClassFile.FieldType)) ∈ Tb := tb_t (tt_2 206 rfl) rfl
theorem t2_207 : (Jvm.Cond.methodLink "BlobStore" (219 : Nat) ({ cls := "BlobStore", name := "plannedSlot", desc := "(I)I" } : Jvm.MethodName)) ∈ Tb := tb_t (tt_2 207 rfl) rfl
theorem u2_208 : (Jvm.Cond.privateMethod ({ cls := "BlobStore", name := "plannedSlot", desc := "(I)I" } : Jvm.MethodName)) ∈ tables_1 := tt_2 208 rfl
theorem t2_209 : (Jvm.Cond.instanceMethod ({ cls := "BlobStore", name := "plannedSlot", desc := "(I)I" } : Jvm.MethodName)) ∈ Tb := tb_t (tt_2 209 rfl) rfl
theorem t2_210 : (Jvm.Cond.code ({ cls := "BlobStore", name := "plannedSlot", desc := "(I)I" } : Jvm.MethodName) prog_1_method_25_code (3 : Nat) (Option.some Jvm.ClassFile.FieldType.int)) ∈ Tb := tb_t (tt_2 210 rfl) rfl
theorem t2_211 : (Jvm.Cond.methodLink "BlobStore" (222 : Nat) ({ cls := "BlobStore", name := "leastFreeSlot", desc := "(I)I" } : Jvm.MethodName)) ∈ Tb := tb_t (tt_2 211 rfl) rfl
theorem u2_212 : (Jvm.Cond.privateMethod ({ cls := "BlobStore", name := "leastFreeSlot", desc := "(I)I" } : Jvm.MethodName)) ∈ tables_1 := tt_2 212 rfl
theorem t2_213 : (Jvm.Cond.instanceMethod ({ cls := "BlobStore", name := "leastFreeSlot", desc := "(I)I" } : Jvm.MethodName)) ∈ Tb := tb_t (tt_2 213 rfl) rfl
theorem t2_214 : (Jvm.Cond.code ({ cls := "BlobStore", name := "leastFreeSlot", desc := "(I)I" } : Jvm.MethodName) prog_1_method_22_code (3 : Nat) (Option.some Jvm.ClassFile.FieldType.int)) ∈ Tb := tb_t (tt_2 214 rfl) rfl
theorem t2_215 : (Jvm.Cond.classLink "BlobStore" (225 : Nat) "java/lang/IndexOutOfBoundsException") ∈ Tb := tb_t (tt_2 215 rfl) rfl
theorem t2_216 : (Jvm.Cond.instantiable "java/lang/IndexOutOfBoundsException" (6 : Nat)) ∈ Tb := tb_t (tt_2 216 rfl) rfl
theorem n2_217 : (Jvm.Cond.castable "java/lang/IndexOutOfBoundsException" "java/lang/IndexOutOfBoundsException") ∈ bNst := tn_t (tt_2 217 rfl) rfl
theorem t2_218 : (Jvm.Cond.selects "java/lang/IndexOutOfBoundsException" ({ cls := "java/lang/Throwable", name := "fillInStackTrace", desc := "(I)Ljava/lang/Throwable;" } : Jvm.MethodName) ({ cls := "java/lang/Throwable", name := "fillInStackTrace", desc := "(I)Ljava/lang/Throwable;" } : Jvm.MethodName)) ∈ Tb := tb_t (tt_2 218 rfl) rfl
theorem t2_219 : (Jvm.Cond.lays "java/lang/IndexOutOfBoundsException" "java/lang/Throwable" "cause" "Ljava/lang/Throwable;") ∈ Tb := tb_t (tt_2 219 rfl) rfl
theorem t2_220 : (Jvm.Cond.lays "java/lang/IndexOutOfBoundsException" "java/lang/Throwable" "stackTrace" "[Ljava/lang/StackTraceElement;") ∈ Tb := tb_t (tt_2 220 rfl) rfl
theorem t2_221 : (Jvm.Cond.lays "java/lang/IndexOutOfBoundsException" "java/lang/Throwable" "suppressedExceptions" "Ljava/util/List;") ∈ Tb := tb_t (tt_2 221 rfl) rfl
theorem t2_222 : (Jvm.Cond.lays "java/lang/IndexOutOfBoundsException" "java/lang/Throwable" "detailMessage" "Ljava/lang/String;") ∈ Tb := tb_t (tt_2 222 rfl) rfl
theorem t2_223 : (Jvm.Cond.lays "java/lang/IndexOutOfBoundsException" "java/lang/Throwable" "backtrace" "Ljava/lang/Object;") ∈ Tb := tb_t (tt_2 223 rfl) rfl
theorem u2_224 : (Jvm.Cond.stringRef "BlobStore" (227 : Nat) "too few free slots") ∈ tables_1 := tt_2 224 rfl
theorem t2_225 : (Jvm.Cond.methodLink "BlobStore" (229 : Nat) ({ cls := "java/lang/IndexOutOfBoundsException", name := "<init>", desc := "(Ljava/lang/String;)V" } : Jvm.MethodName)) ∈ Tb := tb_t (tt_2 225 rfl) rfl
theorem t2_226 : (Jvm.Cond.instanceMethod ({ cls := "java/lang/IndexOutOfBoundsException", name := "<init>", desc := "(Ljava/lang/String;)V" } : Jvm.MethodName)) ∈ Tb := tb_t (tt_2 226 rfl) rfl
theorem t2_227 : (Jvm.Cond.code ({ cls := "java/lang/IndexOutOfBoundsException", name := "<init>", desc := "(Ljava/lang/String;)V" } : Jvm.MethodName) prog_13_method_2_code (2 : Nat) (Option.none : Option Jvm.ClassFile.FieldType)) ∈ Tb := tb_t (tt_2 227 rfl) rfl
theorem t2_228 : (Jvm.Cond.methodLink "java/lang/IndexOutOfBoundsException" (7 : Nat) ({ cls := "java/lang/RuntimeException", name := "<init>", desc := "(Ljava/lang/String;)V" } : Jvm.MethodName)) ∈ Tb := tb_t (tt_2 228 rfl) rfl
theorem t2_229 : (Jvm.Cond.lays "java/lang/IndexOutOfBoundsException" "java/lang/Throwable" "depth" "I") ∈ Tb := tb_t (tt_2 229 rfl) rfl
theorem t2_230 : (Jvm.Cond.superclass "java/lang/IndexOutOfBoundsException" "java/lang/RuntimeException") ∈ Tb := tb_t (tt_2 230 rfl) rfl
theorem n2_231 : (Jvm.Cond.methodLinkNest "BlobStore" (230 : Nat) ({ cls := "BlobStore$Row", name := "add", desc := "(I)V" } : Jvm.MethodName) "BlobStore") ∈ bNst := tn_t (tt_2 231 rfl) rfl
theorem u2_232 : (Jvm.Cond.privateMethod ({ cls := "BlobStore$Row", name := "add", desc := "(I)V" } : Jvm.MethodName)) ∈ tables_1 := tt_2 232 rfl
theorem t2_233 : (Jvm.Cond.instanceMethod ({ cls := "BlobStore$Row", name := "add", desc := "(I)V" } : Jvm.MethodName)) ∈ Tb := tb_t (tt_2 233 rfl) rfl
theorem t2_234 : (Jvm.Cond.code ({ cls := "BlobStore$Row", name := "add", desc := "(I)V" } : Jvm.MethodName) prog_4_method_2_code (2 : Nat) (Option.none : Option Jvm.ClassFile.FieldType)) ∈ Tb := tb_t (tt_2 234 rfl) rfl
theorem t2_235 : (Jvm.Cond.methodLink "BlobStore" (107 : Nat) ({ cls := "BlobStore", name := "writeChunks", desc := "(I)I" } : Jvm.MethodName)) ∈ Tb := tb_t (tt_2 235 rfl) rfl
theorem u2_236 : (Jvm.Cond.privateMethod ({ cls := "BlobStore", name := "writeChunks", desc := "(I)I" } : Jvm.MethodName)) ∈ tables_1 := tt_2 236 rfl
theorem t2_237 : (Jvm.Cond.instanceMethod ({ cls := "BlobStore", name := "writeChunks", desc := "(I)I" } : Jvm.MethodName)) ∈ Tb := tb_t (tt_2 237 rfl) rfl
theorem t2_238 : (Jvm.Cond.code ({ cls := "BlobStore", name := "writeChunks", desc := "(I)I" } : Jvm.MethodName) prog_1_method_26_code (5 : Nat) (Option.some Jvm.ClassFile.FieldType.int)) ∈ Tb := tb_t (tt_2 238 rfl) rfl
theorem n2_239 : (Jvm.Cond.methodLinkNest "BlobStore" (233 : Nat) ({ cls := "BlobStore$Chunk", name := "copyFrom", desc := "(LBlobStore$Chunk;)V" } : Jvm.MethodName) "BlobStore") ∈ bNst := tn_t (tt_2 239 rfl) rfl
theorem u3_0 : (Jvm.Cond.privateMethod ({ cls := "BlobStore$Chunk", name := "copyFrom", desc := "(LBlobStore$Chunk;)V" } : Jvm.MethodName)) ∈ tables_1 := tt_3 0 rfl
theorem t3_1 : (Jvm.Cond.instanceMethod ({ cls := "BlobStore$Chunk", name := "copyFrom", desc := "(LBlobStore$Chunk;)V" } : Jvm.MethodName)) ∈ Tb := tb_t (tt_3 1 rfl) rfl
theorem t3_2 : (Jvm.Cond.code ({ cls := "BlobStore$Chunk", name := "copyFrom", desc := "(LBlobStore$Chunk;)V" } : Jvm.MethodName) prog_2_method_5_code (2 : Nat) (Option.none : Option Jvm.ClassFile.FieldType)) ∈ Tb := tb_t (tt_3 2 rfl) rfl
theorem t3_3 : (Jvm.Cond.methodLink "BlobStore$Chunk" (31 : Nat) ({ cls := "java/lang/System", name := "arraycopy", desc := "(Ljava/lang/Object;ILjava/lang/Object;II)V" } : Jvm.MethodName)) ∈ Tb := tb_t (tt_3 3 rfl) rfl
theorem t3_4 : (Jvm.Cond.static ({ cls := "java/lang/System", name := "arraycopy", desc := "(Ljava/lang/Object;ILjava/lang/Object;II)V" } : Jvm.MethodName)) ∈ Tb := tb_t (tt_3 4 rfl) rfl
theorem t3_5 : (Jvm.Cond.native ({ cls := "java/lang/System", name := "arraycopy", desc := "(Ljava/lang/Object;ILjava/lang/Object;II)V" } : Jvm.MethodName)) ∈ Tb := tb_t (tt_3 5 rfl) rfl
theorem n3_6 : (Jvm.Cond.methodLinkNest "BlobStore" (115 : Nat) ({ cls := "BlobStore$Row", name := "copyFrom", desc := "(LBlobStore$Row;)V" } : Jvm.MethodName) "BlobStore") ∈ bNst := tn_t (tt_3 6 rfl) rfl
theorem u3_7 : (Jvm.Cond.privateMethod ({ cls := "BlobStore$Row", name := "copyFrom", desc := "(LBlobStore$Row;)V" } : Jvm.MethodName)) ∈ tables_1 := tt_3 7 rfl
theorem t3_8 : (Jvm.Cond.instanceMethod ({ cls := "BlobStore$Row", name := "copyFrom", desc := "(LBlobStore$Row;)V" } : Jvm.MethodName)) ∈ Tb := tb_t (tt_3 8 rfl) rfl
theorem t3_9 : (Jvm.Cond.code ({ cls := "BlobStore$Row", name := "copyFrom", desc := "(LBlobStore$Row;)V" } : Jvm.MethodName) prog_4_method_4_code (2 : Nat) (Option.none : Option Jvm.ClassFile.FieldType)) ∈ Tb := tb_t (tt_3 9 rfl) rfl
theorem t3_10 : (Jvm.Cond.methodLink "BlobStore$Row" (21 : Nat) ({ cls := "BlobStore$Row", name := "addAll", desc := "(LBlobStore$Row;)V" } : Jvm.MethodName)) ∈ Tb := tb_t (tt_3 10 rfl) rfl
theorem u3_11 : (Jvm.Cond.privateMethod ({ cls := "BlobStore$Row", name := "addAll", desc := "(LBlobStore$Row;)V" } : Jvm.MethodName)) ∈ tables_1 := tt_3 11 rfl
theorem t3_12 : (Jvm.Cond.instanceMethod ({ cls := "BlobStore$Row", name := "addAll", desc := "(LBlobStore$Row;)V" } : Jvm.MethodName)) ∈ Tb := tb_t (tt_3 12 rfl) rfl
theorem t3_13 : (Jvm.Cond.code ({ cls := "BlobStore$Row", name := "addAll", desc := "(LBlobStore$Row;)V" } : Jvm.MethodName) prog_4_method_3_code (3 : Nat) (Option.none : Option Jvm.ClassFile.FieldType)) ∈ Tb := tb_t (tt_3 13 rfl) rfl
theorem t3_14 : (Jvm.Cond.methodLink "BlobStore$Row" (17 : Nat) ({ cls := "BlobStore$Row", name := "add", desc := "(I)V" } : Jvm.MethodName)) ∈ Tb := tb_t (tt_3 14 rfl) rfl
theorem t3_15 : (Jvm.Cond.methodLink "BlobStoreLaw" (68 : Nat) ({ cls := "BlobStoreLaw", name := "complete", desc := "(LBlobStore;I[J)I" } : Jvm.MethodName)) ∈ Tb := tb_t (tt_3 15 rfl) rfl
theorem t3_16 : (Jvm.Cond.static ({ cls := "BlobStoreLaw", name := "complete", desc := "(LBlobStore;I[J)I" } : Jvm.MethodName)) ∈ Tb := tb_t (tt_3 16 rfl) rfl
theorem t3_17 : (Jvm.Cond.codeWith ({ cls := "BlobStoreLaw", name := "complete", desc := "(LBlobStore;I[J)I" } : Jvm.MethodName) method_5_code (4 : Nat) (Option.some Jvm.ClassFile.FieldType.int) [((0 : Nat), (9 : Nat), (12 : Nat), (13 : Nat)), ((0 : Nat), (9 : Nat), (15 : Nat), (15 : Nat)), ((0 : Nat), (9 : Nat), (18 : Nat), (17 : Nat))]) ∈ Tb := tb_t (tt_3 17 rfl) rfl
theorem t3_18 : (Jvm.Cond.methodLink "BlobStoreLaw" (25 : Nat) ({ cls := "BlobStore", name := "complete", desc := "(I)I" } : Jvm.MethodName)) ∈ Tb := tb_t (tt_3 18 rfl) rfl
theorem t3_19 : (Jvm.Cond.instanceMethod ({ cls := "BlobStore", name := "complete", desc := "(I)I" } : Jvm.MethodName)) ∈ Tb := tb_t (tt_3 19 rfl) rfl
theorem t3_20 : (Jvm.Cond.selects "BlobStore" ({ cls := "BlobStore", name := "complete", desc := "(I)I" } : Jvm.MethodName) ({ cls := "BlobStore", name := "complete", desc := "(I)I" } : Jvm.MethodName)) ∈ Tb := tb_t (tt_3 20 rfl) rfl
theorem t3_21 : (Jvm.Cond.code ({ cls := "BlobStore", name := "complete", desc := "(I)I" } : Jvm.MethodName) prog_1_method_4_code (3 : Nat) (Option.some Jvm.ClassFile.FieldType.int)) ∈ Tb := tb_t (tt_3 21 rfl) rfl
theorem u3_22 : (Jvm.Cond.stringRef "BlobStore" (119 : Nat) "all versions have been given") ∈ tables_1 := tt_3 22 rfl
theorem n3_23 : (Jvm.Cond.methodLinkNest "BlobStore" (121 : Nat) ({ cls := "BlobStore$Version", name := "comeFrom", desc := "(LBlobStore$Session;)V" } : Jvm.MethodName) "BlobStore") ∈ bNst := tn_t (tt_3 23 rfl) rfl
theorem u3_24 : (Jvm.Cond.privateMethod ({ cls := "BlobStore$Version", name := "comeFrom", desc := "(LBlobStore$Session;)V" } : Jvm.MethodName)) ∈ tables_1 := tt_3 24 rfl
theorem t3_25 : (Jvm.Cond.instanceMethod ({ cls := "BlobStore$Version", name := "comeFrom", desc := "(LBlobStore$Session;)V" } : Jvm.MethodName)) ∈ Tb := tb_t (tt_3 25 rfl) rfl
theorem t3_26 : (Jvm.Cond.code ({ cls := "BlobStore$Version", name := "comeFrom", desc := "(LBlobStore$Session;)V" } : Jvm.MethodName) prog_7_method_2_code (3 : Nat) (Option.none : Option Jvm.ClassFile.FieldType)) ∈ Tb := tb_t (tt_3 26 rfl) rfl
theorem n3_27 : (Jvm.Cond.methodLinkNest "BlobStore$Version" (39 : Nat) ({ cls := "BlobStore$Row", name := "addAll", desc := "(LBlobStore$Row;)V" } : Jvm.MethodName) "BlobStore") ∈ bNst := tn_t (tt_3 27 rfl) rfl
theorem t3_28 : (Jvm.Cond.methodLink "BlobStoreLaw" (72 : Nat) ({ cls := "BlobStoreLaw", name := "abort", desc := "(LBlobStore;I)I" } : Jvm.MethodName)) ∈ Tb := tb_t (tt_3 28 rfl) rfl
theorem t3_29 : (Jvm.Cond.static ({ cls := "BlobStoreLaw", name := "abort", desc := "(LBlobStore;I)I" } : Jvm.MethodName)) ∈ Tb := tb_t (tt_3 29 rfl) rfl
theorem t3_30 : (Jvm.Cond.codeWith ({ cls := "BlobStoreLaw", name := "abort", desc := "(LBlobStore;I)I" } : Jvm.MethodName) method_6_code (3 : Nat) (Option.some Jvm.ClassFile.FieldType.int) [((0 : Nat), (5 : Nat), (8 : Nat), (13 : Nat)), ((0 : Nat), (5 : Nat), (11 : Nat), (15 : Nat)), ((0 : Nat), (5 : Nat), (14 : Nat), (17 : Nat))]) ∈ Tb := tb_t (tt_3 30 rfl) rfl
theorem t3_31 : (Jvm.Cond.methodLink "BlobStoreLaw" (29 : Nat) ({ cls := "BlobStore", name := "abort", desc := "(I)V" } : Jvm.MethodName)) ∈ Tb := tb_t (tt_3 31 rfl) rfl
theorem t3_32 : (Jvm.Cond.instanceMethod ({ cls := "BlobStore", name := "abort", desc := "(I)V" } : Jvm.MethodName)) ∈ Tb := tb_t (tt_3 32 rfl) rfl
theorem t3_33 : (Jvm.Cond.selects "BlobStore" ({ cls := "BlobStore", name := "abort", desc := "(I)V" } : Jvm.MethodName) ({ cls := "BlobStore", name := "abort", desc := "(I)V" } : Jvm.MethodName)) ∈ Tb := tb_t (tt_3 33 rfl) rfl
theorem t3_34 : (Jvm.Cond.code ({ cls := "BlobStore", name := "abort", desc := "(I)V" } : Jvm.MethodName) prog_1_method_5_code (3 : Nat) (Option.none : Option Jvm.ClassFile.FieldType)) ∈ Tb := tb_t (tt_3 34 rfl) rfl
theorem t3_35 : (Jvm.Cond.methodLink "BlobStoreLaw" (76 : Nat) ({ cls := "BlobStoreLaw", name := "delete", desc := "(LBlobStore;I[J)I" } : Jvm.MethodName)) ∈ Tb := tb_t (tt_3 35 rfl) rfl
theorem t3_36 : (Jvm.Cond.static ({ cls := "BlobStoreLaw", name := "delete", desc := "(LBlobStore;I[J)I" } : Jvm.MethodName)) ∈ Tb := tb_t (tt_3 36 rfl) rfl
theorem t3_37 : (Jvm.Cond.codeWith ({ cls := "BlobStoreLaw", name := "delete", desc := "(LBlobStore;I[J)I" } : Jvm.MethodName) method_7_code (4 : Nat) (Option.some Jvm.ClassFile.FieldType.int) [((0 : Nat), (16 : Nat), (19 : Nat), (13 : Nat)), ((0 : Nat), (16 : Nat), (22 : Nat), (17 : Nat))]) ∈ Tb := tb_t (tt_3 37 rfl) rfl
theorem t3_38 : (Jvm.Cond.methodLink "BlobStoreLaw" (33 : Nat) ({ cls := "BlobStore", name := "delete", desc := "(I)Z" } : Jvm.MethodName)) ∈ Tb := tb_t (tt_3 38 rfl) rfl
theorem t3_39 : (Jvm.Cond.instanceMethod ({ cls := "BlobStore", name := "delete", desc := "(I)Z" } : Jvm.MethodName)) ∈ Tb := tb_t (tt_3 39 rfl) rfl
theorem t3_40 : (Jvm.Cond.selects "BlobStore" ({ cls := "BlobStore", name := "delete", desc := "(I)Z" } : Jvm.MethodName) ({ cls := "BlobStore", name := "delete", desc := "(I)Z" } : Jvm.MethodName)) ∈ Tb := tb_t (tt_3 40 rfl) rfl
theorem t3_41 : (Jvm.Cond.code ({ cls := "BlobStore", name := "delete", desc := "(I)Z" } : Jvm.MethodName) prog_1_method_6_code (3 : Nat) (Option.some Jvm.ClassFile.FieldType.boolean)) ∈ Tb := tb_t (tt_3 41 rfl) rfl
theorem t3_42 : (Jvm.Cond.methodLink "BlobStoreLaw" (79 : Nat) ({ cls := "BlobStoreLaw", name := "collect", desc := "(LBlobStore;[J)I" } : Jvm.MethodName)) ∈ Tb := tb_t (tt_3 42 rfl) rfl
theorem t3_43 : (Jvm.Cond.static ({ cls := "BlobStoreLaw", name := "collect", desc := "(LBlobStore;[J)I" } : Jvm.MethodName)) ∈ Tb := tb_t (tt_3 43 rfl) rfl
theorem t3_44 : (Jvm.Cond.codeWith ({ cls := "BlobStoreLaw", name := "collect", desc := "(LBlobStore;[J)I" } : Jvm.MethodName) method_8_code (3 : Nat) (Option.some Jvm.ClassFile.FieldType.int) [((0 : Nat), (8 : Nat), (11 : Nat), (13 : Nat)), ((0 : Nat), (8 : Nat), (14 : Nat), (17 : Nat))]) ∈ Tb := tb_t (tt_3 44 rfl) rfl
theorem t3_45 : (Jvm.Cond.methodLink "BlobStoreLaw" (37 : Nat) ({ cls := "BlobStore", name := "collect", desc := "()I" } : Jvm.MethodName)) ∈ Tb := tb_t (tt_3 45 rfl) rfl
theorem t3_46 : (Jvm.Cond.instanceMethod ({ cls := "BlobStore", name := "collect", desc := "()I" } : Jvm.MethodName)) ∈ Tb := tb_t (tt_3 46 rfl) rfl
theorem t3_47 : (Jvm.Cond.selects "BlobStore" ({ cls := "BlobStore", name := "collect", desc := "()I" } : Jvm.MethodName) ({ cls := "BlobStore", name := "collect", desc := "()I" } : Jvm.MethodName)) ∈ Tb := tb_t (tt_3 47 rfl) rfl
theorem t3_48 : (Jvm.Cond.code ({ cls := "BlobStore", name := "collect", desc := "()I" } : Jvm.MethodName) prog_1_method_7_code (3 : Nat) (Option.some Jvm.ClassFile.FieldType.int)) ∈ Tb := tb_t (tt_3 48 rfl) rfl
theorem n3_49 : (Jvm.Cond.methodLinkNest "BlobStore" (143 : Nat) ({ cls := "BlobStore$Chunk", name := "free", desc := "()V" } : Jvm.MethodName) "BlobStore") ∈ bNst := tn_t (tt_3 49 rfl) rfl
theorem u3_50 : (Jvm.Cond.privateMethod ({ cls := "BlobStore$Chunk", name := "free", desc := "()V" } : Jvm.MethodName)) ∈ tables_1 := tt_3 50 rfl
theorem t3_51 : (Jvm.Cond.instanceMethod ({ cls := "BlobStore$Chunk", name := "free", desc := "()V" } : Jvm.MethodName)) ∈ Tb := tb_t (tt_3 51 rfl) rfl
theorem t3_52 : (Jvm.Cond.code ({ cls := "BlobStore$Chunk", name := "free", desc := "()V" } : Jvm.MethodName) prog_2_method_3_code (1 : Nat) (Option.none : Option Jvm.ClassFile.FieldType)) ∈ Tb := tb_t (tt_3 52 rfl) rfl
theorem t3_53 : (Jvm.Cond.methodLink "BlobStoreLaw" (83 : Nat) ({ cls := "BlobStoreLaw", name := "cutAfter", desc := "(LBlobStore;I)I" } : Jvm.MethodName)) ∈ Tb := tb_t (tt_3 53 rfl) rfl
theorem t3_54 : (Jvm.Cond.static ({ cls := "BlobStoreLaw", name := "cutAfter", desc := "(LBlobStore;I)I" } : Jvm.MethodName)) ∈ Tb := tb_t (tt_3 54 rfl) rfl
theorem t3_55 : (Jvm.Cond.codeWith ({ cls := "BlobStoreLaw", name := "cutAfter", desc := "(LBlobStore;I)I" } : Jvm.MethodName) method_9_code (3 : Nat) (Option.some Jvm.ClassFile.FieldType.int) [((0 : Nat), (5 : Nat), (8 : Nat), (15 : Nat))]) ∈ Tb := tb_t (tt_3 55 rfl) rfl
theorem t3_56 : (Jvm.Cond.methodLink "BlobStoreLaw" (41 : Nat) ({ cls := "BlobStore", name := "cutAfter", desc := "(I)V" } : Jvm.MethodName)) ∈ Tb := tb_t (tt_3 56 rfl) rfl
theorem t3_57 : (Jvm.Cond.instanceMethod ({ cls := "BlobStore", name := "cutAfter", desc := "(I)V" } : Jvm.MethodName)) ∈ Tb := tb_t (tt_3 57 rfl) rfl
theorem t3_58 : (Jvm.Cond.selects "BlobStore" ({ cls := "BlobStore", name := "cutAfter", desc := "(I)V" } : Jvm.MethodName) ({ cls := "BlobStore", name := "cutAfter", desc := "(I)V" } : Jvm.MethodName)) ∈ Tb := tb_t (tt_3 58 rfl) rfl
theorem t3_59 : (Jvm.Cond.code ({ cls := "BlobStore", name := "cutAfter", desc := "(I)V" } : Jvm.MethodName) prog_1_method_8_code (2 : Nat) (Option.none : Option Jvm.ClassFile.FieldType)) ∈ Tb := tb_t (tt_3 59 rfl) rfl
theorem u3_60 : (Jvm.Cond.stringRef "BlobStore" (146 : Nat) "no such count of writes") ∈ tables_1 := tt_3 60 rfl
theorem n3_61 : (Jvm.Cond.methodLinkNest "BlobStore" (148 : Nat) ({ cls := "BlobStore$Power", name := "tellCut", desc := "(I)V" } : Jvm.MethodName) "BlobStore") ∈ bNst := tn_t (tt_3 61 rfl) rfl
theorem u3_62 : (Jvm.Cond.privateMethod ({ cls := "BlobStore$Power", name := "tellCut", desc := "(I)V" } : Jvm.MethodName)) ∈ tables_1 := tt_3 62 rfl
theorem t3_63 : (Jvm.Cond.instanceMethod ({ cls := "BlobStore$Power", name := "tellCut", desc := "(I)V" } : Jvm.MethodName)) ∈ Tb := tb_t (tt_3 63 rfl) rfl
theorem t3_64 : (Jvm.Cond.code ({ cls := "BlobStore$Power", name := "tellCut", desc := "(I)V" } : Jvm.MethodName) prog_3_method_4_code (2 : Nat) (Option.none : Option Jvm.ClassFile.FieldType)) ∈ Tb := tb_t (tt_3 64 rfl) rfl
theorem t3_65 : (Jvm.Cond.methodLink "BlobStoreLaw" (103 : Nat) ({ cls := "BlobStoreLaw", name := "address", desc := "(LBlobStore;II[J)I" } : Jvm.MethodName)) ∈ Tb := tb_t (tt_3 65 rfl) rfl
theorem t3_66 : (Jvm.Cond.static ({ cls := "BlobStoreLaw", name := "address", desc := "(LBlobStore;II[J)I" } : Jvm.MethodName)) ∈ Tb := tb_t (tt_3 66 rfl) rfl
theorem t3_67 : (Jvm.Cond.codeWith ({ cls := "BlobStoreLaw", name := "address", desc := "(LBlobStore;II[J)I" } : Jvm.MethodName) method_10_code (5 : Nat) (Option.some Jvm.ClassFile.FieldType.int) [((0 : Nat), (10 : Nat), (13 : Nat), (47 : Nat))]) ∈ Tb := tb_t (tt_3 67 rfl) rfl
theorem t3_68 : (Jvm.Cond.classLink "BlobStoreLaw" (47 : Nat) "java/util/NoSuchElementException") ∈ Tb := tb_t (tt_3 68 rfl) rfl
theorem t3_69 : (Jvm.Cond.methodLink "BlobStoreLaw" (44 : Nat) ({ cls := "BlobStore", name := "address", desc := "(II)I" } : Jvm.MethodName)) ∈ Tb := tb_t (tt_3 69 rfl) rfl
theorem t3_70 : (Jvm.Cond.instanceMethod ({ cls := "BlobStore", name := "address", desc := "(II)I" } : Jvm.MethodName)) ∈ Tb := tb_t (tt_3 70 rfl) rfl
theorem t3_71 : (Jvm.Cond.selects "BlobStore" ({ cls := "BlobStore", name := "address", desc := "(II)I" } : Jvm.MethodName) ({ cls := "BlobStore", name := "address", desc := "(II)I" } : Jvm.MethodName)) ∈ Tb := tb_t (tt_3 71 rfl) rfl
theorem t3_72 : (Jvm.Cond.code ({ cls := "BlobStore", name := "address", desc := "(II)I" } : Jvm.MethodName) prog_1_method_13_code (3 : Nat) (Option.some Jvm.ClassFile.FieldType.int)) ∈ Tb := tb_t (tt_3 72 rfl) rfl
theorem t3_73 : (Jvm.Cond.classLink "BlobStore" (176 : Nat) "java/util/NoSuchElementException") ∈ Tb := tb_t (tt_3 73 rfl) rfl
theorem t3_74 : (Jvm.Cond.instantiable "java/util/NoSuchElementException" (6 : Nat)) ∈ Tb := tb_t (tt_3 74 rfl) rfl
theorem n3_75 : (Jvm.Cond.castable "java/util/NoSuchElementException" "java/util/NoSuchElementException") ∈ bNst := tn_t (tt_3 75 rfl) rfl
theorem t3_76 : (Jvm.Cond.selects "java/util/NoSuchElementException" ({ cls := "java/lang/Throwable", name := "fillInStackTrace", desc := "(I)Ljava/lang/Throwable;" } : Jvm.MethodName) ({ cls := "java/lang/Throwable", name := "fillInStackTrace", desc := "(I)Ljava/lang/Throwable;" } : Jvm.MethodName)) ∈ Tb := tb_t (tt_3 76 rfl) rfl
theorem t3_77 : (Jvm.Cond.lays "java/util/NoSuchElementException" "java/lang/Throwable" "cause" "Ljava/lang/Throwable;") ∈ Tb := tb_t (tt_3 77 rfl) rfl
theorem t3_78 : (Jvm.Cond.lays "java/util/NoSuchElementException" "java/lang/Throwable" "stackTrace" "[Ljava/lang/StackTraceElement;") ∈ Tb := tb_t (tt_3 78 rfl) rfl
theorem t3_79 : (Jvm.Cond.lays "java/util/NoSuchElementException" "java/lang/Throwable" "suppressedExceptions" "Ljava/util/List;") ∈ Tb := tb_t (tt_3 79 rfl) rfl
theorem t3_80 : (Jvm.Cond.lays "java/util/NoSuchElementException" "java/lang/Throwable" "detailMessage" "Ljava/lang/String;") ∈ Tb := tb_t (tt_3 80 rfl) rfl
theorem t3_81 : (Jvm.Cond.lays "java/util/NoSuchElementException" "java/lang/Throwable" "backtrace" "Ljava/lang/Object;") ∈ Tb := tb_t (tt_3 81 rfl) rfl
theorem u3_82 : (Jvm.Cond.stringRef "BlobStore" (178 : Nat) "no such chunk or word") ∈ tables_1 := tt_3 82 rfl
theorem t3_83 : (Jvm.Cond.methodLink "BlobStore" (180 : Nat) ({ cls := "java/util/NoSuchElementException", name := "<init>", desc := "(Ljava/lang/String;)V" } : Jvm.MethodName)) ∈ Tb := tb_t (tt_3 83 rfl) rfl
theorem t3_84 : (Jvm.Cond.instanceMethod ({ cls := "java/util/NoSuchElementException", name := "<init>", desc := "(Ljava/lang/String;)V" } : Jvm.MethodName)) ∈ Tb := tb_t (tt_3 84 rfl) rfl
theorem t3_85 : (Jvm.Cond.code ({ cls := "java/util/NoSuchElementException", name := "<init>", desc := "(Ljava/lang/String;)V" } : Jvm.MethodName) prog_21_method_4_code (2 : Nat) (Option.none : Option Jvm.ClassFile.FieldType)) ∈ Tb := tb_t (tt_3 85 rfl) rfl
theorem t3_86 : (Jvm.Cond.methodLink "java/util/NoSuchElementException" (13 : Nat) ({ cls := "java/lang/RuntimeException", name := "<init>", desc := "(Ljava/lang/String;)V" } : Jvm.MethodName)) ∈ Tb := tb_t (tt_3 86 rfl) rfl
theorem t3_87 : (Jvm.Cond.lays "java/util/NoSuchElementException" "java/lang/Throwable" "depth" "I") ∈ Tb := tb_t (tt_3 87 rfl) rfl
theorem t3_88 : (Jvm.Cond.superclass "java/util/NoSuchElementException" "java/lang/RuntimeException") ∈ Tb := tb_t (tt_3 88 rfl) rfl
theorem t3_89 : (Jvm.Cond.classLink "BlobStoreLaw" (50 : Nat) "BlobStoreModel") ∈ Tb := tb_t (tt_3 89 rfl) rfl
theorem t3_90 : (Jvm.Cond.instantiable "BlobStoreModel" (22 : Nat)) ∈ Tb := tb_t (tt_3 90 rfl) rfl
theorem t3_91 : (Jvm.Cond.methodLink "BlobStoreLaw" (52 : Nat) ({ cls := "BlobStoreModel", name := "<init>", desc := "()V" } : Jvm.MethodName)) ∈ Tb := tb_t (tt_3 91 rfl) rfl
theorem t3_92 : (Jvm.Cond.instanceMethod ({ cls := "BlobStoreModel", name := "<init>", desc := "()V" } : Jvm.MethodName)) ∈ Tb := tb_t (tt_3 92 rfl) rfl
theorem t3_93 : (Jvm.Cond.code ({ cls := "BlobStoreModel", name := "<init>", desc := "()V" } : Jvm.MethodName) prog_9_method_1_code (3 : Nat) (Option.none : Option Jvm.ClassFile.FieldType)) ∈ Tb := tb_t (tt_3 93 rfl) rfl
theorem t3_94 : (Jvm.Cond.methodLink "BlobStoreModel" (1 : Nat) ({ cls := "java/lang/Object", name := "<init>", desc := "()V" } : Jvm.MethodName)) ∈ Tb := tb_t (tt_3 94 rfl) rfl
theorem t3_95 : (Jvm.Cond.methodLink "BlobStoreModel" (67 : Nat) ({ cls := "BlobStoreModel", name := "isPrime", desc := "(I)Z" } : Jvm.MethodName)) ∈ Tb := tb_t (tt_3 95 rfl) rfl
theorem t3_96 : (Jvm.Cond.static ({ cls := "BlobStoreModel", name := "isPrime", desc := "(I)Z" } : Jvm.MethodName)) ∈ Tb := tb_t (tt_3 96 rfl) rfl
theorem t3_97 : (Jvm.Cond.code ({ cls := "BlobStoreModel", name := "isPrime", desc := "(I)Z" } : Jvm.MethodName) prog_9_method_5_code (2 : Nat) (Option.some Jvm.ClassFile.FieldType.boolean)) ∈ Tb := tb_t (tt_3 97 rfl) rfl
theorem t3_98 : (Jvm.Cond.methodLink "BlobStoreModel" (71 : Nat) ({ cls := "BlobStoreModel", name := "root", desc := "(II)I" } : Jvm.MethodName)) ∈ Tb := tb_t (tt_3 98 rfl) rfl
theorem u3_99 : (Jvm.Cond.privateMethod ({ cls := "BlobStoreModel", name := "root", desc := "(II)I" } : Jvm.MethodName)) ∈ tables_1 := tt_3 99 rfl
theorem t3_100 : (Jvm.Cond.instanceMethod ({ cls := "BlobStoreModel", name := "root", desc := "(II)I" } : Jvm.MethodName)) ∈ Tb := tb_t (tt_3 100 rfl) rfl
theorem t3_101 : (Jvm.Cond.code ({ cls := "BlobStoreModel", name := "root", desc := "(II)I" } : Jvm.MethodName) prog_9_method_6_code (6 : Nat) (Option.some Jvm.ClassFile.FieldType.int)) ∈ Tb := tb_t (tt_3 101 rfl) rfl
theorem t3_102 : (Jvm.Cond.methodLink "BlobStoreModel" (78 : Nat) ({ cls := "BlobStoreModel", name := "isAbove", desc := "(JII)Z" } : Jvm.MethodName)) ∈ Tb := tb_t (tt_3 102 rfl) rfl
theorem u3_103 : (Jvm.Cond.privateMethod ({ cls := "BlobStoreModel", name := "isAbove", desc := "(JII)Z" } : Jvm.MethodName)) ∈ tables_1 := tt_3 103 rfl
theorem t3_104 : (Jvm.Cond.instanceMethod ({ cls := "BlobStoreModel", name := "isAbove", desc := "(JII)Z" } : Jvm.MethodName)) ∈ Tb := tb_t (tt_3 104 rfl) rfl
theorem t3_105 : (Jvm.Cond.code ({ cls := "BlobStoreModel", name := "isAbove", desc := "(JII)Z" } : Jvm.MethodName) prog_9_method_7_code (15 : Nat) (Option.some Jvm.ClassFile.FieldType.boolean)) ∈ Tb := tb_t (tt_3 105 rfl) rfl
theorem t3_106 : (Jvm.Cond.constantLong "BlobStoreModel" (82 : Nat) (1048575 : Int64)) ∈ Tb := tb_t (tt_3 106 rfl) rfl
theorem t3_107 : (Jvm.Cond.fieldLink "BlobStoreModel" (75 : Nat) "BlobStoreModel" "thrown" "I") ∈ Tb := tb_t (tt_3 107 rfl) rfl
theorem t3_108 : (Jvm.Cond.fieldLink "BlobStoreModel" (7 : Nat) "BlobStoreModel" "sizes" "[I") ∈ Tb := tb_t (tt_3 108 rfl) rfl
theorem t3_109 : (Jvm.Cond.fieldLink "BlobStoreModel" (13 : Nat) "BlobStoreModel" "bytes" "[I") ∈ Tb := tb_t (tt_3 109 rfl) rfl
theorem t3_110 : (Jvm.Cond.fieldLink "BlobStoreModel" (16 : Nat) "BlobStoreModel" "open" "[Z") ∈ Tb := tb_t (tt_3 110 rfl) rfl
theorem t3_111 : (Jvm.Cond.fieldLink "BlobStoreModel" (20 : Nat) "BlobStoreModel" "sessionBucket" "[I") ∈ Tb := tb_t (tt_3 111 rfl) rfl
theorem t3_112 : (Jvm.Cond.fieldLink "BlobStoreModel" (23 : Nat) "BlobStoreModel" "sessionKey" "[I") ∈ Tb := tb_t (tt_3 112 rfl) rfl
theorem t3_113 : (Jvm.Cond.fieldLink "BlobStoreModel" (26 : Nat) "BlobStoreModel" "partSize" "[I") ∈ Tb := tb_t (tt_3 113 rfl) rfl
theorem t3_114 : (Jvm.Cond.fieldLink "BlobStoreModel" (29 : Nat) "BlobStoreModel" "partSlots" "[I") ∈ Tb := tb_t (tt_3 114 rfl) rfl
theorem t3_115 : (Jvm.Cond.fieldLink "BlobStoreModel" (135 : Nat) "BlobStoreModel" "versions" "I") ∈ Tb := tb_t (tt_3 115 rfl) rfl
theorem t3_116 : (Jvm.Cond.fieldLink "BlobStoreModel" (32 : Nat) "BlobStoreModel" "lives" "[Z") ∈ Tb := tb_t (tt_3 116 rfl) rfl
theorem t3_117 : (Jvm.Cond.fieldLink "BlobStoreModel" (35 : Nat) "BlobStoreModel" "versionBucket" "[I") ∈ Tb := tb_t (tt_3 117 rfl) rfl
theorem t3_118 : (Jvm.Cond.fieldLink "BlobStoreModel" (38 : Nat) "BlobStoreModel" "versionKey" "[I") ∈ Tb := tb_t (tt_3 118 rfl) rfl
theorem t3_119 : (Jvm.Cond.fieldLink "BlobStoreModel" (41 : Nat) "BlobStoreModel" "versionSize" "[I") ∈ Tb := tb_t (tt_3 119 rfl) rfl
theorem t3_120 : (Jvm.Cond.fieldLink "BlobStoreModel" (44 : Nat) "BlobStoreModel" "versionSlots" "[I") ∈ Tb := tb_t (tt_3 120 rfl) rfl
theorem t3_121 : (Jvm.Cond.fieldLink "BlobStoreModel" (91 : Nat) "BlobStoreModel" "writes" "I") ∈ Tb := tb_t (tt_3 121 rfl) rfl
theorem t3_122 : (Jvm.Cond.fieldLink "BlobStoreModel" (47 : Nat) "BlobStoreModel" "cut" "I") ∈ Tb := tb_t (tt_3 122 rfl) rfl
theorem t3_123 : (Jvm.Cond.fieldLink "BlobStoreModel" (87 : Nat) "BlobStoreModel" "down" "Z") ∈ Tb := tb_t (tt_3 123 rfl) rfl
theorem t3_124 : (Jvm.Cond.fieldLink "BlobStoreModel" (51 : Nat) "BlobStoreModel" "constants" "[I") ∈ Tb := tb_t (tt_3 124 rfl) rfl
theorem t3_125 : (Jvm.Cond.fieldLink "BlobStoreModel" (54 : Nat) "BlobStoreModel" "schedule" "[I") ∈ Tb := tb_t (tt_3 125 rfl) rfl
theorem t3_126 : (Jvm.Cond.fieldLink "BlobStoreModel" (57 : Nat) "BlobStoreModel" "hash" "[I") ∈ Tb := tb_t (tt_3 126 rfl) rfl
theorem t3_127 : (Jvm.Cond.fieldLink "BlobStoreModel" (60 : Nat) "BlobStoreModel" "row" "[I") ∈ Tb := tb_t (tt_3 127 rfl) rfl
theorem t3_128 : (Jvm.Cond.fieldLink "BlobStoreModel" (63 : Nat) "BlobStoreModel" "limbs" "[J") ∈ Tb := tb_t (tt_3 128 rfl) rfl
theorem t3_129 : (Jvm.Cond.lays "BlobStoreModel" "BlobStoreModel" "thrown" "I") ∈ Tb := tb_t (tt_3 129 rfl) rfl
theorem u3_130 : (Jvm.Cond.soleField "BlobStoreModel" "thrown") ∈ tables_1 := tt_3 130 rfl
theorem t3_131 : (Jvm.Cond.laysFinal "BlobStoreModel" "BlobStoreModel" "sizes" "[I") ∈ Tb := tb_t (tt_3 131 rfl) rfl
theorem u3_132 : (Jvm.Cond.soleField "BlobStoreModel" "sizes") ∈ tables_1 := tt_3 132 rfl
theorem t3_133 : (Jvm.Cond.laysFinal "BlobStoreModel" "BlobStoreModel" "bytes" "[I") ∈ Tb := tb_t (tt_3 133 rfl) rfl
theorem u3_134 : (Jvm.Cond.soleField "BlobStoreModel" "bytes") ∈ tables_1 := tt_3 134 rfl
theorem t3_135 : (Jvm.Cond.laysFinal "BlobStoreModel" "BlobStoreModel" "open" "[Z") ∈ Tb := tb_t (tt_3 135 rfl) rfl
theorem u3_136 : (Jvm.Cond.soleField "BlobStoreModel" "open") ∈ tables_1 := tt_3 136 rfl
theorem t3_137 : (Jvm.Cond.laysFinal "BlobStoreModel" "BlobStoreModel" "sessionBucket" "[I") ∈ Tb := tb_t (tt_3 137 rfl) rfl
theorem u3_138 : (Jvm.Cond.soleField "BlobStoreModel" "sessionBucket") ∈ tables_1 := tt_3 138 rfl
theorem t3_139 : (Jvm.Cond.laysFinal "BlobStoreModel" "BlobStoreModel" "sessionKey" "[I") ∈ Tb := tb_t (tt_3 139 rfl) rfl
theorem u3_140 : (Jvm.Cond.soleField "BlobStoreModel" "sessionKey") ∈ tables_1 := tt_3 140 rfl
theorem t3_141 : (Jvm.Cond.laysFinal "BlobStoreModel" "BlobStoreModel" "partSize" "[I") ∈ Tb := tb_t (tt_3 141 rfl) rfl
theorem u3_142 : (Jvm.Cond.soleField "BlobStoreModel" "partSize") ∈ tables_1 := tt_3 142 rfl
theorem t3_143 : (Jvm.Cond.laysFinal "BlobStoreModel" "BlobStoreModel" "partSlots" "[I") ∈ Tb := tb_t (tt_3 143 rfl) rfl
theorem u3_144 : (Jvm.Cond.soleField "BlobStoreModel" "partSlots") ∈ tables_1 := tt_3 144 rfl
theorem t3_145 : (Jvm.Cond.lays "BlobStoreModel" "BlobStoreModel" "versions" "I") ∈ Tb := tb_t (tt_3 145 rfl) rfl
theorem u3_146 : (Jvm.Cond.soleField "BlobStoreModel" "versions") ∈ tables_1 := tt_3 146 rfl
theorem t3_147 : (Jvm.Cond.laysFinal "BlobStoreModel" "BlobStoreModel" "lives" "[Z") ∈ Tb := tb_t (tt_3 147 rfl) rfl
theorem u3_148 : (Jvm.Cond.soleField "BlobStoreModel" "lives") ∈ tables_1 := tt_3 148 rfl
theorem t3_149 : (Jvm.Cond.laysFinal "BlobStoreModel" "BlobStoreModel" "versionBucket" "[I") ∈ Tb := tb_t (tt_3 149 rfl) rfl
theorem u3_150 : (Jvm.Cond.soleField "BlobStoreModel" "versionBucket") ∈ tables_1 := tt_3 150 rfl
theorem t3_151 : (Jvm.Cond.laysFinal "BlobStoreModel" "BlobStoreModel" "versionKey" "[I") ∈ Tb := tb_t (tt_3 151 rfl) rfl
theorem u3_152 : (Jvm.Cond.soleField "BlobStoreModel" "versionKey") ∈ tables_1 := tt_3 152 rfl
theorem t3_153 : (Jvm.Cond.laysFinal "BlobStoreModel" "BlobStoreModel" "versionSize" "[I") ∈ Tb := tb_t (tt_3 153 rfl) rfl
theorem u3_154 : (Jvm.Cond.soleField "BlobStoreModel" "versionSize") ∈ tables_1 := tt_3 154 rfl
theorem t3_155 : (Jvm.Cond.laysFinal "BlobStoreModel" "BlobStoreModel" "versionSlots" "[I") ∈ Tb := tb_t (tt_3 155 rfl) rfl
theorem u3_156 : (Jvm.Cond.soleField "BlobStoreModel" "versionSlots") ∈ tables_1 := tt_3 156 rfl
theorem t3_157 : (Jvm.Cond.lays "BlobStoreModel" "BlobStoreModel" "writes" "I") ∈ Tb := tb_t (tt_3 157 rfl) rfl
theorem u3_158 : (Jvm.Cond.soleField "BlobStoreModel" "writes") ∈ tables_1 := tt_3 158 rfl
theorem t3_159 : (Jvm.Cond.lays "BlobStoreModel" "BlobStoreModel" "cut" "I") ∈ Tb := tb_t (tt_3 159 rfl) rfl
theorem u3_160 : (Jvm.Cond.soleField "BlobStoreModel" "cut") ∈ tables_1 := tt_3 160 rfl
theorem t3_161 : (Jvm.Cond.lays "BlobStoreModel" "BlobStoreModel" "down" "Z") ∈ Tb := tb_t (tt_3 161 rfl) rfl
theorem u3_162 : (Jvm.Cond.soleField "BlobStoreModel" "down") ∈ tables_1 := tt_3 162 rfl
theorem t3_163 : (Jvm.Cond.laysFinal "BlobStoreModel" "BlobStoreModel" "constants" "[I") ∈ Tb := tb_t (tt_3 163 rfl) rfl
theorem u3_164 : (Jvm.Cond.soleField "BlobStoreModel" "constants") ∈ tables_1 := tt_3 164 rfl
theorem t3_165 : (Jvm.Cond.laysFinal "BlobStoreModel" "BlobStoreModel" "schedule" "[I") ∈ Tb := tb_t (tt_3 165 rfl) rfl
theorem u3_166 : (Jvm.Cond.soleField "BlobStoreModel" "schedule") ∈ tables_1 := tt_3 166 rfl
theorem t3_167 : (Jvm.Cond.laysFinal "BlobStoreModel" "BlobStoreModel" "hash" "[I") ∈ Tb := tb_t (tt_3 167 rfl) rfl
theorem u3_168 : (Jvm.Cond.soleField "BlobStoreModel" "hash") ∈ tables_1 := tt_3 168 rfl
theorem t3_169 : (Jvm.Cond.laysFinal "BlobStoreModel" "BlobStoreModel" "row" "[I") ∈ Tb := tb_t (tt_3 169 rfl) rfl
theorem u3_170 : (Jvm.Cond.soleField "BlobStoreModel" "row") ∈ tables_1 := tt_3 170 rfl
theorem t3_171 : (Jvm.Cond.laysFinal "BlobStoreModel" "BlobStoreModel" "limbs" "[J") ∈ Tb := tb_t (tt_3 171 rfl) rfl
theorem u3_172 : (Jvm.Cond.soleField "BlobStoreModel" "limbs") ∈ tables_1 := tt_3 172 rfl
theorem t3_173 : (Jvm.Cond.superclass "BlobStoreModel" "java/lang/Object") ∈ Tb := tb_t (tt_3 173 rfl) rfl
theorem t3_174 : (Jvm.Cond.arrayClass Jvm.ClassFile.FieldType.boolean) ∈ Tb := tb_t (tt_3 174 rfl) rfl
theorem t3_175 : (Jvm.Cond.arrayClass Jvm.ClassFile.FieldType.long) ∈ Tb := tb_t (tt_3 175 rfl) rfl
theorem t3_176 : (Jvm.Cond.methodLink "BlobStoreLaw" (59 : Nat) ({ cls := "BlobStoreModel", name := "thrown", desc := "()I" } : Jvm.MethodName)) ∈ Tb := tb_t (tt_3 176 rfl) rfl
theorem t3_177 : (Jvm.Cond.instanceMethod ({ cls := "BlobStoreModel", name := "thrown", desc := "()I" } : Jvm.MethodName)) ∈ Tb := tb_t (tt_3 177 rfl) rfl
theorem t3_178 : (Jvm.Cond.selects "BlobStoreModel" ({ cls := "BlobStoreModel", name := "thrown", desc := "()I" } : Jvm.MethodName) ({ cls := "BlobStoreModel", name := "thrown", desc := "()I" } : Jvm.MethodName)) ∈ Tb := tb_t (tt_3 178 rfl) rfl
theorem t3_179 : (Jvm.Cond.code ({ cls := "BlobStoreModel", name := "thrown", desc := "()I" } : Jvm.MethodName) prog_9_method_2_code (1 : Nat) (Option.some Jvm.ClassFile.FieldType.int)) ∈ Tb := tb_t (tt_3 179 rfl) rfl
theorem t3_180 : (Jvm.Cond.methodLink "BlobStoreLaw" (58 : Nat) ({ cls := "BlobStoreModel", name := "begin", desc := "(II)I" } : Jvm.MethodName)) ∈ Tb := tb_t (tt_3 180 rfl) rfl
theorem t3_181 : (Jvm.Cond.instanceMethod ({ cls := "BlobStoreModel", name := "begin", desc := "(II)I" } : Jvm.MethodName)) ∈ Tb := tb_t (tt_3 181 rfl) rfl
theorem t3_182 : (Jvm.Cond.selects "BlobStoreModel" ({ cls := "BlobStoreModel", name := "begin", desc := "(II)I" } : Jvm.MethodName) ({ cls := "BlobStoreModel", name := "begin", desc := "(II)I" } : Jvm.MethodName)) ∈ Tb := tb_t (tt_3 182 rfl) rfl
theorem t3_183 : (Jvm.Cond.code ({ cls := "BlobStoreModel", name := "begin", desc := "(II)I" } : Jvm.MethodName) prog_9_method_20_code (5 : Nat) (Option.some Jvm.ClassFile.FieldType.int)) ∈ Tb := tb_t (tt_3 183 rfl) rfl
theorem t3_184 : (Jvm.Cond.methodLink "BlobStoreModel" (109 : Nat) ({ cls := "BlobStoreModel", name := "in", desc := "(III)Z" } : Jvm.MethodName)) ∈ Tb := tb_t (tt_3 184 rfl) rfl
theorem t3_185 : (Jvm.Cond.static ({ cls := "BlobStoreModel", name := "in", desc := "(III)Z" } : Jvm.MethodName)) ∈ Tb := tb_t (tt_3 185 rfl) rfl
theorem t3_186 : (Jvm.Cond.code ({ cls := "BlobStoreModel", name := "in", desc := "(III)Z" } : Jvm.MethodName) prog_9_method_4_code (3 : Nat) (Option.some Jvm.ClassFile.FieldType.boolean)) ∈ Tb := tb_t (tt_3 186 rfl) rfl
theorem t3_187 : (Jvm.Cond.methodLink "BlobStoreModel" (112 : Nat) ({ cls := "BlobStoreModel", name := "says", desc := "(I)Z" } : Jvm.MethodName)) ∈ Tb := tb_t (tt_3 187 rfl) rfl
theorem u3_188 : (Jvm.Cond.privateMethod ({ cls := "BlobStoreModel", name := "says", desc := "(I)Z" } : Jvm.MethodName)) ∈ tables_1 := tt_3 188 rfl
theorem t3_189 : (Jvm.Cond.instanceMethod ({ cls := "BlobStoreModel", name := "says", desc := "(I)Z" } : Jvm.MethodName)) ∈ Tb := tb_t (tt_3 189 rfl) rfl
theorem t3_190 : (Jvm.Cond.code ({ cls := "BlobStoreModel", name := "says", desc := "(I)Z" } : Jvm.MethodName) prog_9_method_3_code (2 : Nat) (Option.some Jvm.ClassFile.FieldType.boolean)) ∈ Tb := tb_t (tt_3 190 rfl) rfl
theorem t3_191 : (Jvm.Cond.methodLink "BlobStoreModel" (115 : Nat) ({ cls := "BlobStoreModel", name := "writes", desc := "(I)Z" } : Jvm.MethodName)) ∈ Tb := tb_t (tt_3 191 rfl) rfl
theorem u3_192 : (Jvm.Cond.privateMethod ({ cls := "BlobStoreModel", name := "writes", desc := "(I)Z" } : Jvm.MethodName)) ∈ tables_1 := tt_3 192 rfl
theorem t3_193 : (Jvm.Cond.instanceMethod ({ cls := "BlobStoreModel", name := "writes", desc := "(I)Z" } : Jvm.MethodName)) ∈ Tb := tb_t (tt_3 193 rfl) rfl
theorem t3_194 : (Jvm.Cond.code ({ cls := "BlobStoreModel", name := "writes", desc := "(I)Z" } : Jvm.MethodName) prog_9_method_10_code (2 : Nat) (Option.some Jvm.ClassFile.FieldType.boolean)) ∈ Tb := tb_t (tt_3 194 rfl) rfl
theorem t3_195 : (Jvm.Cond.methodLink "BlobStoreLaw" (67 : Nat) ({ cls := "BlobStoreModel", name := "part", desc := "(IIIJJJ)I" } : Jvm.MethodName)) ∈ Tb := tb_t (tt_3 195 rfl) rfl
theorem t3_196 : (Jvm.Cond.instanceMethod ({ cls := "BlobStoreModel", name := "part", desc := "(IIIJJJ)I" } : Jvm.MethodName)) ∈ Tb := tb_t (tt_3 196 rfl) rfl
theorem t3_197 : (Jvm.Cond.selects "BlobStoreModel" ({ cls := "BlobStoreModel", name := "part", desc := "(IIIJJJ)I" } : Jvm.MethodName) ({ cls := "BlobStoreModel", name := "part", desc := "(IIIJJJ)I" } : Jvm.MethodName)) ∈ Tb := tb_t (tt_3 197 rfl) rfl
theorem t3_198 : (Jvm.Cond.code ({ cls := "BlobStoreModel", name := "part", desc := "(IIIJJJ)I" } : Jvm.MethodName) prog_9_method_21_code (15 : Nat) (Option.some Jvm.ClassFile.FieldType.int)) ∈ Tb := tb_t (tt_3 198 rfl) rfl
theorem t3_199 : (Jvm.Cond.methodLink "BlobStoreModel" (117 : Nat) ({ cls := "BlobStoreModel", name := "isOpen", desc := "(I)Z" } : Jvm.MethodName)) ∈ Tb := tb_t (tt_3 199 rfl) rfl
theorem u3_200 : (Jvm.Cond.privateMethod ({ cls := "BlobStoreModel", name := "isOpen", desc := "(I)Z" } : Jvm.MethodName)) ∈ tables_1 := tt_3 200 rfl
theorem t3_201 : (Jvm.Cond.instanceMethod ({ cls := "BlobStoreModel", name := "isOpen", desc := "(I)Z" } : Jvm.MethodName)) ∈ Tb := tb_t (tt_3 201 rfl) rfl
theorem t3_202 : (Jvm.Cond.code ({ cls := "BlobStoreModel", name := "isOpen", desc := "(I)Z" } : Jvm.MethodName) prog_9_method_19_code (2 : Nat) (Option.some Jvm.ClassFile.FieldType.boolean)) ∈ Tb := tb_t (tt_3 202 rfl) rfl
theorem t3_203 : (Jvm.Cond.methodLink "BlobStoreModel" (120 : Nat) ({ cls := "BlobStoreModel", name := "lay", desc := "(JJJ)V" } : Jvm.MethodName)) ∈ Tb := tb_t (tt_3 203 rfl) rfl
theorem u3_204 : (Jvm.Cond.privateMethod ({ cls := "BlobStoreModel", name := "lay", desc := "(JJJ)V" } : Jvm.MethodName)) ∈ tables_1 := tt_3 204 rfl
theorem t3_205 : (Jvm.Cond.instanceMethod ({ cls := "BlobStoreModel", name := "lay", desc := "(JJJ)V" } : Jvm.MethodName)) ∈ Tb := tb_t (tt_3 205 rfl) rfl
theorem t3_206 : (Jvm.Cond.code ({ cls := "BlobStoreModel", name := "lay", desc := "(JJJ)V" } : Jvm.MethodName) prog_9_method_18_code (8 : Nat) (Option.none : Option Jvm.ClassFile.FieldType)) ∈ Tb := tb_t (tt_3 206 rfl) rfl
theorem t3_207 : (Jvm.Cond.constantLong "BlobStoreModel" (107 : Nat) (255 : Int64)) ∈ Tb := tb_t (tt_3 207 rfl) rfl
theorem t3_208 : (Jvm.Cond.methodLink "BlobStoreModel" (124 : Nat) ({ cls := "BlobStoreModel", name := "missing", desc := "(I)I" } : Jvm.MethodName)) ∈ Tb := tb_t (tt_3 208 rfl) rfl
theorem u3_209 : (Jvm.Cond.privateMethod ({ cls := "BlobStoreModel", name := "missing", desc := "(I)I" } : Jvm.MethodName)) ∈ tables_1 := tt_3 209 rfl
theorem t3_210 : (Jvm.Cond.instanceMethod ({ cls := "BlobStoreModel", name := "missing", desc := "(I)I" } : Jvm.MethodName)) ∈ Tb := tb_t (tt_3 210 rfl) rfl
theorem t3_211 : (Jvm.Cond.code ({ cls := "BlobStoreModel", name := "missing", desc := "(I)I" } : Jvm.MethodName) prog_9_method_15_code (7 : Nat) (Option.some Jvm.ClassFile.FieldType.int)) ∈ Tb := tb_t (tt_3 211 rfl) rfl
theorem t3_212 : (Jvm.Cond.methodLink "BlobStoreModel" (98 : Nat) ({ cls := "BlobStoreModel", name := "chunkSize", desc := "(II)I" } : Jvm.MethodName)) ∈ Tb := tb_t (tt_3 212 rfl) rfl
theorem t3_213 : (Jvm.Cond.static ({ cls := "BlobStoreModel", name := "chunkSize", desc := "(II)I" } : Jvm.MethodName)) ∈ Tb := tb_t (tt_3 213 rfl) rfl
theorem t3_214 : (Jvm.Cond.code ({ cls := "BlobStoreModel", name := "chunkSize", desc := "(II)I" } : Jvm.MethodName) prog_9_method_13_code (2 : Nat) (Option.some Jvm.ClassFile.FieldType.int)) ∈ Tb := tb_t (tt_3 214 rfl) rfl
theorem t3_215 : (Jvm.Cond.methodLink "BlobStoreModel" (101 : Nat) ({ cls := "BlobStoreModel", name := "find", desc := "(II)I" } : Jvm.MethodName)) ∈ Tb := tb_t (tt_3 215 rfl) rfl
theorem u3_216 : (Jvm.Cond.privateMethod ({ cls := "BlobStoreModel", name := "find", desc := "(II)I" } : Jvm.MethodName)) ∈ tables_1 := tt_3 216 rfl
theorem t3_217 : (Jvm.Cond.instanceMethod ({ cls := "BlobStoreModel", name := "find", desc := "(II)I" } : Jvm.MethodName)) ∈ Tb := tb_t (tt_3 217 rfl) rfl
theorem t3_218 : (Jvm.Cond.code ({ cls := "BlobStoreModel", name := "find", desc := "(II)I" } : Jvm.MethodName) prog_9_method_12_code (4 : Nat) (Option.some Jvm.ClassFile.FieldType.int)) ∈ Tb := tb_t (tt_3 218 rfl) rfl
theorem t3_219 : (Jvm.Cond.methodLink "BlobStoreModel" (94 : Nat) ({ cls := "BlobStoreModel", name := "isThere", desc := "(III)Z" } : Jvm.MethodName)) ∈ Tb := tb_t (tt_3 219 rfl) rfl
theorem u3_220 : (Jvm.Cond.privateMethod ({ cls := "BlobStoreModel", name := "isThere", desc := "(III)Z" } : Jvm.MethodName)) ∈ tables_1 := tt_3 220 rfl
theorem t3_221 : (Jvm.Cond.instanceMethod ({ cls := "BlobStoreModel", name := "isThere", desc := "(III)Z" } : Jvm.MethodName)) ∈ Tb := tb_t (tt_3 221 rfl) rfl
theorem t3_222 : (Jvm.Cond.code ({ cls := "BlobStoreModel", name := "isThere", desc := "(III)Z" } : Jvm.MethodName) prog_9_method_11_code (5 : Nat) (Option.some Jvm.ClassFile.FieldType.boolean)) ∈ Tb := tb_t (tt_3 222 rfl) rfl
theorem t3_223 : (Jvm.Cond.methodLink "BlobStoreModel" (104 : Nat) ({ cls := "BlobStoreModel", name := "isAlike", desc := "(III)Z" } : Jvm.MethodName)) ∈ Tb := tb_t (tt_3 223 rfl) rfl
theorem u3_224 : (Jvm.Cond.privateMethod ({ cls := "BlobStoreModel", name := "isAlike", desc := "(III)Z" } : Jvm.MethodName)) ∈ tables_1 := tt_3 224 rfl
theorem t3_225 : (Jvm.Cond.instanceMethod ({ cls := "BlobStoreModel", name := "isAlike", desc := "(III)Z" } : Jvm.MethodName)) ∈ Tb := tb_t (tt_3 225 rfl) rfl
theorem t3_226 : (Jvm.Cond.code ({ cls := "BlobStoreModel", name := "isAlike", desc := "(III)Z" } : Jvm.MethodName) prog_9_method_14_code (5 : Nat) (Option.some Jvm.ClassFile.FieldType.boolean)) ∈ Tb := tb_t (tt_3 226 rfl) rfl
theorem t3_227 : (Jvm.Cond.methodLink "BlobStoreModel" (128 : Nat) ({ cls := "BlobStoreModel", name := "freeSlots", desc := "()I" } : Jvm.MethodName)) ∈ Tb := tb_t (tt_3 227 rfl) rfl
theorem u3_228 : (Jvm.Cond.privateMethod ({ cls := "BlobStoreModel", name := "freeSlots", desc := "()I" } : Jvm.MethodName)) ∈ tables_1 := tt_3 228 rfl
theorem t3_229 : (Jvm.Cond.instanceMethod ({ cls := "BlobStoreModel", name := "freeSlots", desc := "()I" } : Jvm.MethodName)) ∈ Tb := tb_t (tt_3 229 rfl) rfl
theorem t3_230 : (Jvm.Cond.code ({ cls := "BlobStoreModel", name := "freeSlots", desc := "()I" } : Jvm.MethodName) prog_9_method_16_code (3 : Nat) (Option.some Jvm.ClassFile.FieldType.int)) ∈ Tb := tb_t (tt_3 230 rfl) rfl
theorem t3_231 : (Jvm.Cond.methodLink "BlobStoreModel" (132 : Nat) ({ cls := "BlobStoreModel", name := "firstFree", desc := "()I" } : Jvm.MethodName)) ∈ Tb := tb_t (tt_3 231 rfl) rfl
theorem u3_232 : (Jvm.Cond.privateMethod ({ cls := "BlobStoreModel", name := "firstFree", desc := "()I" } : Jvm.MethodName)) ∈ tables_1 := tt_3 232 rfl
theorem t3_233 : (Jvm.Cond.instanceMethod ({ cls := "BlobStoreModel", name := "firstFree", desc := "()I" } : Jvm.MethodName)) ∈ Tb := tb_t (tt_3 233 rfl) rfl
theorem t3_234 : (Jvm.Cond.code ({ cls := "BlobStoreModel", name := "firstFree", desc := "()I" } : Jvm.MethodName) prog_9_method_17_code (2 : Nat) (Option.some Jvm.ClassFile.FieldType.int)) ∈ Tb := tb_t (tt_3 234 rfl) rfl
theorem t3_235 : (Jvm.Cond.methodLink "BlobStoreLaw" (71 : Nat) ({ cls := "BlobStoreModel", name := "complete", desc := "(I)I" } : Jvm.MethodName)) ∈ Tb := tb_t (tt_3 235 rfl) rfl
theorem t3_236 : (Jvm.Cond.instanceMethod ({ cls := "BlobStoreModel", name := "complete", desc := "(I)I" } : Jvm.MethodName)) ∈ Tb := tb_t (tt_3 236 rfl) rfl
theorem t3_237 : (Jvm.Cond.selects "BlobStoreModel" ({ cls := "BlobStoreModel", name := "complete", desc := "(I)I" } : Jvm.MethodName) ({ cls := "BlobStoreModel", name := "complete", desc := "(I)I" } : Jvm.MethodName)) ∈ Tb := tb_t (tt_3 237 rfl) rfl
theorem t3_238 : (Jvm.Cond.code ({ cls := "BlobStoreModel", name := "complete", desc := "(I)I" } : Jvm.MethodName) prog_9_method_22_code (5 : Nat) (Option.some Jvm.ClassFile.FieldType.int)) ∈ Tb := tb_t (tt_3 238 rfl) rfl
theorem t3_239 : (Jvm.Cond.methodLink "BlobStoreLaw" (75 : Nat) ({ cls := "BlobStoreModel", name := "abort", desc := "(I)V" } : Jvm.MethodName)) ∈ Tb := tb_t (tt_3 239 rfl) rfl
theorem t4_0 : (Jvm.Cond.instanceMethod ({ cls := "BlobStoreModel", name := "abort", desc := "(I)V" } : Jvm.MethodName)) ∈ Tb := tb_t (tt_4 0 rfl) rfl
theorem t4_1 : (Jvm.Cond.selects "BlobStoreModel" ({ cls := "BlobStoreModel", name := "abort", desc := "(I)V" } : Jvm.MethodName) ({ cls := "BlobStoreModel", name := "abort", desc := "(I)V" } : Jvm.MethodName)) ∈ Tb := tb_t (tt_4 1 rfl) rfl
theorem t4_2 : (Jvm.Cond.code ({ cls := "BlobStoreModel", name := "abort", desc := "(I)V" } : Jvm.MethodName) prog_9_method_23_code (2 : Nat) (Option.none : Option Jvm.ClassFile.FieldType)) ∈ Tb := tb_t (tt_4 2 rfl) rfl
theorem t4_3 : (Jvm.Cond.methodLink "BlobStoreLaw" (78 : Nat) ({ cls := "BlobStoreModel", name := "delete", desc := "(I)Z" } : Jvm.MethodName)) ∈ Tb := tb_t (tt_4 3 rfl) rfl
theorem t4_4 : (Jvm.Cond.instanceMethod ({ cls := "BlobStoreModel", name := "delete", desc := "(I)Z" } : Jvm.MethodName)) ∈ Tb := tb_t (tt_4 4 rfl) rfl
theorem t4_5 : (Jvm.Cond.selects "BlobStoreModel" ({ cls := "BlobStoreModel", name := "delete", desc := "(I)Z" } : Jvm.MethodName) ({ cls := "BlobStoreModel", name := "delete", desc := "(I)Z" } : Jvm.MethodName)) ∈ Tb := tb_t (tt_4 5 rfl) rfl
theorem t4_6 : (Jvm.Cond.code ({ cls := "BlobStoreModel", name := "delete", desc := "(I)Z" } : Jvm.MethodName) prog_9_method_25_code (2 : Nat) (Option.some Jvm.ClassFile.FieldType.boolean)) ∈ Tb := tb_t (tt_4 6 rfl) rfl
theorem t4_7 : (Jvm.Cond.methodLink "BlobStoreModel" (138 : Nat) ({ cls := "BlobStoreModel", name := "isLiving", desc := "(I)Z" } : Jvm.MethodName)) ∈ Tb := tb_t (tt_4 7 rfl) rfl
theorem u4_8 : (Jvm.Cond.privateMethod ({ cls := "BlobStoreModel", name := "isLiving", desc := "(I)Z" } : Jvm.MethodName)) ∈ tables_1 := tt_4 8 rfl
theorem t4_9 : (Jvm.Cond.instanceMethod ({ cls := "BlobStoreModel", name := "isLiving", desc := "(I)Z" } : Jvm.MethodName)) ∈ Tb := tb_t (tt_4 9 rfl) rfl
theorem t4_10 : (Jvm.Cond.code ({ cls := "BlobStoreModel", name := "isLiving", desc := "(I)Z" } : Jvm.MethodName) prog_9_method_24_code (2 : Nat) (Option.some Jvm.ClassFile.FieldType.boolean)) ∈ Tb := tb_t (tt_4 10 rfl) rfl
theorem t4_11 : (Jvm.Cond.methodLink "BlobStoreLaw" (82 : Nat) ({ cls := "BlobStoreModel", name := "collect", desc := "()I" } : Jvm.MethodName)) ∈ Tb := tb_t (tt_4 11 rfl) rfl
theorem t4_12 : (Jvm.Cond.instanceMethod ({ cls := "BlobStoreModel", name := "collect", desc := "()I" } : Jvm.MethodName)) ∈ Tb := tb_t (tt_4 12 rfl) rfl
theorem t4_13 : (Jvm.Cond.selects "BlobStoreModel" ({ cls := "BlobStoreModel", name := "collect", desc := "()I" } : Jvm.MethodName) ({ cls := "BlobStoreModel", name := "collect", desc := "()I" } : Jvm.MethodName)) ∈ Tb := tb_t (tt_4 13 rfl) rfl
theorem t4_14 : (Jvm.Cond.code ({ cls := "BlobStoreModel", name := "collect", desc := "()I" } : Jvm.MethodName) prog_9_method_28_code (3 : Nat) (Option.some Jvm.ClassFile.FieldType.int)) ∈ Tb := tb_t (tt_4 14 rfl) rfl
theorem t4_15 : (Jvm.Cond.methodLink "BlobStoreModel" (144 : Nat) ({ cls := "BlobStoreModel", name := "need", desc := "(I)I" } : Jvm.MethodName)) ∈ Tb := tb_t (tt_4 15 rfl) rfl
theorem u4_16 : (Jvm.Cond.privateMethod ({ cls := "BlobStoreModel", name := "need", desc := "(I)I" } : Jvm.MethodName)) ∈ tables_1 := tt_4 16 rfl
theorem t4_17 : (Jvm.Cond.instanceMethod ({ cls := "BlobStoreModel", name := "need", desc := "(I)I" } : Jvm.MethodName)) ∈ Tb := tb_t (tt_4 17 rfl) rfl
theorem t4_18 : (Jvm.Cond.code ({ cls := "BlobStoreModel", name := "need", desc := "(I)I" } : Jvm.MethodName) prog_9_method_27_code (5 : Nat) (Option.some Jvm.ClassFile.FieldType.int)) ∈ Tb := tb_t (tt_4 18 rfl) rfl
theorem t4_19 : (Jvm.Cond.methodLink "BlobStoreModel" (141 : Nat) ({ cls := "BlobStoreModel", name := "slotAt", desc := "(II)I" } : Jvm.MethodName)) ∈ Tb := tb_t (tt_4 19 rfl) rfl
theorem u4_20 : (Jvm.Cond.privateMethod ({ cls := "BlobStoreModel", name := "slotAt", desc := "(II)I" } : Jvm.MethodName)) ∈ tables_1 := tt_4 20 rfl
theorem t4_21 : (Jvm.Cond.instanceMethod ({ cls := "BlobStoreModel", name := "slotAt", desc := "(II)I" } : Jvm.MethodName)) ∈ Tb := tb_t (tt_4 21 rfl) rfl
theorem t4_22 : (Jvm.Cond.code ({ cls := "BlobStoreModel", name := "slotAt", desc := "(II)I" } : Jvm.MethodName) prog_9_method_26_code (3 : Nat) (Option.some Jvm.ClassFile.FieldType.int)) ∈ Tb := tb_t (tt_4 22 rfl) rfl
theorem t4_23 : (Jvm.Cond.methodLink "BlobStoreLaw" (85 : Nat) ({ cls := "BlobStoreModel", name := "cutAfter", desc := "(I)V" } : Jvm.MethodName)) ∈ Tb := tb_t (tt_4 23 rfl) rfl
theorem t4_24 : (Jvm.Cond.instanceMethod ({ cls := "BlobStoreModel", name := "cutAfter", desc := "(I)V" } : Jvm.MethodName)) ∈ Tb := tb_t (tt_4 24 rfl) rfl
theorem t4_25 : (Jvm.Cond.selects "BlobStoreModel" ({ cls := "BlobStoreModel", name := "cutAfter", desc := "(I)V" } : Jvm.MethodName) ({ cls := "BlobStoreModel", name := "cutAfter", desc := "(I)V" } : Jvm.MethodName)) ∈ Tb := tb_t (tt_4 25 rfl) rfl
theorem t4_26 : (Jvm.Cond.code ({ cls := "BlobStoreModel", name := "cutAfter", desc := "(I)V" } : Jvm.MethodName) prog_9_method_29_code (2 : Nat) (Option.none : Option Jvm.ClassFile.FieldType)) ∈ Tb := tb_t (tt_4 26 rfl) rfl
theorem t4_27 : (Jvm.Cond.methodLink "BlobStoreLaw" (90 : Nat) ({ cls := "BlobStoreModel", name := "recover", desc := "()Z" } : Jvm.MethodName)) ∈ Tb := tb_t (tt_4 27 rfl) rfl
theorem t4_28 : (Jvm.Cond.instanceMethod ({ cls := "BlobStoreModel", name := "recover", desc := "()Z" } : Jvm.MethodName)) ∈ Tb := tb_t (tt_4 28 rfl) rfl
theorem t4_29 : (Jvm.Cond.selects "BlobStoreModel" ({ cls := "BlobStoreModel", name := "recover", desc := "()Z" } : Jvm.MethodName) ({ cls := "BlobStoreModel", name := "recover", desc := "()Z" } : Jvm.MethodName)) ∈ Tb := tb_t (tt_4 29 rfl) rfl
theorem t4_30 : (Jvm.Cond.code ({ cls := "BlobStoreModel", name := "recover", desc := "()Z" } : Jvm.MethodName) prog_9_method_30_code (2 : Nat) (Option.some Jvm.ClassFile.FieldType.boolean)) ∈ Tb := tb_t (tt_4 30 rfl) rfl
theorem t4_31 : (Jvm.Cond.methodLink "BlobStoreLaw" (94 : Nat) ({ cls := "BlobStoreModel", name := "latest", desc := "(II)I" } : Jvm.MethodName)) ∈ Tb := tb_t (tt_4 31 rfl) rfl
theorem t4_32 : (Jvm.Cond.instanceMethod ({ cls := "BlobStoreModel", name := "latest", desc := "(II)I" } : Jvm.MethodName)) ∈ Tb := tb_t (tt_4 32 rfl) rfl
theorem t4_33 : (Jvm.Cond.selects "BlobStoreModel" ({ cls := "BlobStoreModel", name := "latest", desc := "(II)I" } : Jvm.MethodName) ({ cls := "BlobStoreModel", name := "latest", desc := "(II)I" } : Jvm.MethodName)) ∈ Tb := tb_t (tt_4 33 rfl) rfl
theorem t4_34 : (Jvm.Cond.code ({ cls := "BlobStoreModel", name := "latest", desc := "(II)I" } : Jvm.MethodName) prog_9_method_31_code (4 : Nat) (Option.some Jvm.ClassFile.FieldType.int)) ∈ Tb := tb_t (tt_4 34 rfl) rfl
theorem t4_35 : (Jvm.Cond.methodLink "BlobStoreLaw" (98 : Nat) ({ cls := "BlobStoreModel", name := "size", desc := "(I)I" } : Jvm.MethodName)) ∈ Tb := tb_t (tt_4 35 rfl) rfl
theorem t4_36 : (Jvm.Cond.instanceMethod ({ cls := "BlobStoreModel", name := "size", desc := "(I)I" } : Jvm.MethodName)) ∈ Tb := tb_t (tt_4 36 rfl) rfl
theorem t4_37 : (Jvm.Cond.selects "BlobStoreModel" ({ cls := "BlobStoreModel", name := "size", desc := "(I)I" } : Jvm.MethodName) ({ cls := "BlobStoreModel", name := "size", desc := "(I)I" } : Jvm.MethodName)) ∈ Tb := tb_t (tt_4 37 rfl) rfl
theorem t4_38 : (Jvm.Cond.code ({ cls := "BlobStoreModel", name := "size", desc := "(I)I" } : Jvm.MethodName) prog_9_method_32_code (4 : Nat) (Option.some Jvm.ClassFile.FieldType.int)) ∈ Tb := tb_t (tt_4 38 rfl) rfl
theorem t4_39 : (Jvm.Cond.methodLink "BlobStoreLaw" (102 : Nat) ({ cls := "BlobStoreModel", name := "byteAt", desc := "(II)I" } : Jvm.MethodName)) ∈ Tb := tb_t (tt_4 39 rfl) rfl
theorem t4_40 : (Jvm.Cond.instanceMethod ({ cls := "BlobStoreModel", name := "byteAt", desc := "(II)I" } : Jvm.MethodName)) ∈ Tb := tb_t (tt_4 40 rfl) rfl
theorem t4_41 : (Jvm.Cond.selects "BlobStoreModel" ({ cls := "BlobStoreModel", name := "byteAt", desc := "(II)I" } : Jvm.MethodName) ({ cls := "BlobStoreModel", name := "byteAt", desc := "(II)I" } : Jvm.MethodName)) ∈ Tb := tb_t (tt_4 41 rfl) rfl
theorem t4_42 : (Jvm.Cond.code ({ cls := "BlobStoreModel", name := "byteAt", desc := "(II)I" } : Jvm.MethodName) prog_9_method_33_code (6 : Nat) (Option.some Jvm.ClassFile.FieldType.int)) ∈ Tb := tb_t (tt_4 42 rfl) rfl
theorem t4_43 : (Jvm.Cond.methodLink "BlobStoreLaw" (105 : Nat) ({ cls := "BlobStoreModel", name := "address", desc := "(II)I" } : Jvm.MethodName)) ∈ Tb := tb_t (tt_4 43 rfl) rfl
theorem t4_44 : (Jvm.Cond.instanceMethod ({ cls := "BlobStoreModel", name := "address", desc := "(II)I" } : Jvm.MethodName)) ∈ Tb := tb_t (tt_4 44 rfl) rfl
theorem t4_45 : (Jvm.Cond.selects "BlobStoreModel" ({ cls := "BlobStoreModel", name := "address", desc := "(II)I" } : Jvm.MethodName) ({ cls := "BlobStoreModel", name := "address", desc := "(II)I" } : Jvm.MethodName)) ∈ Tb := tb_t (tt_4 45 rfl) rfl
theorem t4_46 : (Jvm.Cond.code ({ cls := "BlobStoreModel", name := "address", desc := "(II)I" } : Jvm.MethodName) prog_9_method_35_code (3 : Nat) (Option.some Jvm.ClassFile.FieldType.int)) ∈ Tb := tb_t (tt_4 46 rfl) rfl
theorem t4_47 : (Jvm.Cond.methodLink "BlobStoreModel" (147 : Nat) ({ cls := "BlobStoreModel", name := "hasChunk", desc := "(I)Z" } : Jvm.MethodName)) ∈ Tb := tb_t (tt_4 47 rfl) rfl
theorem u4_48 : (Jvm.Cond.privateMethod ({ cls := "BlobStoreModel", name := "hasChunk", desc := "(I)Z" } : Jvm.MethodName)) ∈ tables_1 := tt_4 48 rfl
theorem t4_49 : (Jvm.Cond.instanceMethod ({ cls := "BlobStoreModel", name := "hasChunk", desc := "(I)Z" } : Jvm.MethodName)) ∈ Tb := tb_t (tt_4 49 rfl) rfl
theorem t4_50 : (Jvm.Cond.code ({ cls := "BlobStoreModel", name := "hasChunk", desc := "(I)Z" } : Jvm.MethodName) prog_9_method_34_code (2 : Nat) (Option.some Jvm.ClassFile.FieldType.boolean)) ∈ Tb := tb_t (tt_4 50 rfl) rfl
theorem t4_51 : (Jvm.Cond.methodLink "BlobStoreModel" (150 : Nat) ({ cls := "BlobStoreModel", name := "addressOf", desc := "(I)V" } : Jvm.MethodName)) ∈ Tb := tb_t (tt_4 51 rfl) rfl
theorem u4_52 : (Jvm.Cond.privateMethod ({ cls := "BlobStoreModel", name := "addressOf", desc := "(I)V" } : Jvm.MethodName)) ∈ tables_1 := tt_4 52 rfl
theorem t4_53 : (Jvm.Cond.instanceMethod ({ cls := "BlobStoreModel", name := "addressOf", desc := "(I)V" } : Jvm.MethodName)) ∈ Tb := tb_t (tt_4 53 rfl) rfl
theorem t4_54 : (Jvm.Cond.code ({ cls := "BlobStoreModel", name := "addressOf", desc := "(I)V" } : Jvm.MethodName) prog_9_method_9_code (9 : Nat) (Option.none : Option Jvm.ClassFile.FieldType)) ∈ Tb := tb_t (tt_4 54 rfl) rfl
theorem t4_55 : (Jvm.Cond.methodLink "BlobStoreModel" (84 : Nat) ({ cls := "BlobStoreModel", name := "turn", desc := "(II)I" } : Jvm.MethodName)) ∈ Tb := tb_t (tt_4 55 rfl) rfl
theorem t4_56 : (Jvm.Cond.static ({ cls := "BlobStoreModel", name := "turn", desc := "(II)I" } : Jvm.MethodName)) ∈ Tb := tb_t (tt_4 56 rfl) rfl
theorem t4_57 : (Jvm.Cond.code ({ cls := "BlobStoreModel", name := "turn", desc := "(II)I" } : Jvm.MethodName) prog_9_method_8_code (2 : Nat) (Option.some Jvm.ClassFile.FieldType.int)) ∈ Tb := tb_t (tt_4 57 rfl) rfl
theorem t4_58 : (Jvm.Cond.methodLink "BlobStoreLaw" (109 : Nat) ({ cls := "BlobStoreModel", name := "needed", desc := "(I)I" } : Jvm.MethodName)) ∈ Tb := tb_t (tt_4 58 rfl) rfl
theorem t4_59 : (Jvm.Cond.instanceMethod ({ cls := "BlobStoreModel", name := "needed", desc := "(I)I" } : Jvm.MethodName)) ∈ Tb := tb_t (tt_4 59 rfl) rfl
theorem t4_60 : (Jvm.Cond.selects "BlobStoreModel" ({ cls := "BlobStoreModel", name := "needed", desc := "(I)I" } : Jvm.MethodName) ({ cls := "BlobStoreModel", name := "needed", desc := "(I)I" } : Jvm.MethodName)) ∈ Tb := tb_t (tt_4 60 rfl) rfl
theorem t4_61 : (Jvm.Cond.code ({ cls := "BlobStoreModel", name := "needed", desc := "(I)I" } : Jvm.MethodName) prog_9_method_36_code (2 : Nat) (Option.some Jvm.ClassFile.FieldType.int)) ∈ Tb := tb_t (tt_4 61 rfl) rfl
theorem t4_62 : (Jvm.Cond.methodLink "BlobStoreLaw" (114 : Nat) ({ cls := "BlobStoreModel", name := "slotOf", desc := "(IJ)I" } : Jvm.MethodName)) ∈ Tb := tb_t (tt_4 62 rfl) rfl
theorem t4_63 : (Jvm.Cond.instanceMethod ({ cls := "BlobStoreModel", name := "slotOf", desc := "(IJ)I" } : Jvm.MethodName)) ∈ Tb := tb_t (tt_4 63 rfl) rfl
theorem t4_64 : (Jvm.Cond.selects "BlobStoreModel" ({ cls := "BlobStoreModel", name := "slotOf", desc := "(IJ)I" } : Jvm.MethodName) ({ cls := "BlobStoreModel", name := "slotOf", desc := "(IJ)I" } : Jvm.MethodName)) ∈ Tb := tb_t (tt_4 64 rfl) rfl
theorem t4_65 : (Jvm.Cond.code ({ cls := "BlobStoreModel", name := "slotOf", desc := "(IJ)I" } : Jvm.MethodName) prog_9_method_37_code (4 : Nat) (Option.some Jvm.ClassFile.FieldType.int)) ∈ Tb := tb_t (tt_4 65 rfl) rfl
theorem t4_66 : (Jvm.Cond.methodLink "BlobStoreLaw" (118 : Nat) ({ cls := "BlobStoreModel", name := "state", desc := "(I)I" } : Jvm.MethodName)) ∈ Tb := tb_t (tt_4 66 rfl) rfl
theorem t4_67 : (Jvm.Cond.instanceMethod ({ cls := "BlobStoreModel", name := "state", desc := "(I)I" } : Jvm.MethodName)) ∈ Tb := tb_t (tt_4 67 rfl) rfl
theorem t4_68 : (Jvm.Cond.selects "BlobStoreModel" ({ cls := "BlobStoreModel", name := "state", desc := "(I)I" } : Jvm.MethodName) ({ cls := "BlobStoreModel", name := "state", desc := "(I)I" } : Jvm.MethodName)) ∈ Tb := tb_t (tt_4 68 rfl) rfl
theorem t4_69 : (Jvm.Cond.code ({ cls := "BlobStoreModel", name := "state", desc := "(I)I" } : Jvm.MethodName) prog_9_method_38_code (4 : Nat) (Option.some Jvm.ClassFile.FieldType.int)) ∈ Tb := tb_t (tt_4 69 rfl) rfl
theorem t4_70 : (Jvm.Cond.constantLong "BlobStoreLaw" (62 : Nat) (4294967295 : Int64)) ∈ Tb := tb_t (tt_4 70 rfl) rfl
theorem u4_71 : (Jvm.Cond.sameMethod "java/lang/Throwable" "java/lang/Throwable" "fillInStackTrace" "(I)Ljava/lang/Throwable;") ∈ tables_1 := tt_4 71 rfl
theorem s_0 : Cond.selects "BlobStore$Power" ⟨"BlobStore$Power", "turnOn", "()Z"⟩ ⟨"BlobStore$Power", "turnOn", "()Z"⟩ ∈ Tb := tb_s (q := (⟨"BlobStore$Power", "turnOn", "()Z"⟩, 3)) (by decide +kernel) rfl
theorem s_1 : Cond.selects "BlobStore" ⟨"BlobStore", "livingVersion", "(I)LBlobStore$Version;"⟩ ⟨"BlobStore", "livingVersion", "(I)LBlobStore$Version;"⟩ ∈ Tb := tb_s (q := (⟨"BlobStore", "livingVersion", "(I)LBlobStore$Version;"⟩, 10)) (by decide +kernel) rfl
theorem s_2 : Cond.selects "BlobStore$Chunk" ⟨"BlobStore$Chunk", "byteOf", "(I)I"⟩ ⟨"BlobStore$Chunk", "byteOf", "(I)I"⟩ ∈ Tb := tb_s (q := (⟨"BlobStore$Chunk", "byteOf", "(I)I"⟩, 3)) (by decide +kernel) rfl
theorem s_3 : Cond.selects "BlobStore" ⟨"BlobStore", "hasChunk", "(I)Z"⟩ ⟨"BlobStore", "hasChunk", "(I)Z"⟩ ∈ Tb := tb_s (q := (⟨"BlobStore", "hasChunk", "(I)Z"⟩, 10)) (by decide +kernel) rfl
theorem s_4 : Cond.selects "BlobStore$Chunk" ⟨"BlobStore$Chunk", "isFree", "()Z"⟩ ⟨"BlobStore$Chunk", "isFree", "()Z"⟩ ∈ Tb := tb_s (q := (⟨"BlobStore$Chunk", "isFree", "()Z"⟩, 3)) (by decide +kernel) rfl
theorem s_5 : Cond.selects "BlobStore" ⟨"BlobStore", "countNeeds", "()V"⟩ ⟨"BlobStore", "countNeeds", "()V"⟩ ∈ Tb := tb_s (q := (⟨"BlobStore", "countNeeds", "()V"⟩, 10)) (by decide +kernel) rfl
theorem s_6 : Cond.selects "BlobStore$Session" ⟨"BlobStore$Session", "countInto", "([I)V"⟩ ⟨"BlobStore$Session", "countInto", "([I)V"⟩ ∈ Tb := tb_s (q := (⟨"BlobStore$Session", "countInto", "([I)V"⟩, 4)) (by decide +kernel) rfl
theorem s_7 : Cond.selects "BlobStore$Row" ⟨"BlobStore$Row", "countInto", "([I)V"⟩ ⟨"BlobStore$Row", "countInto", "([I)V"⟩ ∈ Tb := tb_s (q := (⟨"BlobStore$Row", "countInto", "([I)V"⟩, 2)) (by decide +kernel) rfl
theorem s_8 : Cond.selects "BlobStore$Chunk" ⟨"BlobStore$Chunk", "fill", "(IJLBlobStore$Sha256;)V"⟩ ⟨"BlobStore$Chunk", "fill", "(IJLBlobStore$Sha256;)V"⟩ ∈ Tb := tb_s (q := (⟨"BlobStore$Chunk", "fill", "(IJLBlobStore$Sha256;)V"⟩, 3)) (by decide +kernel) rfl
theorem s_9 : Cond.selects "BlobStore$Sha256" ⟨"BlobStore$Sha256", "digest", "(IJ[I)V"⟩ ⟨"BlobStore$Sha256", "digest", "(IJ[I)V"⟩ ∈ Tb := tb_s (q := (⟨"BlobStore$Sha256", "digest", "(IJ[I)V"⟩, 1)) (by decide +kernel) rfl
theorem s_10 : Cond.selects "BlobStore$Sha256" ⟨"BlobStore$Sha256", "padBlock", "(IJ)V"⟩ ⟨"BlobStore$Sha256", "padBlock", "(IJ)V"⟩ ∈ Tb := tb_s (q := (⟨"BlobStore$Sha256", "padBlock", "(IJ)V"⟩, 1)) (by decide +kernel) rfl
theorem s_11 : Cond.selects "BlobStore$Sha256" ⟨"BlobStore$Sha256", "expandBlock", "()V"⟩ ⟨"BlobStore$Sha256", "expandBlock", "()V"⟩ ∈ Tb := tb_s (q := (⟨"BlobStore$Sha256", "expandBlock", "()V"⟩, 1)) (by decide +kernel) rfl
theorem s_12 : Cond.selects "BlobStore$Sha256" ⟨"BlobStore$Sha256", "mixBlock", "([I)V"⟩ ⟨"BlobStore$Sha256", "mixBlock", "([I)V"⟩ ∈ Tb := tb_s (q := (⟨"BlobStore$Sha256", "mixBlock", "([I)V"⟩, 1)) (by decide +kernel) rfl
theorem s_13 : Cond.selects "BlobStore" ⟨"BlobStore", "slotWith", "(LBlobStore$Chunk;)I"⟩ ⟨"BlobStore", "slotWith", "(LBlobStore$Chunk;)I"⟩ ∈ Tb := tb_s (q := (⟨"BlobStore", "slotWith", "(LBlobStore$Chunk;)I"⟩, 10)) (by decide +kernel) rfl
theorem s_14 : Cond.selects "BlobStore$Chunk" ⟨"BlobStore$Chunk", "isLike", "(LBlobStore$Chunk;)Z"⟩ ⟨"BlobStore$Chunk", "isLike", "(LBlobStore$Chunk;)Z"⟩ ∈ Tb := tb_s (q := (⟨"BlobStore$Chunk", "isLike", "(LBlobStore$Chunk;)Z"⟩, 3)) (by decide +kernel) rfl
theorem s_15 : Cond.selects "BlobStore" ⟨"BlobStore", "countChunks", "()I"⟩ ⟨"BlobStore", "countChunks", "()I"⟩ ∈ Tb := tb_s (q := (⟨"BlobStore", "countChunks", "()I"⟩, 10)) (by decide +kernel) rfl
theorem s_16 : Cond.selects "BlobStore" ⟨"BlobStore", "countOpenSessions", "()I"⟩ ⟨"BlobStore", "countOpenSessions", "()I"⟩ ∈ Tb := tb_s (q := (⟨"BlobStore", "countOpenSessions", "()I"⟩, 10)) (by decide +kernel) rfl
theorem s_17 : Cond.selects "BlobStore" ⟨"BlobStore", "countLivingVersions", "()I"⟩ ⟨"BlobStore", "countLivingVersions", "()I"⟩ ∈ Tb := tb_s (q := (⟨"BlobStore", "countLivingVersions", "()I"⟩, 10)) (by decide +kernel) rfl
theorem s_18 : Cond.selects "BlobStore$Power" ⟨"BlobStore$Power", "requireOn", "()V"⟩ ⟨"BlobStore$Power", "requireOn", "()V"⟩ ∈ Tb := tb_s (q := (⟨"BlobStore$Power", "requireOn", "()V"⟩, 3)) (by decide +kernel) rfl
theorem s_19 : Cond.selects "java/lang/Throwable" ⟨"java/lang/Throwable", "fillInStackTrace", "(I)Ljava/lang/Throwable;"⟩ ⟨"java/lang/Throwable", "fillInStackTrace", "(I)Ljava/lang/Throwable;"⟩ ∈ Tb := tb_s (q := (⟨"java/lang/Throwable", "fillInStackTrace", "(I)Ljava/lang/Throwable;"⟩, 6)) (by decide +kernel) rfl
theorem s_20 : Cond.selects "BlobStore" ⟨"BlobStore", "leastClosedSession", "()I"⟩ ⟨"BlobStore", "leastClosedSession", "()I"⟩ ∈ Tb := tb_s (q := (⟨"BlobStore", "leastClosedSession", "()I"⟩, 10)) (by decide +kernel) rfl
theorem s_21 : Cond.selects "BlobStore$Power" ⟨"BlobStore$Power", "spendWrite", "()V"⟩ ⟨"BlobStore$Power", "spendWrite", "()V"⟩ ∈ Tb := tb_s (q := (⟨"BlobStore$Power", "spendWrite", "()V"⟩, 3)) (by decide +kernel) rfl
theorem s_22 : Cond.selects "BlobStore$Session" ⟨"BlobStore$Session", "start", "(II)V"⟩ ⟨"BlobStore$Session", "start", "(II)V"⟩ ∈ Tb := tb_s (q := (⟨"BlobStore$Session", "start", "(II)V"⟩, 4)) (by decide +kernel) rfl
theorem s_23 : Cond.selects "BlobStore" ⟨"BlobStore", "openSession", "(I)LBlobStore$Session;"⟩ ⟨"BlobStore", "openSession", "(I)LBlobStore$Session;"⟩ ∈ Tb := tb_s (q := (⟨"BlobStore", "openSession", "(I)LBlobStore$Session;"⟩, 10)) (by decide +kernel) rfl
theorem s_24 : Cond.selects "BlobStore" ⟨"BlobStore", "cutIntoChunks", "(IJJJ)I"⟩ ⟨"BlobStore", "cutIntoChunks", "(IJJJ)I"⟩ ∈ Tb := tb_s (q := (⟨"BlobStore", "cutIntoChunks", "(IJJJ)I"⟩, 10)) (by decide +kernel) rfl
theorem s_25 : Cond.selects "BlobStore" ⟨"BlobStore", "planSlots", "(I)V"⟩ ⟨"BlobStore", "planSlots", "(I)V"⟩ ∈ Tb := tb_s (q := (⟨"BlobStore", "planSlots", "(I)V"⟩, 10)) (by decide +kernel) rfl
theorem s_26 : Cond.selects "BlobStore" ⟨"BlobStore", "plannedSlot", "(I)I"⟩ ⟨"BlobStore", "plannedSlot", "(I)I"⟩ ∈ Tb := tb_s (q := (⟨"BlobStore", "plannedSlot", "(I)I"⟩, 10)) (by decide +kernel) rfl
theorem s_27 : Cond.selects "BlobStore" ⟨"BlobStore", "leastFreeSlot", "(I)I"⟩ ⟨"BlobStore", "leastFreeSlot", "(I)I"⟩ ∈ Tb := tb_s (q := (⟨"BlobStore", "leastFreeSlot", "(I)I"⟩, 10)) (by decide +kernel) rfl
theorem s_28 : Cond.selects "BlobStore$Row" ⟨"BlobStore$Row", "add", "(I)V"⟩ ⟨"BlobStore$Row", "add", "(I)V"⟩ ∈ Tb := tb_s (q := (⟨"BlobStore$Row", "add", "(I)V"⟩, 2)) (by decide +kernel) rfl
theorem s_29 : Cond.selects "BlobStore" ⟨"BlobStore", "writeChunks", "(I)I"⟩ ⟨"BlobStore", "writeChunks", "(I)I"⟩ ∈ Tb := tb_s (q := (⟨"BlobStore", "writeChunks", "(I)I"⟩, 10)) (by decide +kernel) rfl
theorem s_30 : Cond.selects "BlobStore$Chunk" ⟨"BlobStore$Chunk", "copyFrom", "(LBlobStore$Chunk;)V"⟩ ⟨"BlobStore$Chunk", "copyFrom", "(LBlobStore$Chunk;)V"⟩ ∈ Tb := tb_s (q := (⟨"BlobStore$Chunk", "copyFrom", "(LBlobStore$Chunk;)V"⟩, 3)) (by decide +kernel) rfl
theorem s_31 : Cond.selects "BlobStore$Row" ⟨"BlobStore$Row", "copyFrom", "(LBlobStore$Row;)V"⟩ ⟨"BlobStore$Row", "copyFrom", "(LBlobStore$Row;)V"⟩ ∈ Tb := tb_s (q := (⟨"BlobStore$Row", "copyFrom", "(LBlobStore$Row;)V"⟩, 2)) (by decide +kernel) rfl
theorem s_32 : Cond.selects "BlobStore$Row" ⟨"BlobStore$Row", "addAll", "(LBlobStore$Row;)V"⟩ ⟨"BlobStore$Row", "addAll", "(LBlobStore$Row;)V"⟩ ∈ Tb := tb_s (q := (⟨"BlobStore$Row", "addAll", "(LBlobStore$Row;)V"⟩, 2)) (by decide +kernel) rfl
theorem s_33 : Cond.selects "BlobStore$Version" ⟨"BlobStore$Version", "comeFrom", "(LBlobStore$Session;)V"⟩ ⟨"BlobStore$Version", "comeFrom", "(LBlobStore$Session;)V"⟩ ∈ Tb := tb_s (q := (⟨"BlobStore$Version", "comeFrom", "(LBlobStore$Session;)V"⟩, 4)) (by decide +kernel) rfl
theorem s_34 : Cond.selects "BlobStore$Chunk" ⟨"BlobStore$Chunk", "free", "()V"⟩ ⟨"BlobStore$Chunk", "free", "()V"⟩ ∈ Tb := tb_s (q := (⟨"BlobStore$Chunk", "free", "()V"⟩, 3)) (by decide +kernel) rfl
theorem s_35 : Cond.selects "BlobStore$Power" ⟨"BlobStore$Power", "tellCut", "(I)V"⟩ ⟨"BlobStore$Power", "tellCut", "(I)V"⟩ ∈ Tb := tb_s (q := (⟨"BlobStore$Power", "tellCut", "(I)V"⟩, 3)) (by decide +kernel) rfl
theorem s_36 : Cond.selects "BlobStoreModel" ⟨"BlobStoreModel", "root", "(II)I"⟩ ⟨"BlobStoreModel", "root", "(II)I"⟩ ∈ Tb := tb_s (q := (⟨"BlobStoreModel", "root", "(II)I"⟩, 22)) (by decide +kernel) rfl
theorem s_37 : Cond.selects "BlobStoreModel" ⟨"BlobStoreModel", "isAbove", "(JII)Z"⟩ ⟨"BlobStoreModel", "isAbove", "(JII)Z"⟩ ∈ Tb := tb_s (q := (⟨"BlobStoreModel", "isAbove", "(JII)Z"⟩, 22)) (by decide +kernel) rfl
theorem s_38 : Cond.selects "BlobStoreModel" ⟨"BlobStoreModel", "says", "(I)Z"⟩ ⟨"BlobStoreModel", "says", "(I)Z"⟩ ∈ Tb := tb_s (q := (⟨"BlobStoreModel", "says", "(I)Z"⟩, 22)) (by decide +kernel) rfl
theorem s_39 : Cond.selects "BlobStoreModel" ⟨"BlobStoreModel", "writes", "(I)Z"⟩ ⟨"BlobStoreModel", "writes", "(I)Z"⟩ ∈ Tb := tb_s (q := (⟨"BlobStoreModel", "writes", "(I)Z"⟩, 22)) (by decide +kernel) rfl
theorem s_40 : Cond.selects "BlobStoreModel" ⟨"BlobStoreModel", "isOpen", "(I)Z"⟩ ⟨"BlobStoreModel", "isOpen", "(I)Z"⟩ ∈ Tb := tb_s (q := (⟨"BlobStoreModel", "isOpen", "(I)Z"⟩, 22)) (by decide +kernel) rfl
theorem s_41 : Cond.selects "BlobStoreModel" ⟨"BlobStoreModel", "lay", "(JJJ)V"⟩ ⟨"BlobStoreModel", "lay", "(JJJ)V"⟩ ∈ Tb := tb_s (q := (⟨"BlobStoreModel", "lay", "(JJJ)V"⟩, 22)) (by decide +kernel) rfl
theorem s_42 : Cond.selects "BlobStoreModel" ⟨"BlobStoreModel", "missing", "(I)I"⟩ ⟨"BlobStoreModel", "missing", "(I)I"⟩ ∈ Tb := tb_s (q := (⟨"BlobStoreModel", "missing", "(I)I"⟩, 22)) (by decide +kernel) rfl
theorem s_43 : Cond.selects "BlobStoreModel" ⟨"BlobStoreModel", "find", "(II)I"⟩ ⟨"BlobStoreModel", "find", "(II)I"⟩ ∈ Tb := tb_s (q := (⟨"BlobStoreModel", "find", "(II)I"⟩, 22)) (by decide +kernel) rfl
theorem s_44 : Cond.selects "BlobStoreModel" ⟨"BlobStoreModel", "isThere", "(III)Z"⟩ ⟨"BlobStoreModel", "isThere", "(III)Z"⟩ ∈ Tb := tb_s (q := (⟨"BlobStoreModel", "isThere", "(III)Z"⟩, 22)) (by decide +kernel) rfl
theorem s_45 : Cond.selects "BlobStoreModel" ⟨"BlobStoreModel", "isAlike", "(III)Z"⟩ ⟨"BlobStoreModel", "isAlike", "(III)Z"⟩ ∈ Tb := tb_s (q := (⟨"BlobStoreModel", "isAlike", "(III)Z"⟩, 22)) (by decide +kernel) rfl
theorem s_46 : Cond.selects "BlobStoreModel" ⟨"BlobStoreModel", "freeSlots", "()I"⟩ ⟨"BlobStoreModel", "freeSlots", "()I"⟩ ∈ Tb := tb_s (q := (⟨"BlobStoreModel", "freeSlots", "()I"⟩, 22)) (by decide +kernel) rfl
theorem s_47 : Cond.selects "BlobStoreModel" ⟨"BlobStoreModel", "firstFree", "()I"⟩ ⟨"BlobStoreModel", "firstFree", "()I"⟩ ∈ Tb := tb_s (q := (⟨"BlobStoreModel", "firstFree", "()I"⟩, 22)) (by decide +kernel) rfl
theorem s_48 : Cond.selects "BlobStoreModel" ⟨"BlobStoreModel", "isLiving", "(I)Z"⟩ ⟨"BlobStoreModel", "isLiving", "(I)Z"⟩ ∈ Tb := tb_s (q := (⟨"BlobStoreModel", "isLiving", "(I)Z"⟩, 22)) (by decide +kernel) rfl
theorem s_49 : Cond.selects "BlobStoreModel" ⟨"BlobStoreModel", "need", "(I)I"⟩ ⟨"BlobStoreModel", "need", "(I)I"⟩ ∈ Tb := tb_s (q := (⟨"BlobStoreModel", "need", "(I)I"⟩, 22)) (by decide +kernel) rfl
theorem s_50 : Cond.selects "BlobStoreModel" ⟨"BlobStoreModel", "slotAt", "(II)I"⟩ ⟨"BlobStoreModel", "slotAt", "(II)I"⟩ ∈ Tb := tb_s (q := (⟨"BlobStoreModel", "slotAt", "(II)I"⟩, 22)) (by decide +kernel) rfl
theorem s_51 : Cond.selects "BlobStoreModel" ⟨"BlobStoreModel", "hasChunk", "(I)Z"⟩ ⟨"BlobStoreModel", "hasChunk", "(I)Z"⟩ ∈ Tb := tb_s (q := (⟨"BlobStoreModel", "hasChunk", "(I)Z"⟩, 22)) (by decide +kernel) rfl
theorem s_52 : Cond.selects "BlobStoreModel" ⟨"BlobStoreModel", "addressOf", "(I)V"⟩ ⟨"BlobStoreModel", "addressOf", "(I)V"⟩ ∈ Tb := tb_s (q := (⟨"BlobStoreModel", "addressOf", "(I)V"⟩, 22)) (by decide +kernel) rfl
end
section
abbrev R_K : String := "BlobStore$Chunk"
def F_K : u_T := fun k => match k with
  | 0 => ("BlobStore$Chunk", "length", "I", false)
  | 1 => ("BlobStore$Chunk", "bytes", "J", false)
  | _ => ("BlobStore$Chunk", "address", "[I", true)
def T_K : Nat → FieldType := fun k => match k with
  | 0 => .int
  | 1 => .long
  | _ => .array .int
abbrev R_P : String := "BlobStore$Power"
def F_P : u_T := fun k => match k with
  | 0 => ("BlobStore$Power", "writes", "I", false)
  | 1 => ("BlobStore$Power", "writesToCut", "I", false)
  | _ => ("BlobStore$Power", "gone", "Z", false)
def T_P : Nat → FieldType := fun k => match k with
  | 0 => .int
  | 1 => .int
  | _ => .boolean
abbrev R_R : String := "BlobStore$Row"
def F_R : u_T := fun k => match k with
  | 0 => ("BlobStore$Row", "slots", "[I", true)
  | _ => ("BlobStore$Row", "length", "I", false)
def T_R : Nat → FieldType := fun k => match k with
  | 0 => .array .int
  | _ => .int
abbrev R_S : String := "BlobStore$Session"
def F_S : u_T := fun k => match k with
  | 0 => ("BlobStore$Session", "open", "Z", false)
  | 1 => ("BlobStore$Session", "bucket", "I", false)
  | 2 => ("BlobStore$Session", "key", "I", false)
  | _ => ("BlobStore$Session", "parts", "[LBlobStore$Row;", true)
def T_S : Nat → FieldType := fun k => match k with
  | 0 => .boolean
  | 1 => .int
  | 2 => .int
  | _ => .array (.object "BlobStore$Row")
abbrev R_H : String := "BlobStore$Sha256"
def F_H : u_T := fun k => match k with
  | _ => ("BlobStore$Sha256", "schedule", "[I", true)
def T_H : Nat → FieldType := fun k => match k with
  | _ => .array .int
abbrev R_V : String := "BlobStore$Version"
def F_V : u_T := fun k => match k with
  | 0 => ("BlobStore$Version", "lives", "Z", false)
  | 1 => ("BlobStore$Version", "bucket", "I", false)
  | 2 => ("BlobStore$Version", "key", "I", false)
  | _ => ("BlobStore$Version", "row", "LBlobStore$Row;", true)
def T_V : Nat → FieldType := fun k => match k with
  | 0 => .boolean
  | 1 => .int
  | 2 => .int
  | _ => .object "BlobStore$Row"
abbrev R_B : String := "BlobStore"
def F_B : u_T := fun k => match k with
  | 0 => ("BlobStore", "power", "LBlobStore$Power;", true)
  | 1 => ("BlobStore", "sha256", "LBlobStore$Sha256;", true)
  | 2 => ("BlobStore", "slots", "[LBlobStore$Chunk;", true)
  | 3 => ("BlobStore", "sessions", "[LBlobStore$Session;", true)
  | 4 => ("BlobStore", "versions", "[LBlobStore$Version;", true)
  | 5 => ("BlobStore", "versionsEver", "I", false)
  | 6 => ("BlobStore", "incoming", "[LBlobStore$Chunk;", true)
  | 7 => ("BlobStore", "incomingSlots", "LBlobStore$Row;", true)
  | 8 => ("BlobStore", "wanted", "LBlobStore$Chunk;", true)
  | _ => ("BlobStore", "needs", "[I", true)
def T_B : Nat → FieldType := fun k => match k with
  | 0 => .object "BlobStore$Power"
  | 1 => .object "BlobStore$Sha256"
  | 2 => .array (.object "BlobStore$Chunk")
  | 3 => .array (.object "BlobStore$Session")
  | 4 => .array (.object "BlobStore$Version")
  | 5 => .int
  | 6 => .array (.object "BlobStore$Chunk")
  | 7 => .object "BlobStore$Row"
  | 8 => .object "BlobStore$Chunk"
  | _ => .array .int
abbrev R_M : String := "BlobStoreModel"
def F_M : u_T := fun k => match k with
  | 0 => ("BlobStoreModel", "thrown", "I", false)
  | 1 => ("BlobStoreModel", "sizes", "[I", true)
  | 2 => ("BlobStoreModel", "bytes", "[I", true)
  | 3 => ("BlobStoreModel", "open", "[Z", true)
  | 4 => ("BlobStoreModel", "sessionBucket", "[I", true)
  | 5 => ("BlobStoreModel", "sessionKey", "[I", true)
  | 6 => ("BlobStoreModel", "partSize", "[I", true)
  | 7 => ("BlobStoreModel", "partSlots", "[I", true)
  | 8 => ("BlobStoreModel", "versions", "I", false)
  | 9 => ("BlobStoreModel", "lives", "[Z", true)
  | 10 => ("BlobStoreModel", "versionBucket", "[I", true)
  | 11 => ("BlobStoreModel", "versionKey", "[I", true)
  | 12 => ("BlobStoreModel", "versionSize", "[I", true)
  | 13 => ("BlobStoreModel", "versionSlots", "[I", true)
  | 14 => ("BlobStoreModel", "writes", "I", false)
  | 15 => ("BlobStoreModel", "cut", "I", false)
  | 16 => ("BlobStoreModel", "down", "Z", false)
  | 17 => ("BlobStoreModel", "constants", "[I", true)
  | 18 => ("BlobStoreModel", "schedule", "[I", true)
  | 19 => ("BlobStoreModel", "hash", "[I", true)
  | 20 => ("BlobStoreModel", "row", "[I", true)
  | _ => ("BlobStoreModel", "limbs", "[J", true)
def T_M : Nat → FieldType := fun k => match k with
  | 0 => .int
  | 1 => .array .int
  | 2 => .array .int
  | 3 => .array .boolean
  | 4 => .array .int
  | 5 => .array .int
  | 6 => .array .int
  | 7 => .array .int
  | 8 => .int
  | 9 => .array .boolean
  | 10 => .array .int
  | 11 => .array .int
  | 12 => .array .int
  | 13 => .array .int
  | 14 => .int
  | 15 => .int
  | 16 => .boolean
  | 17 => .array .int
  | 18 => .array .int
  | 19 => .array .int
  | 20 => .array .int
  | _ => .array .long
abbrev bCl : List vw_C := [(R_K, F_K, 3), (R_P, F_P, 3), (R_R, F_R, 2), (R_S, F_S, 4), (R_H, F_H, 1), (R_V, F_V, 4), (R_B, F_B, 10), (R_M, F_M, 22)]
/-- a kind of object of the worlds: its number, its fields' words, their types, their names apart -/
def bCls (ci : Nat) (Cn : String) (T' : u_T) (N' : Nat) (ty : Nat → FieldType) : Prop := bCl[ci]? = some (Cn, T', N') ∧ (∀ w ∈ u_ws Cn T' N', w ∈ Tb) ∧ (∀ k, k < N' → parseFieldDescriptor (T' k).2.2.1 = some (ty k)) ∧ (∀ a, a < N' → ∀ b, b < N' → a ≠ b → (T' a).2.1 ≠ (T' b).2.1)
theorem k_K : bCls 0 R_K F_K 3 T_K := by
  refine ⟨rfl, fun w hw => ?_, by decide +kernel, by decide +kernel⟩
  obtain ⟨k, hk, rfl⟩ := List.mem_map.mp hw
  have hk := List.mem_range.mp hk
  rcases (show k = 0 ∨ k = 1 ∨ k = 2 by omega) with rfl | rfl | rfl
  · exact t1_89
  · exact t1_91
  · exact t1_93
theorem k_P : bCls 1 R_P F_P 3 T_P := by
  refine ⟨rfl, fun w hw => ?_, by decide +kernel, by decide +kernel⟩
  obtain ⟨k, hk, rfl⟩ := List.mem_map.mp hw
  have hk := List.mem_range.mp hk
  rcases (show k = 0 ∨ k = 1 ∨ k = 2 by omega) with rfl | rfl | rfl
  · exact t1_39
  · exact t1_41
  · exact t1_43
theorem k_R : bCls 2 R_R F_R 2 T_R := by
  refine ⟨rfl, fun w hw => ?_, by decide +kernel, by decide +kernel⟩
  obtain ⟨k, hk, rfl⟩ := List.mem_map.mp hw
  have hk := List.mem_range.mp hk
  rcases (show k = 0 ∨ k = 1 by omega) with rfl | rfl
  · exact t1_74
  · exact t1_76
theorem k_S : bCls 3 R_S F_S 4 T_S := by
  refine ⟨rfl, fun w hw => ?_, by decide +kernel, by decide +kernel⟩
  obtain ⟨k, hk, rfl⟩ := List.mem_map.mp hw
  have hk := List.mem_range.mp hk
  rcases (show k = 0 ∨ k = 1 ∨ k = 2 ∨ k = 3 by omega) with rfl | rfl | rfl | rfl
  · exact t1_113
  · exact t1_115
  · exact t1_117
  · exact t1_119
theorem k_H : bCls 4 R_H F_H 1 T_H := by
  refine ⟨rfl, fun w hw => ?_, by decide +kernel, by decide +kernel⟩
  obtain ⟨k, hk, rfl⟩ := List.mem_map.mp hw
  have hk := List.mem_range.mp hk
  obtain rfl : k = 0 := by omega
  · exact t1_53
theorem k_V : bCls 5 R_V F_V 4 T_V := by
  refine ⟨rfl, fun w hw => ?_, by decide +kernel, by decide +kernel⟩
  obtain ⟨k, hk, rfl⟩ := List.mem_map.mp hw
  have hk := List.mem_range.mp hk
  rcases (show k = 0 ∨ k = 1 ∨ k = 2 ∨ k = 3 by omega) with rfl | rfl | rfl | rfl
  · exact t1_137
  · exact t1_139
  · exact t1_141
  · exact t1_143
theorem k_B : bCls 6 R_B F_B 10 T_B := by
  refine ⟨rfl, fun w hw => ?_, by decide +kernel, by decide +kernel⟩
  obtain ⟨k, hk, rfl⟩ := List.mem_map.mp hw
  have hk := List.mem_range.mp hk
  rcases (show k = 0 ∨ k = 1 ∨ k = 2 ∨ k = 3 ∨ k = 4 ∨ k = 5 ∨ k = 6 ∨ k = 7 ∨ k = 8 ∨ k = 9 by omega) with rfl | rfl | rfl | rfl | rfl | rfl | rfl | rfl | rfl | rfl
  · exact t1_156
  · exact t1_158
  · exact t1_160
  · exact t1_162
  · exact t1_164
  · exact t1_166
  · exact t1_168
  · exact t1_170
  · exact t1_172
  · exact t1_174
theorem k_M : bCls 7 R_M F_M 22 T_M := by
  refine ⟨rfl, fun w hw => ?_, by decide +kernel, by decide +kernel⟩
  obtain ⟨k, hk, rfl⟩ := List.mem_map.mp hw
  have hk := List.mem_range.mp hk
  rcases (show k = 0 ∨ k = 1 ∨ k = 2 ∨ k = 3 ∨ k = 4 ∨ k = 5 ∨ k = 6 ∨ k = 7 ∨ k = 8 ∨ k = 9 ∨ k = 10 ∨ k = 11 ∨ k = 12 ∨ k = 13 ∨ k = 14 ∨ k = 15 ∨ k = 16 ∨ k = 17 ∨ k = 18 ∨ k = 19 ∨ k = 20 ∨ k = 21 by omega) with rfl | rfl | rfl | rfl | rfl | rfl | rfl | rfl | rfl | rfl | rfl | rfl | rfl | rfl | rfl | rfl | rfl | rfl | rfl | rfl | rfl | rfl
  · exact t3_129
  · exact t3_131
  · exact t3_133
  · exact t3_135
  · exact t3_137
  · exact t3_139
  · exact t3_141
  · exact t3_143
  · exact t3_145
  · exact t3_147
  · exact t3_149
  · exact t3_151
  · exact t3_153
  · exact t3_155
  · exact t3_157
  · exact t3_159
  · exact t3_161
  · exact t3_163
  · exact t3_165
  · exact t3_167
  · exact t3_169
  · exact t3_171
end
section
/-! worlds by keys: cell number k of the world lies at ad k and holds w k -/
def bw (ad : Nat → Nat) (w : Nat → va_E) (N : Nat) : va_W := (List.range N).map (fun k => (ad k, w k))
theorem bw_at {ad : Nat → Nat} {w : Nat → va_E} {N k : Nat} (h : k < N) : (bw ad w N)[k]? = some (ad k, w k) := by
  simp [bw, h]
theorem bw_set {ad : Nat → Nat} {w : Nat → va_E} {N k : Nat} {e : va_E} (h : k < N) : (bw ad w N).set k (ad k, e) = bw ad (va_up w k e) N := by
  apply List.ext_getElem?
  intro j
  rw [List.getElem?_set]
  by_cases hj : k = j
  · subst hj
    simp [bw, h, va_up]
  · by_cases hN : j < N
    · simp [bw, hj, hN, va_up, Ne.symm hj]
    · simp [bw, hj, hN]
theorem bw_push {ad : Nat → Nat} {w : Nat → va_E} {N q : Nat} {e : va_E} : bw ad w N ++ [(q, e)] = bw (va_up ad N q) (va_up w N e) (N + 1) := by
  have h : bw (va_up ad N q) (va_up w N e) N = bw ad w N := by
    apply List.map_congr_left
    intro k hk
    have h2 : k ≠ N := Nat.ne_of_lt (List.mem_range.mp hk)
    rw [va_up_ne _ _ h2, va_up_ne _ _ h2]
  rw [← h]
  simp [bw, List.range_succ, va_up]
theorem bw_len {ad : Nat → Nat} {w : Nat → va_E} {N : Nat} : (bw ad w N).length = N := by simp [bw]
theorem bw_lt {ad : Nat → Nat} {w : Nat → va_E} {N k : Nat} {q : Nat × va_E} (h : (bw ad w N)[k]? = some q) : k < N ∧ q = (ad k, w k) := by
  have h1 : k < (bw ad w N).length := (List.getElem?_eq_some_iff.mp h).1
  rw [bw_len] at h1
  rw [bw_at h1] at h
  exact ⟨h1, (Option.some.inj h).symm⟩
theorem bw_ne {A : Nat → Prop} {ad : Nat → Nat} {w : Nat → va_E} {N i j : Nat} (hD : va_D A (bw ad w N)) (hi : i < N) (hj : j < N) (h : i ≠ j) : ad i ≠ ad j :=
  fun q => h (hD.1 i j _ _ (bw_at hi) (bw_at hj) q)
/-! locals: what is known of them, by a function -/
def bH (ls : Array Slot) (nL : Nat) (lo : Nat → Option Value) : Prop := ls.size = nL ∧ lv_wf ls ∧ ∀ i v, lo i = some v → ls[i]? = some (.val v)
def bO : List (Nat × Value) → Nat → Option Value
  | [], _ => none
  | q :: r, i => bif Nat.beq q.1 i then some q.2 else bO r i
def bcut (o : Option Value) : Option Value := match o with
  | some (.int x) => some (.int x)
  | some (.ref x) => some (.ref x)
  | some .null => some .null
  | _ => none
def bU (lo : Nat → Option Value) (i : Nat) (v : Value) : Nat → Option Value := fun j => bif Nat.beq j i then some v else bif Nat.beq (j + 1) i then bcut (lo j) else lo j
def bS (lo : Nat → Option Value) (i : Nat) (v : Value) : Nat → Option Value := fun j => bif Nat.beq j i then some v else bif Nat.beq j (i + 1) then none else bif Nat.beq (j + 1) i then bcut (lo j) else lo j
def bAll : List (Nat × Value) → (Nat → Option Value) → Prop
  | [], _ => True
  | q :: r, lo => lo q.1 = some q.2 ∧ bAll r lo
theorem bO_sub {lo : Nat → Option Value} : ∀ (l : List (Nat × Value)), bAll l lo → ∀ i v, bO l i = some v → lo i = some v
  | [], _, i, v, h => by cases h
  | q :: r, hA, i, v, h => by
    unfold bO at h
    by_cases hq : Nat.beq q.1 i = true
    · rw [hq] at h
      have h1 : q.1 = i := Nat.eq_of_beq_eq_true hq
      have h2 : q.2 = v := Option.some.inj h
      rw [← h1, ← h2]
      exact hA.1
    · rw [Bool.not_eq_true] at hq
      rw [hq] at h
      exact bO_sub r hA.2 i v h
theorem bcut_cat {o : Option Value} {v : Value} (h : bcut o = some v) : o = some v ∧ v.category = 1 := by
  unfold bcut at h
  split at h
  · cases h; exact ⟨rfl, rfl⟩
  · cases h; exact ⟨rfl, rfl⟩
  · cases h; exact ⟨rfl, rfl⟩
  · cases h
/-- all that stands in the locals, as a list -/
def bL (ls : Array Slot) (nL : Nat) : List (Nat × Value) := (List.range nL).filterMap (fun (i : Nat) => match (ls[i]? : Option Slot) with
  | some (Slot.val v) => some (i, v)
  | _ => none)
theorem bL_mem {ls : Array Slot} {nL i : Nat} {v : Value} : (i, v) ∈ bL ls nL ↔ i < nL ∧ ls[i]? = some (.val v) := by
  unfold bL
  rw [List.mem_filterMap]
  constructor
  · rintro ⟨j, hj, h⟩
    have hj' := List.mem_range.mp hj
    revert h
    split
    · rename_i x hx
      intro h
      have h1 := Option.some.inj h
      cases h1
      exact ⟨hj', hx⟩
    · intro h; cases h
  · rintro ⟨h1, h2⟩
    exact ⟨i, List.mem_range.mpr h1, by rw [h2]⟩
theorem bH.lt {ls : Array Slot} {nL : Nat} {lo : Nat → Option Value} (h : bH ls nL lo) {i : Nat} {v : Value} (hl : lo i = some v) : i < nL := by
  have h1 := (Array.getElem?_eq_some_iff.mp (h.2.2 i v hl)).1
  rw [h.1] at h1
  exact h1
theorem bH.all {ls : Array Slot} {nL : Nat} {lo : Nat → Option Value} (h : bH ls nL lo) : lv_has ls nL (bL ls nL) := ⟨h.1, h.2.1, fun q hq => (bL_mem (v := q.2).mp hq).2⟩
theorem bH.find {ls : Array Slot} {nL : Nat} {lo : Nat → Option Value} (h : bH ls nL lo) {i : Nat} {v : Value} (hl : lo i = some v) : ∃ k : Nat, (bL ls nL)[k]? = some (i, v) := by
  have h1 : (i, v) ∈ bL ls nL := bL_mem.mpr ⟨h.lt hl, h.2.2 i v hl⟩
  obtain ⟨k, hk, e⟩ := List.mem_iff_getElem.mp h1
  exact ⟨k, by rw [List.getElem?_eq_getElem hk, e]⟩
theorem bH.st1 {ls ls' : Array Slot} {nL i : Nat} {x : Value} {lo : Nat → Option Value} (h : bH ls nL lo) (h' : lv_has ls' nL ((i, x) :: (bL ls nL).filter (fun q => !(q.1 == i) && !(q.1 + 1 == i && q.2.category == 2)))) (hc : x.category = 1) : bH ls' nL (bU lo i x) := by
  refine ⟨h'.1, h'.2.1, fun j v hj => ?_⟩
  unfold bU at hj
  by_cases h1 : Nat.beq j i = true
  · rw [h1] at hj
    have e1 : j = i := Nat.eq_of_beq_eq_true h1
    have e2 : x = v := Option.some.inj hj
    subst e1; subst e2
    exact h'.2.2 _ List.mem_cons_self
  · rw [Bool.not_eq_true] at h1
    rw [h1] at hj
    have n1 : j ≠ i := Nat.ne_of_beq_eq_false h1
    have key : ∀ z, lo j = some z → (j + 1 = i → z.category = 1) → ls'[j]? = some (.val z) := by
      intro z hz hz2
      refine h'.2.2 (j, z) (List.mem_cons_of_mem _ (List.mem_filter.mpr ⟨bL_mem.mpr ⟨h.lt hz, h.2.2 j z hz⟩, ?_⟩))
      by_cases n2 : j + 1 = i
      · simp [n1, n2, hz2 n2]
      · simp [n1, n2]
    by_cases h2 : Nat.beq (j + 1) i = true
    · rw [h2] at hj
      obtain ⟨q1, q2⟩ := bcut_cat hj
      exact key v q1 (fun _ => q2)
    · rw [Bool.not_eq_true] at h2
      rw [h2] at hj
      exact key v hj (fun q => absurd q (Nat.ne_of_beq_eq_false h2))
theorem bH.st2 {ls ls' : Array Slot} {nL i : Nat} {x : Value} {lo : Nat → Option Value} (h : bH ls nL lo) (h' : lv_has ls' nL ((i, x) :: (bL ls nL).filter (fun q => !(q.1 == i) && (!(q.1 == i + 1) && !(q.1 + 1 == i && q.2.category == 2))))) (hc : x.category = 2) : bH ls' nL (bS lo i x) := by
  refine ⟨h'.1, h'.2.1, fun j v hj => ?_⟩
  unfold bS at hj
  by_cases h1 : Nat.beq j i = true
  · rw [h1] at hj
    have e1 : j = i := Nat.eq_of_beq_eq_true h1
    have e2 : x = v := Option.some.inj hj
    subst e1; subst e2
    exact h'.2.2 _ List.mem_cons_self
  · rw [Bool.not_eq_true] at h1
    rw [h1] at hj
    have n1 : j ≠ i := Nat.ne_of_beq_eq_false h1
    by_cases h3 : Nat.beq j (i + 1) = true
    · rw [h3] at hj; cases hj
    · rw [Bool.not_eq_true] at h3
      rw [h3] at hj
      have n3 : j ≠ i + 1 := Nat.ne_of_beq_eq_false h3
      have key : ∀ z, lo j = some z → (j + 1 = i → z.category = 1) → ls'[j]? = some (.val z) := by
        intro z hz hz2
        refine h'.2.2 (j, z) (List.mem_cons_of_mem _ (List.mem_filter.mpr ⟨bL_mem.mpr ⟨h.lt hz, h.2.2 j z hz⟩, ?_⟩))
        by_cases n2 : j + 1 = i
        · simp [n1, n2, n3, hz2 n2]
        · simp [n1, n2, n3]
      by_cases h2 : Nat.beq (j + 1) i = true
      · rw [h2] at hj
        obtain ⟨q1, q2⟩ := bcut_cat hj
        exact key v q1 (fun _ => q2)
      · rw [Bool.not_eq_true] at h2
        rw [h2] at hj
        exact key v hj (fun q => absurd q (Nat.ne_of_beq_eq_false h2))
theorem bH.entry (vs : List Value) {n : Nat} (h : (lg_sl vs).length ≤ n) : bH ((lg_sl vs ++ List.replicate (n - (lg_sl vs).length) Slot.unset).toArray) n (bO (lv_args 0 vs)) := by
  have h1 := lv_entry vs h
  refine ⟨h1.1, h1.2.1, fun i v hi => ?_⟩
  have h2 : ∀ (l : List (Nat × Value)), bO l i = some v → (i, v) ∈ l := by
    intro l
    induction l with
    | nil => intro q; cases q
    | cons q r ih =>
      intro hq
      unfold bO at hq
      by_cases hb : Nat.beq q.1 i = true
      · rw [hb] at hq
        have e1 : q.1 = i := Nat.eq_of_beq_eq_true hb
        have e2 : q.2 = v := Option.some.inj hq
        rw [← e1, ← e2]
        exact List.mem_cons_self
      · rw [Bool.not_eq_true] at hb
        rw [hb] at hq
        exact List.mem_cons_of_mem _ (ih hq)
  exact h1.2.2 (i, v) (h2 _ hi)
/-! contracts: the end may be a return or a throw -/
def bFE (first t : State) (L : List Loc) (k n : Nat) : Prop := first.WarmedH t.vm ∧ first.sameButNew ({ t with vm := first.vm } : State) L k n
def bMet (l : Launch) (y : MethodName) (ws : List Cond) (rm : Room) (Pc : Array Value → State → Prop) (Qc : Array Value → State → Outcome → State → Prop) (mc ms : Nat) (free : Addr → Prop) : Prop :=
  MetFree l y (headSpec ws rm) Pc (fun _ _ _ _ _ => True) (fun a st o t => Qc a st o t ∧ ∃ L, bFE st t L mc ms ∧ ∀ q ∈ L, free q.base)
def bMQ (below : List Frame) (Qc : Array Value → State → Outcome → State → Prop) (a : Array Value) (s : State) (mc ms : Nat) (free : Addr → Prop) : State → Prop := fun t =>
  ∃ o, t.status = .running ∧ Ended t below o ∧ Qc a s o t ∧ ∃ L, bFE s t L mc ms ∧ ∀ q ∈ L, free q.base
theorem bMQ.of {below : List Frame} {Qc : Array Value → State → Outcome → State → Prop} {a : Array Value} {s : State} {mc ms : Nat} {free : Addr → Prop} {t : State} (h : MQ below Qc a s mc ms free t) : bMQ below Qc a s mc ms free t := by
  obtain ⟨o, h1, h2, h3, L, ⟨-, h4, h5⟩, h6⟩ := h
  exact ⟨o, h1, h2, h3, L, ⟨h4, h5⟩, h6⟩
section bC1
variable {p : Program} {l : Launch} {e : Env} {R : Room} {s : State} {m : MethodId} {args : Array Value} {below : List Frame} {meth : Method} {c : Code} {H : Heap} {locs : List Loc} {cells slots : Nat}
theorem bWmono {Q Q' : State → Prop} {g : JFrame} (h : ∀ t, Q t → Q' t) (k : W p l e R s m args below meth c H locs cells slots Q g) : W p l e R s m args below meth c H locs cells slots Q' g := by
  intro T hT X
  obtain ⟨t, a, b⟩ := k T hT X
  exact ⟨t, a, h t b⟩
theorem bMet.ofW {y : MethodName} {ws : List Cond} {rm : Room} {Pc : Array Value → State → Prop} {Qc : Array Value → State → Outcome → State → Prop} {mc ms : Nat} {free : Addr → Prop} {cc : ByteArray} {maxL : Nat} {ret : Option FieldType}
    (hy : plainName y.cls = true) (hw : Cond.code y cc maxL ret ∈ ws)
    (body : ∀ p e s m args below meth c s₁, BodyLoose p l y (headSpec ws rm) cc maxL ret e s m args below meth c s₁ → c.maxLocals = maxL → c.exceptionTable.toList = tableOf [] → Pc args s →
      W p l e (headSpec ws rm).room s m args below meth c s.heap [] 0 0 (bMQ below Qc args s mc ms free) (entryFrame m args maxL)) : bMet l y ws rm Pc Qc mc ms free := by
  refine MetFree.of_bodyS (code := cc) (maxLocals := maxL) (ret := ret) hy ?_ ?_
  · intro args s m h hn
    obtain ⟨meth, c, h1, h2, h3, h4, h5, h6, -, -⟩ := Cond.code_spec hn (atoms_spec (ws := ws) h _ hw)
    exact ⟨meth, c, h1, h2, h3, h4, h5, h6⟩
  · intro p e s m args below meth c s₁ B hml hP _
    have hh0 : s₁.heap = s.heap := by rw [B.state]; rfl
    have he := B.noHandlers (atoms_spec (ws := ws) B.pre _ hw)
    have he2 : c.exceptionTable.toList = tableOf [] := by
      have h0 : c.exceptionTable.size = 0 := by simpa [Array.isEmpty] using he
      exact List.eq_nil_of_length_eq_zero (by simpa using h0)
    obtain ⟨t, a1, o, b1, b2, b3⟩ := body p e s m args below meth c s₁ B hml he2 hP s₁ hh0 (Stand.of_body B)
    exact ⟨t, o, a1, b1, b2, ⟨b3.1, b3.2⟩⟩
theorem bMet.ofWH {y : MethodName} {ws : List Cond} {rm : Room} {Pc : Array Value → State → Prop} {Qc : Array Value → State → Outcome → State → Prop} {mc ms : Nat} {free : Addr → Prop} {cc : ByteArray} {maxL : Nat} {ret : Option FieldType} {hh : List (Nat × Nat × Nat × Nat)}
    (hy : plainName y.cls = true) (hw : Cond.codeWith y cc maxL ret hh ∈ ws)
    (body : ∀ p e s m args below meth c s₁, BodyLoose p l y (headSpec ws rm) cc maxL ret e s m args below meth c s₁ → c.maxLocals = maxL → c.exceptionTable.toList = tableOf hh → Pc args s →
      W p l e (headSpec ws rm).room s m args below meth c s.heap [] 0 0 (bMQ below Qc args s mc ms free) (entryFrame m args maxL)) : bMet l y ws rm Pc Qc mc ms free := by
  refine MetFree.of_bodyS (code := cc) (maxLocals := maxL) (ret := ret) hy ?_ ?_
  · intro args s m h hn
    obtain ⟨m', meth, c, hn', h1, h2, h3, h4, -, h5, h6, -⟩ := Cond.codeWith_spec (atoms_spec (ws := ws) h _ hw)
    cases hn.symm.trans hn'
    exact ⟨meth, c, h1, h2, h3, h4, h5, h6⟩
  · intro p e s m args below meth c s₁ B hml hP _
    have hh0 : s₁.heap = s.heap := by rw [B.state]; rfl
    have he2 : c.exceptionTable.toList = tableOf hh := by
      obtain ⟨m', meth', c', hn', h1, h2, -, -, ht, -, -, -⟩ := Cond.codeWith_spec (atoms_spec (ws := ws) B.pre _ hw)
      cases B.named.symm.trans hn'
      cases B.method.symm.trans h1
      cases (Stand.of_body B).code.symm.trans h2
      rw [← ht, table_eq]
    obtain ⟨t, a1, o, b1, b2, b3⟩ := body p e s m args below meth c s₁ B hml he2 hP s₁ hh0 (Stand.of_body B)
    exact ⟨t, o, a1, b1, b2, ⟨b3.1, b3.2⟩⟩
/-- a call by contract, from the point where the invoke has found its method -/
theorem bCore {T : State} (X : Stand p l e R s m args below meth c T locs cells slots) {y : MethodName} {ws : List Cond} {rm : Room} {Pc : Array Value → State → Prop} {Qc : Array Value → State → Outcome → State → Prop} {mc ms : Nat} {free : Addr → Prop}
    (hM : bMet l y ws rm Pc Qc mc ms free) {g : JFrame} (hg : g.method = m) (hsize : g.locals.size = c.maxLocals) {ig : Instr} {len : Nat} (hdg : decode c.code g.pc = .ok (ig, len)) (hW : 2 * g.monitorRoom + (g.stack.map fun v => v.category).sum ≤ 8)
    {mk : MethodId} {methY : Method} {cY : Code} {kY : Class} {maxL : Nat} (hn : T.methodNamed? y = some mk) (hmY : T.vm.method? mk = some methY) (hcY : methY.code = some cY) (hlY : cY.maxLocals = maxL) (hkY : T.vm.classes[mk.cls]? = some kY) (hiY : kY.init = .initialized)
    (hfr : rm.frames + 1 ≤ R.frames) (hlo : 8 + (maxL + 11) + rm.locals ≤ R.locals) (hce : cells + rm.cells ≤ R.cells) (hsl : slots + rm.slots ≤ R.slots) {a : Array Value} (hpre : (allAtoms ws).before a T = true) (hP : Pc a (T.calling g mk a)) :
    ∃ (o : Outcome) (t T' : State) (L : List Loc), Stand p l e R s m args below meth c T' (locs ++ L) (cells + mc) (slots + ms) ∧ (∀ q ∈ L, free q.base) ∧ T'.heap = t.heap ∧ T'.vm = t.vm ∧ Qc a (T.calling g mk a) o t ∧
      (∀ v, o = .returned v → Steps p.tables e below (doInvoke e (T.setTop g) [] mk a).1 (T'.setTop { g with pc := g.pc + len, stack := v.toList ++ g.stack })) ∧
      (∀ x, o = .threw x → Steps p.tables e below (doInvoke e (T.setTop g) [] mk a).1 ((T'.setTop g).pushFrame (.throwing x))) := by
  have h : At T g.method c below := by rw [hg]; exact X.here
  have happ : (headSpec ws rm).appliesLoose y e.platform (T.calling g mk a) = true :=
    Spec.appliesLoose_calling (g := g) h hdg hn hkY hiY (X.room_calling (g := g) (R' := rm) hsize hmY hcY hfr (by rw [hlY]; omega) hce hsl) hpre
  obtain ⟨mid, hmid⟩ := h.above
  have hfr2 : (T.setTop g).frames = (.java g :: mid) ++ below := by rw [State.frames_setTop' g h.top, hmid]; rfl
  obtain ⟨o, s₂, hsteps, -, hend, hq, L, hFE, hL⟩ := Steps.callFree hM p X.admits X.cas X.clock (acts := []) hfr2 happ hP trivial
  rw [State.frames_setTop' g h.top, X.tail] at hend
  cases o with
  | returned v =>
    obtain ⟨T', X', hW', hB, ht⟩ := X.outOf hg hdg hend hFE.1 hFE.2
    refine ⟨.returned v, s₂, T', L, X', hL, by rw [ht]; rfl, by rw [ht]; rfl, hq, fun v' hv => ?_, fun x hx => by cases hx⟩
    cases hv
    rw [← ht]
    exact hsteps
  | threw x =>
    obtain ⟨T', X', hW', hB, ht⟩ := X.outOfThrown hg hend hFE.1 hFE.2
    refine ⟨.threw x, s₂, T', L, X', hL, by rw [ht, Stand.throwing_heap], by rw [ht, Stand.throwing_vm], hq, fun v' hv => (by cases hv), fun x' hx => ?_⟩
    cases hx
    rw [← ht]
    exact hsteps
end bC1
end
section
section bC2
variable {p : Program} {l : Launch} {e : Env} {R : Room} {s : State} {m : MethodId} {args : Array Value} {below : List Frame} {meth : Method} {c : Code} {locs : List Loc} {cells slots : Nat}
/-- the walk goes on as if it had begun here -/
theorem bRebase {T : State} (X : Stand p l e R s m args below meth c T locs cells slots) {R' : Room} (hf : R'.frames ≤ R.frames) (hl : R'.locals ≤ R.locals) (hc : cells + R'.cells ≤ R.cells) (hs : slots + R'.slots ≤ R.slots) :
    Stand p l e R' (T.setFrames (.invoking m args :: below)) m args below meth c T [] 0 0 := by
  obtain ⟨g₀, hfr⟩ := X.frames_eq
  have hcur : T.cur < T.threads.size := State.cur_lt_of_frames hfr
  have hF : (T.setFrames (.invoking m args :: below)).frames = .invoking m args :: below := State.frames_setFrames _ hcur
  have hroom : (T.setFrames (.invoking m args :: below)).hasRoom e.platform R' = true := by
    obtain ⟨r1, r2, r3, r4⟩ := State.hasRoom_stack X.room
    have r5 := State.hasRoom_real X.room
    have h := X.room
    simp only [State.hasRoom, Bool.and_eq_true, decide_eq_true_eq] at h
    rw [State.localsInUse_invoking X.frames X.method X.code] at r3 r4 r5
    rw [X.frames, List.length_cons] at r1 r2
    have hU : (T.setFrames (.invoking m args :: below)).localsInUse = _ := State.localsInUse_invoking hF (meth := meth) (c := c) X.method' X.code
    have h1 := X.heapSize
    have h2 := X.used
    simp only [State.hasRoom, Bool.and_eq_true, decide_eq_true_eq, hF, hU, List.length_cons, State.stackLimits_setFrames, State.stackBytes_setFrames, X.limits, X.bytes]
    refine ⟨⟨⟨⟨by omega, by omega, by omega, by omega, by omega, h.1.1.1.2.2.2.2.2⟩, ?_⟩, ?_⟩, X.book⟩
    · have := h.1.1.2
      show T.heap.size + R'.cells ≤ e.platform.maxCells
      omega
    · have := h.1.2
      show T.slotsUsed + R'.slots ≤ e.platform.maxSlots
      omega
  have hhears : (T.setFrames (.invoking m args :: below)).hears m below = true := by
    have h := X.hears
    have hal := X.warmed.alike
    have hm : ∀ k, (T.setFrames (.invoking m args :: below)).vm.method? k = s.vm.method? k := fun k => hal.method? k
    have hcd : ∀ k, (T.setFrames (.invoking m args :: below)).code? k = s.code? k := fun k => by rw [State.code?_eq, State.code?_eq, hm]
    cases below with
    | nil => simp only [State.hears] at h ⊢; rw [hm]; exact h
    | cons f r => cases f <;> simp only [State.hears] at h ⊢ <;> first | exact h | (rw [hm]; exact h) | (rw [hcd]; exact h)
  obtain ⟨t, ht, -⟩ := State.frames_cons hF
  have hsame : (T.setFrames (.invoking m args :: below)).sameButNew (T.setVm (T.setFrames (.invoking m args :: below)).vm) [] 0 0 := by
    have h := (State.sameButNew.refl (T.setFrames (.invoking m args :: below)) ht).setFrames T.frames (State.cur_lt_of_frames hF)
    obtain ⟨t0, ht0, -⟩ := State.frames_cons hfr
    rw [State.setFrames_setFrames, State.setFrames_self ht0] at h
    exact h
  exact ⟨X.admits, X.cas, X.clock, hF, hroom, hhears, X.method', X.code, X.here, X.tail, State.WarmedH.refl _, by rw [State.stackLimits_setFrames], by rw [State.stackBytes_setFrames], hsame⟩
/-- .. and what it ends in is an end of the walk that was -/
theorem bRebase.back {T U : State} (X : Stand p l e R s m args below meth c T locs cells slots) {F : List Frame} {k n : Nat} (hW : (T.setFrames F).WarmedH U.vm) (h : (T.setFrames F).sameButNew ({ U with vm := (T.setFrames F).vm } : State) [] k n) : bFE s U locs (cells + k) (slots + n) := by
  have hW' : T.WarmedH U.vm := hW
  have h2 : T.sameButNew ({ U with vm := T.vm } : State) [] k n := by
    obtain ⟨e2, q2, q3, q4, q5, q6⟩ := h
    refine ⟨?_, q2, q3, q4, q5, q6⟩
    rw [State.setFrames_setFrames] at e2
    exact e2
  refine ⟨State.WarmedH.trans X.warmed hW', ?_⟩
  have h3 := X.same.trans (h2.setVm s.vm)
  rw [List.append_nil] at h3
  exact h3
end bC2
end
section
def bTys (ta : Nat → ClassId) : List (ClassId × FieldType) := [(ta 0, .int), (ta 1, .long), (ta 2, .boolean), (ta 3, .object R_K), (ta 4, .object R_R), (ta 5, .object R_S), (ta 6, .object R_V)]
/-- numbers of the kinds and their slots; array kinds; static arrays: where, and what -/
abbrev bD : Type := va_G × (Nat → ClassId) × (Nat → Nat) × (Nat → Nat → Int32)
abbrev aI (dd : bD) (n : Nat) (f : Nat → Int32) : va_E := .inl (dd.2.1 0, n, .inl f)
abbrev aL (dd : bD) (n : Nat) (f : Nat → Int64) : va_E := .inl (dd.2.1 1, n, .inr (.inl f))
abbrev aZ (dd : bD) (n : Nat) (f : Nat → Int32) : va_E := .inl (dd.2.1 2, n, .inl f)
abbrev aR (dd : bD) (t n : Nat) (f : Nat → Option Nat) : va_E := .inl (dd.2.1 t, n, .inr (.inr (.inr (.inr f))))
abbrev bSta : List (String × String × Nat × Nat) := [("BlobStore$Sha256", "FIRST_HASH", 0, 8), ("BlobStore$Sha256", "ROUND_WORDS", 1, 64)]
abbrev bStr : List (String × Nat × String) := [("BlobStore", 77, "all sessions are open"), ("BlobStore", 84, "no such bucket or key"), ("BlobStore", 98, "no such part number or count of bytes"), ("BlobStore", 119, "all versions have been given"), ("BlobStore", 146, "no such count of writes"), ("BlobStore", 178, "no such chunk or word"), ("BlobStore", 207, "no such session is open"), ("BlobStore", 227, "too few free slots"), ("BlobStore$Power", 22, "the store is down"), ("BlobStore$Power", 29, "the power is gone")]
abbrev bZq : List (String × String × String) := [("java/lang/Throwable", "UNASSIGNED_STACK", "[Ljava/lang/StackTraceElement;"), ("java/lang/Throwable", "SUPPRESSED_SENTINEL", "Ljava/util/List;")]
abbrev bAov : List String := [R_K, R_R, R_S, R_V]
abbrev bNcp : List (String × String) := [("java/lang/IllegalArgumentException", "java/lang/IllegalStateException"), ("java/lang/IllegalArgumentException", "java/lang/IndexOutOfBoundsException"), ("java/lang/IllegalArgumentException", "java/lang/UnsupportedOperationException"), ("java/lang/IllegalArgumentException", "java/util/NoSuchElementException"), ("java/lang/IllegalStateException", "java/lang/IllegalArgumentException"), ("java/lang/IllegalStateException", "java/lang/IndexOutOfBoundsException"), ("java/lang/IllegalStateException", "java/lang/UnsupportedOperationException"), ("java/lang/IllegalStateException", "java/util/NoSuchElementException"), ("java/lang/IndexOutOfBoundsException", "java/lang/IllegalArgumentException"), ("java/lang/IndexOutOfBoundsException", "java/lang/IllegalStateException"), ("java/lang/IndexOutOfBoundsException", "java/lang/UnsupportedOperationException"), ("java/lang/IndexOutOfBoundsException", "java/util/NoSuchElementException"), ("java/lang/UnsupportedOperationException", "java/lang/IllegalArgumentException"), ("java/lang/UnsupportedOperationException", "java/lang/IllegalStateException"), ("java/lang/UnsupportedOperationException", "java/lang/IndexOutOfBoundsException"), ("java/lang/UnsupportedOperationException", "java/util/NoSuchElementException"), ("java/util/NoSuchElementException", "java/lang/IllegalArgumentException"), ("java/util/NoSuchElementException", "java/lang/IllegalStateException"), ("java/util/NoSuchElementException", "java/lang/IndexOutOfBoundsException"), ("java/util/NoSuchElementException", "java/lang/UnsupportedOperationException")]
/-- a static that the tables lay, and that holds a reference or null -/
def bLs (O n d : String) (A : Nat → Prop) (U : State) (H : Heap) : Prop := ∃ (c : ClassId) (k : Class) (i : Nat) (f : Field) (a : Nat) (cell : Cell) (v : RefV), U.vm.findClass O = some c ∧ U.fieldFound? O n d = some (c, k, i, f) ∧ f.isStatic = true ∧ k.statics = some a ∧ k.staticTypes[f.slot]? = some f.type ∧ H[a]? = some cell ∧ cell.vm.isStatics = true ∧ cell.cls = c ∧ f.slot < cell.slots.size ∧ cell.slots[f.slot]? = some v.v ∧ ¬ A a
theorem bLs.moved {O n d : String} {A : Nat → Prop} {u U : State} {H : Heap} (hvm : u.vm.Alike U.vm) (h : bLs O n d A u H) : bLs O n d A U H := by
  obtain ⟨c, k, i, f, a, cell, v, h0, h1, h2, h3, h4, h5⟩ := h
  obtain ⟨k', hi', he⟩ := State.fieldFound?_setVm hvm h1
  exact ⟨c, k', i, f, a, cell, v, by rw [hvm.findClass]; exact h0, hi', h2, by rw [he]; exact h3, by rw [he]; exact h4, h5⟩
theorem bLs.kept {O n d : String} {A : Nat → Prop} {U : State} {H H1 : Heap} (h : bLs O n d A U H) (hq : ∀ a : Nat, a < H.size → ¬ A a → H1[a]? = H[a]?) : bLs O n d A U H1 := by
  obtain ⟨c, k, i, f, a, cell, v, h0, h1, h2, h3, h4, h5, h6, h7, h8, h9, h10⟩ := h
  exact ⟨c, k, i, f, a, cell, v, h0, h1, h2, h3, h4, by rw [hq a (Array.getElem?_eq_some_iff.mp h5).1 h10]; exact h5, h6, h7, h8, h9, h10⟩
theorem bLs.narrow {O n d : String} {A B : Nat → Prop} {U : State} {H : Heap} (h : bLs O n d A U H) (hAB : ∀ q, B q → A q) : bLs O n d B U H := by
  obtain ⟨c, k, i, f, a, cell, v, h0, h1, h2, h3, h4, h5, h6, h7, h8, h9, h10⟩ := h
  exact ⟨c, k, i, f, a, cell, v, h0, h1, h2, h3, h4, h5, h6, h7, h8, h9, fun z => h10 (hAB a z)⟩
theorem bLs.lays {O n d : String} {A : Nat → Prop} {U : State} {args : Array Value} (h : bLs O n d A U U.heap) : (Cond.laysStatic O n d).before args U = true := by
  obtain ⟨c, k, i, f, a, cell, v, h0, h1, h2, h3, h4, h5, h6, h7, h8, h9, h10⟩ := h
  exact Cond.laysStatic_of h0 h1 h2 h3 h5 h6 h7 h8 h4
theorem bLs.isRef {O n d : String} {A : Nat → Prop} {U : State} {args : Array Value} (h : bLs O n d A U U.heap) : (Cond.isRef (.static O n d)).before args U = true := by
  obtain ⟨c, k, i, f, a, cell, ⟨v, hv⟩, h0, h1, h2, h3, h4, h5, h6, h7, h8, h9, h10⟩ := h
  have h9' : cell.slots[f.slot]? = some v := h9
  cases v <;> simp [Value.isRef] at hv <;> simp [Cond.before, Cond.holds, Cond.value, Term.eval, State.fieldNamed?, h1, h2, h3, h5, h6, h9']
/-- what the walks rest on beside their cells, at a state and a heap -/
def bG (dd : bD) (A : Nat → Prop) (U : State) (H : Heap) : Prop :=
  va_K dd.1 bCl (bTys dd.2.1) U ∧ (∀ w ∈ bNst, va_Nw w U) ∧
  (∀ q ∈ bSta, va_Z q.1 q.2.1 "[I" (.ref (dd.2.2.1 q.2.2.1)) A U H ∧ va_T .int (dd.2.2.1 q.2.2.1) q.2.2.2 (fun j => .int (dd.2.2.2 q.2.2.1 j)) A U H) ∧
  (∀ q ∈ bStr, ∃ a, vk_R q.1 q.2.1 q.2.2 a U) ∧ (∀ q ∈ bZq, bLs q.1 q.2.1 q.2.2 A U H) ∧ (∀ q ∈ bNcp, va_Nc q.1 q.2 U) ∧ (∀ q ∈ bAov, va_AO q U)
theorem bNest_warm {w : Cond} (h : bNestOnly w = true) {s U : State} (hW : s.WarmedH U.vm) (hZ : va_Nw w s) : va_Nw w U := by
  unfold bNestOnly at h
  split at h
  · exact va_Nw.warmF hW hZ
  · exact va_Nw.warmM hW hZ
  · exact va_Nw.warmD hW hZ
  · exact va_Nw.warmC hW hZ
  · cases h
theorem bG.to {dd : bD} {A A' : Nat → Prop} {s U : State} {H0 H : Heap} (h : bG dd A s H0) (hW : s.WarmedH U.vm) (hq : ∀ a : Nat, a < H0.size → ¬ A a → H[a]? = H0[a]?) (hAB : ∀ q, A' q → A q) : bG dd A' U H := by
  obtain ⟨h1, h2, h3, h4, h5, h6, h7⟩ := h
  exact ⟨va_K.moved hW.alike h1, fun w hw => bNest_warm (bNst_only w hw) hW (h2 w hw),
    fun q hq' => ⟨(((h3 q hq').1.kept hq).moved hW.alike).narrow hAB, (((h3 q hq').2.kept hq).moved hW.alike).narrow hAB⟩,
    fun q hq' => (h4 q hq').imp (fun a ha => ha.warm hW), fun q hq' => (((h5 q hq').kept hq).moved hW.alike).narrow hAB, fun q hq' => (h6 q hq').moved hW.alike, fun q hq' => (h7 q hq').moved hW.alike⟩
theorem bNst_use {w : Cond} (h : bNestOnly w = true) {args : Array Value} {U : State} (hZ : va_Nw w U) : w.before args U = true := by
  unfold bNestOnly at h
  split at h
  · exact va_Nw.use rfl hZ
  · exact va_Nw.use rfl hZ
  · exact va_Nw.use rfl hZ
  · exact va_Nw.use rfl hZ
  · cases h
def bPre (dd : bD) (av : List Value) (ad : Nat → Nat) (w : Nat → va_E) (N sz : Nat) : Array Value → State → Prop :=
  va_Pc av (fun U => U.heap.size = sz ∧ va_P dd.1 bCl (bw ad w N) U.heap ∧ va_D (fun _ => True) (bw ad w N) ∧ bG dd (va_A (bw ad w N) sz) U U.heap)
def bQc (dd : bD) (A : Nat → Prop) (post : Option Value → (Nat → Nat) → (Nat → va_E) → Nat → Prop) (thr : String → (Nat → Nat) → (Nat → va_E) → Nat → Prop) : Array Value → State → Outcome → State → Prop := fun _ st oc t =>
  va_F A st t ∧ ∃ (ad' : Nat → Nat) (w' : Nat → va_E) (N' : Nat), va_P dd.1 bCl (bw ad' w' N') t.heap ∧ va_D A (bw ad' w' N') ∧
    ((∃ v, oc = .returned v ∧ post v ad' w' N') ∨ ∃ (x : Nat) (Cn : String) (cell : Cell), oc = .threw x ∧ t.heap[x]? = some cell ∧ cell.vm = .none ∧ t.vm.findClass Cn = some cell.cls ∧ st.heap.size ≤ x ∧ thr Cn ad' w' N')
/-- a method's contract: frames fr and words lc of the stack, mc cells of ms slots at most -/
def bK (l : Launch) (dd : bD) (y : MethodName) (fr lc mc ms : Nat) (av : List Value) (ad : Nat → Nat) (w : Nat → va_E) (N : Nat) (post : Option Value → (Nat → Nat) → (Nat → va_E) → Nat → Prop) (thr : String → (Nat → Nat) → (Nat → va_E) → Nat → Prop) : Prop :=
  ∀ sz, bMet l y Tb { frames := fr, cells := mc, slots := ms, locals := lc } (bPre dd av ad w N sz) (bQc dd (va_A (bw ad w N) sz) post thr) mc ms (va_A (bw ad w N) sz)
def bCx (p : Program) (R : Room) (s : State) (m : MethodId) (args : Array Value) (meth : Method) (c : Code) (cc : ByteArray) (own : String) (nL : Nat) (ret : Option FieldType) (hh : List (Nat × Nat × Nat × Nat)) (dd : bD) (A : Nat → Prop) : Prop :=
  p.tables.exec = Jvm.exec ∧ c.code = cc ∧ c.maxLocals = nL ∧ s.vm.findClass own = some m.cls ∧ (∀ w ∈ Tb, w.before args s = true) ∧ meth.sig.returnType = ret ∧ meth.locks = false ∧ (∀ q, s.heap.size ≤ q → A q) ∧ bG dd A s s.heap ∧ c.exceptionTable.toList = tableOf hh
def bV (p : Program) (l : Launch) (e : Env) (R : Room) (s : State) (m : MethodId) (args : Array Value) (below : List Frame) (meth : Method) (c : Code) (dd : bD) (A : Nat → Prop) (nL mc ms : Nat) (post : Option Value → (Nat → Nat) → (Nat → va_E) → Nat → Prop) (thr : String → (Nat → Nat) → (Nat → va_E) → Nat → Prop)
    (pc : Nat) (lo : Nat → Option Value) (st : List Value) (ad : Nat → Nat) (w : Nat → va_E) (N cells slots : Nat) : Prop :=
  ∀ (H : Heap) (locs : List Loc) (ls : Array Slot), bH ls nL lo → va_P dd.1 bCl (bw ad w N) H → va_D A (bw ad w N) → va_S A s.heap H locs →
    W p l e R s m args below meth c H locs cells slots (bMQ below (bQc dd A post thr) args s mc ms A) (F0 m pc ls st)
/-- the exception at x, of the class called Cn, is on its way out of the instruction at pc -/
def bT (p : Program) (l : Launch) (e : Env) (R : Room) (s : State) (m : MethodId) (args : Array Value) (below : List Frame) (meth : Method) (c : Code) (dd : bD) (A : Nat → Prop) (nL mc ms : Nat) (post : Option Value → (Nat → Nat) → (Nat → va_E) → Nat → Prop) (thr : String → (Nat → Nat) → (Nat → va_E) → Nat → Prop)
    (pc : Nat) (lo : Nat → Option Value) (st : List Value) (x : Nat) (Cn : String) (ad : Nat → Nat) (w : Nat → va_E) (N cells slots : Nat) : Prop :=
  ∀ (H : Heap) (locs : List Loc) (ls : Array Slot) (cell : Cell), bH ls nL lo → va_P dd.1 bCl (bw ad w N) H → va_D A (bw ad w N) → va_S A s.heap H locs → H[x]? = some cell → cell.vm = .none → s.vm.findClass Cn = some cell.cls → s.heap.size ≤ x →
    ∀ T : State, T.heap = H → Stand p l e R s m args below meth c T locs cells slots → ∃ t, Steps p.tables e below ((T.setTop (F0 m pc ls st)).pushFrame (.throwing x)) t ∧ bMQ below (bQc dd A post thr) args s mc ms A t
/-- a call site: the invoke has found its method -/
def bSite (p : Program) (l : Launch) (e : Env) (R : Room) (s : State) (m : MethodId) (args : Array Value) (below : List Frame) (meth : Method) (c : Code) (H : Heap) (locs : List Loc) (cells slots : Nat) (g : JFrame) (rest : List Value) (y : MethodName) (a : Array Value) : Prop :=
  ∀ T : State, T.heap = H → Stand p l e R s m args below meth c T locs cells slots → ∃ (mk : MethodId) (vm₁ : Vm), Stand p l e R s m args below meth c (T.setVm vm₁) locs cells slots ∧ s.methodNamed? y = some mk ∧
    ∀ target, (∀ acts, Steps p.tables e below (doInvoke e ((T.setVm vm₁).setTop { g with stack := rest }) acts mk a).1 target) → Steps p.tables e below (T.setTop g) target
def bIs (y : MethodName) (maxL : Nat) : Prop := (∃ (cc : ByteArray) (ret : Option FieldType), Cond.code y cc maxL ret ∈ Tb) ∨ ∃ (cc : ByteArray) (ret : Option FieldType) (hh : List (Nat × Nat × Nat × Nat)), Cond.codeWith y cc maxL ret hh ∈ Tb
theorem bIs.spec {y : MethodName} {maxL : Nat} (h : bIs y maxL) {args : Array Value} {s : State} (hts : ∀ w ∈ Tb, w.before args s = true) : ∃ (mk : MethodId) (meth : Method) (c : Code), s.methodNamed? y = some mk ∧ s.vm.method? mk = some meth ∧ meth.code = some c ∧ c.maxLocals = maxL ∧ parseMethodDescriptor y.desc = some meth.sig := by
  rcases h with ⟨cc, ret, h⟩ | ⟨cc, ret, hh, h⟩
  · obtain ⟨mk, hn⟩ := Cond.code_named (hts _ h)
    obtain ⟨meth, c, h1, h2, -, h4, -, -, -, h5⟩ := Cond.code_spec hn (hts _ h)
    exact ⟨mk, meth, c, hn, h1, h2, h4, h5⟩
  · obtain ⟨mk, meth, c, hn, h1, h2, -, h4, -, -, -, h5⟩ := Cond.codeWith_spec (hts _ h)
    exact ⟨mk, meth, c, hn, h1, h2, h4, h5⟩
theorem bGood.at {w : Cond} (h : bGood w = true) {args a' : Array Value} {s U : State} (hW : s.WarmedH U.vm) (hw : w.before args s = true) : w.before a' U = true := by
  unfold bGood at h
  rw [Bool.or_eq_true] at h
  rcases h with h | h
  · exact word_at hW (Or.inl h) hw
  · refine word_at hW (Or.inr ?_) hw
    split at h
    · exact ⟨_, rfl⟩
    · cases h
end
section
section bR1
variable {p : Program} {l : Launch} {e : Env} {R : Room} {s : State} {m : MethodId} {args : Array Value} {below : List Frame} {meth : Method} {c : Code} {dd : bD} {A : Nat → Prop} {nL mc ms : Nat} {post : Option Value → (Nat → Nat) → (Nat → va_E) → Nat → Prop} {thr : String → (Nat → Nat) → (Nat → va_E) → Nat → Prop} {pc : Nat} {lo : Nat → Option Value} {rest : List Value} {ad : Nat → Nat} {w : Nat → va_E} {N cells slots : Nat} {cc : ByteArray} {own : String} {ret : Option FieldType} {hh : List (Nat × Nat × Nat × Nat)}
theorem bv_iconst {n : Int} {v : Int32} (pc' : Nat) (hpc : pc + 1 = pc') (C : bCx p R s m args meth c cc own nL ret hh dd A) (hdg : decode cc pc = .ok (.iconst n, 1)) (hv : Int32.ofInt n = v)
    (k : bV p l e R s m args below meth c dd A nL mc ms post thr pc' lo (.int v :: rest) ad w N cells slots) : bV p l e R s m args below meth c dd A nL mc ms post thr pc lo (rest) ad w N cells slots := by
  subst hpc
  exact fun H locs ls hL hP hD hS => lv_iconst C.1 C.2.1 hdg hv (k H locs ls hL hP hD hS)
theorem bv_bipush {n : Int} {v : Int32} (pc' : Nat) (hpc : pc + 2 = pc') (C : bCx p R s m args meth c cc own nL ret hh dd A) (hdg : decode cc pc = .ok (.bipush n, 2)) (hv : (Int8.ofInt n).toInt32 = v)
    (k : bV p l e R s m args below meth c dd A nL mc ms post thr pc' lo (.int v :: rest) ad w N cells slots) : bV p l e R s m args below meth c dd A nL mc ms post thr pc lo (rest) ad w N cells slots := by
  subst hpc
  exact fun H locs ls hL hP hD hS => lv_bipush C.1 C.2.1 hdg hv (k H locs ls hL hP hD hS)
theorem bv_sipush {n : Int} {v : Int32} (pc' : Nat) (hpc : pc + 3 = pc') (C : bCx p R s m args meth c cc own nL ret hh dd A) (hdg : decode cc pc = .ok (.sipush n, 3)) (hv : (Int16.ofInt n).toInt32 = v)
    (k : bV p l e R s m args below meth c dd A nL mc ms post thr pc' lo (.int v :: rest) ad w N cells slots) : bV p l e R s m args below meth c dd A nL mc ms post thr pc lo (rest) ad w N cells slots := by
  subst hpc
  exact fun H locs ls hL hP hD hS => lv_sipush C.1 C.2.1 hdg hv (k H locs ls hL hP hD hS)
theorem bv_lconst {n : Fin 2} {v : Int64} (pc' : Nat) (hpc : pc + 1 = pc') (C : bCx p R s m args meth c cc own nL ret hh dd A) (hdg : decode cc pc = .ok (.lconst n, 1)) (hv : Int64.ofNat (n : Nat) = v)
    (k : bV p l e R s m args below meth c dd A nL mc ms post thr pc' lo (.long v :: rest) ad w N cells slots) : bV p l e R s m args below meth c dd A nL mc ms post thr pc lo (rest) ad w N cells slots := by
  subst hpc
  exact fun H locs ls hL hP hD hS => lv_lconst C.1 C.2.1 hdg hv (k H locs ls hL hP hD hS)
theorem bv_iload_n {k : Fin 4} {x : Int32} (pc' : Nat) (hpc : pc + 1 = pc') (C : bCx p R s m args meth c cc own nL ret hh dd A) (hdg : decode cc pc = .ok (.iload_n k, 1)) (hl : lo k = some (.int x))
    (k : bV p l e R s m args below meth c dd A nL mc ms post thr pc' lo (.int x :: rest) ad w N cells slots) : bV p l e R s m args below meth c dd A nL mc ms post thr pc lo (rest) ad w N cells slots := by
  subst hpc
  exact fun H locs ls hL hP hD hS => lv_iload_n C.1 C.2.1 hdg rfl (hL.2.2 _ _ hl) (k H locs ls hL hP hD hS)
theorem bv_iload {i : Nat} {x : Int32} (pc' : Nat) (hpc : pc + 2 = pc') (C : bCx p R s m args meth c cc own nL ret hh dd A) (hdg : decode cc pc = .ok (.iload i, 2)) (hl : lo i = some (.int x))
    (k : bV p l e R s m args below meth c dd A nL mc ms post thr pc' lo (.int x :: rest) ad w N cells slots) : bV p l e R s m args below meth c dd A nL mc ms post thr pc lo (rest) ad w N cells slots := by
  subst hpc
  exact fun H locs ls hL hP hD hS => lv_iload C.1 C.2.1 hdg (hL.2.2 _ _ hl) (k H locs ls hL hP hD hS)
theorem bv_lload_n {k : Fin 4} {x : Int64} (pc' : Nat) (hpc : pc + 1 = pc') (C : bCx p R s m args meth c cc own nL ret hh dd A) (hdg : decode cc pc = .ok (.lload_n k, 1)) (hl : lo k = some (.long x))
    (k : bV p l e R s m args below meth c dd A nL mc ms post thr pc' lo (.long x :: rest) ad w N cells slots) : bV p l e R s m args below meth c dd A nL mc ms post thr pc lo (rest) ad w N cells slots := by
  subst hpc
  exact fun H locs ls hL hP hD hS => lv_lload_n C.1 C.2.1 hdg rfl (hL.2.2 _ _ hl) (k H locs ls hL hP hD hS)
theorem bv_lload {i : Nat} {x : Int64} (pc' : Nat) (hpc : pc + 2 = pc') (C : bCx p R s m args meth c cc own nL ret hh dd A) (hdg : decode cc pc = .ok (.lload i, 2)) (hl : lo i = some (.long x))
    (k : bV p l e R s m args below meth c dd A nL mc ms post thr pc' lo (.long x :: rest) ad w N cells slots) : bV p l e R s m args below meth c dd A nL mc ms post thr pc lo (rest) ad w N cells slots := by
  subst hpc
  exact fun H locs ls hL hP hD hS => lv_lload C.1 C.2.1 hdg (hL.2.2 _ _ hl) (k H locs ls hL hP hD hS)
theorem bv_aload_n {k : Fin 4} {x : Nat} (pc' : Nat) (hpc : pc + 1 = pc') (C : bCx p R s m args meth c cc own nL ret hh dd A) (hdg : decode cc pc = .ok (.aload_n k, 1)) (hl : lo k = some (.ref x))
    (k : bV p l e R s m args below meth c dd A nL mc ms post thr pc' lo (.ref x :: rest) ad w N cells slots) : bV p l e R s m args below meth c dd A nL mc ms post thr pc lo (rest) ad w N cells slots := by
  subst hpc
  exact fun H locs ls hL hP hD hS => lv_aload_n C.1 C.2.1 hdg rfl (hL.2.2 _ _ hl) (k H locs ls hL hP hD hS)
theorem bv_aload {i : Nat} {x : Nat} (pc' : Nat) (hpc : pc + 2 = pc') (C : bCx p R s m args meth c cc own nL ret hh dd A) (hdg : decode cc pc = .ok (.aload i, 2)) (hl : lo i = some (.ref x))
    (k : bV p l e R s m args below meth c dd A nL mc ms post thr pc' lo (.ref x :: rest) ad w N cells slots) : bV p l e R s m args below meth c dd A nL mc ms post thr pc lo (rest) ad w N cells slots := by
  subst hpc
  exact fun H locs ls hL hP hD hS => lv_aload C.1 C.2.1 hdg (hL.2.2 _ _ hl) (k H locs ls hL hP hD hS)
theorem bv_aload_nN {k : Fin 4} (pc' : Nat) (hpc : pc + 1 = pc') (C : bCx p R s m args meth c cc own nL ret hh dd A) (hdg : decode cc pc = .ok (.aload_n k, 1)) (hl : lo k = some .null)
    (k : bV p l e R s m args below meth c dd A nL mc ms post thr pc' lo (.null :: rest) ad w N cells slots) : bV p l e R s m args below meth c dd A nL mc ms post thr pc lo (rest) ad w N cells slots := by
  subst hpc
  exact fun H locs ls hL hP hD hS => lv_aload_nN C.1 C.2.1 hdg rfl (hL.2.2 _ _ hl) (k H locs ls hL hP hD hS)
theorem bv_aloadN {i : Nat} (pc' : Nat) (hpc : pc + 2 = pc') (C : bCx p R s m args meth c cc own nL ret hh dd A) (hdg : decode cc pc = .ok (.aload i, 2)) (hl : lo i = some .null)
    (k : bV p l e R s m args below meth c dd A nL mc ms post thr pc' lo (.null :: rest) ad w N cells slots) : bV p l e R s m args below meth c dd A nL mc ms post thr pc lo (rest) ad w N cells slots := by
  subst hpc
  exact fun H locs ls hL hP hD hS => lv_aloadN C.1 C.2.1 hdg (hL.2.2 _ _ hl) (k H locs ls hL hP hD hS)
theorem bv_null  (pc' : Nat) (hpc : pc + 1 = pc') (C : bCx p R s m args meth c cc own nL ret hh dd A) (hdg : decode cc pc = .ok (.aconst_null, 1))
    (k : bV p l e R s m args below meth c dd A nL mc ms post thr pc' lo (.null :: rest) ad w N cells slots) : bV p l e R s m args below meth c dd A nL mc ms post thr pc lo (rest) ad w N cells slots := by
  subst hpc
  exact fun H locs ls hL hP hD hS => lv_null C.1 C.2.1 hdg (k H locs ls hL hP hD hS)
theorem bv_iadd {x y : Int32} (pc' : Nat) (hpc : pc + 1 = pc') (C : bCx p R s m args meth c cc own nL ret hh dd A) (hdg : decode cc pc = .ok (.iadd, 1))
    (k : bV p l e R s m args below meth c dd A nL mc ms post thr pc' lo (.int (x + y) :: rest) ad w N cells slots) : bV p l e R s m args below meth c dd A nL mc ms post thr pc lo (.int y :: .int x :: rest) ad w N cells slots := by
  subst hpc
  exact fun H locs ls hL hP hD hS => lv_iadd C.1 C.2.1 hdg (k H locs ls hL hP hD hS)
theorem bv_isub {x y : Int32} (pc' : Nat) (hpc : pc + 1 = pc') (C : bCx p R s m args meth c cc own nL ret hh dd A) (hdg : decode cc pc = .ok (.isub, 1))
    (k : bV p l e R s m args below meth c dd A nL mc ms post thr pc' lo (.int (x - y) :: rest) ad w N cells slots) : bV p l e R s m args below meth c dd A nL mc ms post thr pc lo (.int y :: .int x :: rest) ad w N cells slots := by
  subst hpc
  exact fun H locs ls hL hP hD hS => lv_isub C.1 C.2.1 hdg (k H locs ls hL hP hD hS)
theorem bv_imul {x y : Int32} (pc' : Nat) (hpc : pc + 1 = pc') (C : bCx p R s m args meth c cc own nL ret hh dd A) (hdg : decode cc pc = .ok (.imul, 1))
    (k : bV p l e R s m args below meth c dd A nL mc ms post thr pc' lo (.int (x * y) :: rest) ad w N cells slots) : bV p l e R s m args below meth c dd A nL mc ms post thr pc lo (.int y :: .int x :: rest) ad w N cells slots := by
  subst hpc
  exact fun H locs ls hL hP hD hS => lv_imul C.1 C.2.1 hdg (k H locs ls hL hP hD hS)
theorem bv_iand {x y : Int32} (pc' : Nat) (hpc : pc + 1 = pc') (C : bCx p R s m args meth c cc own nL ret hh dd A) (hdg : decode cc pc = .ok (.iand, 1))
    (k : bV p l e R s m args below meth c dd A nL mc ms post thr pc' lo (.int (x &&& y) :: rest) ad w N cells slots) : bV p l e R s m args below meth c dd A nL mc ms post thr pc lo (.int y :: .int x :: rest) ad w N cells slots := by
  subst hpc
  exact fun H locs ls hL hP hD hS => lv_iand C.1 C.2.1 hdg (k H locs ls hL hP hD hS)
theorem bv_ior {x y : Int32} (pc' : Nat) (hpc : pc + 1 = pc') (C : bCx p R s m args meth c cc own nL ret hh dd A) (hdg : decode cc pc = .ok (.ior, 1))
    (k : bV p l e R s m args below meth c dd A nL mc ms post thr pc' lo (.int (x ||| y) :: rest) ad w N cells slots) : bV p l e R s m args below meth c dd A nL mc ms post thr pc lo (.int y :: .int x :: rest) ad w N cells slots := by
  subst hpc
  exact fun H locs ls hL hP hD hS => lv_ior C.1 C.2.1 hdg (k H locs ls hL hP hD hS)
theorem bv_ixor {x y : Int32} (pc' : Nat) (hpc : pc + 1 = pc') (C : bCx p R s m args meth c cc own nL ret hh dd A) (hdg : decode cc pc = .ok (.ixor, 1))
    (k : bV p l e R s m args below meth c dd A nL mc ms post thr pc' lo (.int (x ^^^ y) :: rest) ad w N cells slots) : bV p l e R s m args below meth c dd A nL mc ms post thr pc lo (.int y :: .int x :: rest) ad w N cells slots := by
  subst hpc
  exact fun H locs ls hL hP hD hS => lv_ixor C.1 C.2.1 hdg (k H locs ls hL hP hD hS)
theorem bv_ishl {x y : Int32} (pc' : Nat) (hpc : pc + 1 = pc') (C : bCx p R s m args meth c cc own nL ret hh dd A) (hdg : decode cc pc = .ok (.ishl, 1))
    (k : bV p l e R s m args below meth c dd A nL mc ms post thr pc' lo (.int (x <<< (y &&& 31)) :: rest) ad w N cells slots) : bV p l e R s m args below meth c dd A nL mc ms post thr pc lo (.int y :: .int x :: rest) ad w N cells slots := by
  subst hpc
  exact fun H locs ls hL hP hD hS => lv_ishl C.1 C.2.1 hdg (k H locs ls hL hP hD hS)
theorem bv_ishr {x y : Int32} (pc' : Nat) (hpc : pc + 1 = pc') (C : bCx p R s m args meth c cc own nL ret hh dd A) (hdg : decode cc pc = .ok (.ishr, 1))
    (k : bV p l e R s m args below meth c dd A nL mc ms post thr pc' lo (.int (x >>> (y &&& 31)) :: rest) ad w N cells slots) : bV p l e R s m args below meth c dd A nL mc ms post thr pc lo (.int y :: .int x :: rest) ad w N cells slots := by
  subst hpc
  exact fun H locs ls hL hP hD hS => lv_ishr C.1 C.2.1 hdg (k H locs ls hL hP hD hS)
theorem bv_idiv {x y : Int32} (pc' : Nat) (hpc : pc + 1 = pc') (C : bCx p R s m args meth c cc own nL ret hh dd A) (hdg : decode cc pc = .ok (.idiv, 1)) (hne : ¬ y = 0)
    (k : bV p l e R s m args below meth c dd A nL mc ms post thr pc' lo (.int (x / y) :: rest) ad w N cells slots) : bV p l e R s m args below meth c dd A nL mc ms post thr pc lo (.int y :: .int x :: rest) ad w N cells slots := by
  subst hpc
  exact fun H locs ls hL hP hD hS => lv_idiv C.1 C.2.1 hdg hne (k H locs ls hL hP hD hS)
theorem bv_irem {x y : Int32} (pc' : Nat) (hpc : pc + 1 = pc') (C : bCx p R s m args meth c cc own nL ret hh dd A) (hdg : decode cc pc = .ok (.irem, 1)) (hne : ¬ y = 0)
    (k : bV p l e R s m args below meth c dd A nL mc ms post thr pc' lo (.int (x - x / y * y) :: rest) ad w N cells slots) : bV p l e R s m args below meth c dd A nL mc ms post thr pc lo (.int y :: .int x :: rest) ad w N cells slots := by
  subst hpc
  exact fun H locs ls hL hP hD hS => lv_irem C.1 C.2.1 hdg hne (k H locs ls hL hP hD hS)
theorem bv_ladd {x y : Int64} (pc' : Nat) (hpc : pc + 1 = pc') (C : bCx p R s m args meth c cc own nL ret hh dd A) (hdg : decode cc pc = .ok (.ladd, 1))
    (k : bV p l e R s m args below meth c dd A nL mc ms post thr pc' lo (.long (x + y) :: rest) ad w N cells slots) : bV p l e R s m args below meth c dd A nL mc ms post thr pc lo (.long y :: .long x :: rest) ad w N cells slots := by
  subst hpc
  exact fun H locs ls hL hP hD hS => lv_ladd C.1 C.2.1 hdg (k H locs ls hL hP hD hS)
theorem bv_lsub {x y : Int64} (pc' : Nat) (hpc : pc + 1 = pc') (C : bCx p R s m args meth c cc own nL ret hh dd A) (hdg : decode cc pc = .ok (.lsub, 1))
    (k : bV p l e R s m args below meth c dd A nL mc ms post thr pc' lo (.long (x - y) :: rest) ad w N cells slots) : bV p l e R s m args below meth c dd A nL mc ms post thr pc lo (.long y :: .long x :: rest) ad w N cells slots := by
  subst hpc
  exact fun H locs ls hL hP hD hS => lv_lsub C.1 C.2.1 hdg (k H locs ls hL hP hD hS)
theorem bv_lmul {x y : Int64} (pc' : Nat) (hpc : pc + 1 = pc') (C : bCx p R s m args meth c cc own nL ret hh dd A) (hdg : decode cc pc = .ok (.lmul, 1))
    (k : bV p l e R s m args below meth c dd A nL mc ms post thr pc' lo (.long (x * y) :: rest) ad w N cells slots) : bV p l e R s m args below meth c dd A nL mc ms post thr pc lo (.long y :: .long x :: rest) ad w N cells slots := by
  subst hpc
  exact fun H locs ls hL hP hD hS => lv_lmul C.1 C.2.1 hdg (k H locs ls hL hP hD hS)
theorem bv_land {x y : Int64} (pc' : Nat) (hpc : pc + 1 = pc') (C : bCx p R s m args meth c cc own nL ret hh dd A) (hdg : decode cc pc = .ok (.land, 1))
    (k : bV p l e R s m args below meth c dd A nL mc ms post thr pc' lo (.long (x &&& y) :: rest) ad w N cells slots) : bV p l e R s m args below meth c dd A nL mc ms post thr pc lo (.long y :: .long x :: rest) ad w N cells slots := by
  subst hpc
  exact fun H locs ls hL hP hD hS => lv_land C.1 C.2.1 hdg (k H locs ls hL hP hD hS)
theorem bv_lor {x y : Int64} (pc' : Nat) (hpc : pc + 1 = pc') (C : bCx p R s m args meth c cc own nL ret hh dd A) (hdg : decode cc pc = .ok (.lor, 1))
    (k : bV p l e R s m args below meth c dd A nL mc ms post thr pc' lo (.long (x ||| y) :: rest) ad w N cells slots) : bV p l e R s m args below meth c dd A nL mc ms post thr pc lo (.long y :: .long x :: rest) ad w N cells slots := by
  subst hpc
  exact fun H locs ls hL hP hD hS => lv_lor C.1 C.2.1 hdg (k H locs ls hL hP hD hS)
theorem bv_lxor {x y : Int64} (pc' : Nat) (hpc : pc + 1 = pc') (C : bCx p R s m args meth c cc own nL ret hh dd A) (hdg : decode cc pc = .ok (.lxor, 1))
    (k : bV p l e R s m args below meth c dd A nL mc ms post thr pc' lo (.long (x ^^^ y) :: rest) ad w N cells slots) : bV p l e R s m args below meth c dd A nL mc ms post thr pc lo (.long y :: .long x :: rest) ad w N cells slots := by
  subst hpc
  exact fun H locs ls hL hP hD hS => lv_lxor C.1 C.2.1 hdg (k H locs ls hL hP hD hS)
theorem bv_iushr {x y v : Int32} (pc' : Nat) (hpc : pc + 1 = pc') (C : bCx p R s m args meth c cc own nL ret hh dd A) (hdg : decode cc pc = .ok (.iushr, 1)) (hv : (x.toUInt32 >>> (y.toUInt32 &&& Int32.toUInt32 31)).toInt32 = v)
    (k : bV p l e R s m args below meth c dd A nL mc ms post thr pc' lo (.int v :: rest) ad w N cells slots) : bV p l e R s m args below meth c dd A nL mc ms post thr pc lo (.int y :: .int x :: rest) ad w N cells slots := by
  subst hpc
  exact fun H locs ls hL hP hD hS => lv_iushr C.1 C.2.1 hdg hv (k H locs ls hL hP hD hS)
theorem bv_lushr {x v : Int64} {y : Int32} (pc' : Nat) (hpc : pc + 1 = pc') (C : bCx p R s m args meth c cc own nL ret hh dd A) (hdg : decode cc pc = .ok (.lushr, 1)) (hv : (x.toUInt64 >>> (y.toInt64.toUInt64 &&& Int64.toUInt64 63)).toInt64 = v)
    (k : bV p l e R s m args below meth c dd A nL mc ms post thr pc' lo (.long v :: rest) ad w N cells slots) : bV p l e R s m args below meth c dd A nL mc ms post thr pc lo (.int y :: .long x :: rest) ad w N cells slots := by
  subst hpc
  exact fun H locs ls hL hP hD hS => lv_lushr C.1 C.2.1 hdg hv (k H locs ls hL hP hD hS)
theorem bv_lshl {x v : Int64} {y : Int32} (pc' : Nat) (hpc : pc + 1 = pc') (C : bCx p R s m args meth c cc own nL ret hh dd A) (hdg : decode cc pc = .ok (.lshl, 1)) (hv : x <<< (y.toInt64 &&& 63) = v)
    (k : bV p l e R s m args below meth c dd A nL mc ms post thr pc' lo (.long v :: rest) ad w N cells slots) : bV p l e R s m args below meth c dd A nL mc ms post thr pc lo (.int y :: .long x :: rest) ad w N cells slots := by
  subst hpc
  exact fun H locs ls hL hP hD hS => lv_lshl C.1 C.2.1 hdg hv (k H locs ls hL hP hD hS)
theorem bv_lshr {x v : Int64} {y : Int32} (pc' : Nat) (hpc : pc + 1 = pc') (C : bCx p R s m args meth c cc own nL ret hh dd A) (hdg : decode cc pc = .ok (.lshr, 1)) (hv : x >>> (y.toInt64 &&& 63) = v)
    (k : bV p l e R s m args below meth c dd A nL mc ms post thr pc' lo (.long v :: rest) ad w N cells slots) : bV p l e R s m args below meth c dd A nL mc ms post thr pc lo (.int y :: .long x :: rest) ad w N cells slots := by
  subst hpc
  exact fun H locs ls hL hP hD hS => lv_lshr C.1 C.2.1 hdg hv (k H locs ls hL hP hD hS)
theorem bv_i2l {x : Int32} {v : Int64} (pc' : Nat) (hpc : pc + 1 = pc') (C : bCx p R s m args meth c cc own nL ret hh dd A) (hdg : decode cc pc = .ok (.i2l, 1)) (hv : x.toInt64 = v)
    (k : bV p l e R s m args below meth c dd A nL mc ms post thr pc' lo (.long v :: rest) ad w N cells slots) : bV p l e R s m args below meth c dd A nL mc ms post thr pc lo (.int x :: rest) ad w N cells slots := by
  subst hpc
  exact fun H locs ls hL hP hD hS => lv_i2l C.1 C.2.1 hdg hv (k H locs ls hL hP hD hS)
theorem bv_l2i {x : Int64} {v : Int32} (pc' : Nat) (hpc : pc + 1 = pc') (C : bCx p R s m args meth c cc own nL ret hh dd A) (hdg : decode cc pc = .ok (.l2i, 1)) (hv : x.toInt32 = v)
    (k : bV p l e R s m args below meth c dd A nL mc ms post thr pc' lo (.int v :: rest) ad w N cells slots) : bV p l e R s m args below meth c dd A nL mc ms post thr pc lo (.long x :: rest) ad w N cells slots := by
  subst hpc
  exact fun H locs ls hL hP hD hS => lv_l2i C.1 C.2.1 hdg hv (k H locs ls hL hP hD hS)
theorem bv_i2b {x : Int32} {v : Int32} (pc' : Nat) (hpc : pc + 1 = pc') (C : bCx p R s m args meth c cc own nL ret hh dd A) (hdg : decode cc pc = .ok (.i2b, 1)) (hv : x.toInt8.toInt32 = v)
    (k : bV p l e R s m args below meth c dd A nL mc ms post thr pc' lo (.int v :: rest) ad w N cells slots) : bV p l e R s m args below meth c dd A nL mc ms post thr pc lo (.int x :: rest) ad w N cells slots := by
  subst hpc
  exact fun H locs ls hL hP hD hS => lv_i2b C.1 C.2.1 hdg hv (k H locs ls hL hP hD hS)
theorem bv_ineg {x : Int32} (pc' : Nat) (hpc : pc + 1 = pc') (C : bCx p R s m args meth c cc own nL ret hh dd A) (hdg : decode cc pc = .ok (.ineg, 1))
    (k : bV p l e R s m args below meth c dd A nL mc ms post thr pc' lo (.int (-x) :: rest) ad w N cells slots) : bV p l e R s m args below meth c dd A nL mc ms post thr pc lo (.int x :: rest) ad w N cells slots := by
  subst hpc
  exact fun H locs ls hL hP hD hS => lv_ineg C.1 C.2.1 hdg (k H locs ls hL hP hD hS)
theorem bv_lcmp {x y : Int64} (pc' : Nat) (hpc : pc + 1 = pc') (C : bCx p R s m args meth c cc own nL ret hh dd A) (hdg : decode cc pc = .ok (.lcmp, 1))
    (k : bV p l e R s m args below meth c dd A nL mc ms post thr pc' lo (.int (lg_cmp x y) :: rest) ad w N cells slots) : bV p l e R s m args below meth c dd A nL mc ms post thr pc lo (.long y :: .long x :: rest) ad w N cells slots := by
  subst hpc
  exact fun H locs ls hL hP hD hS => W.lcmp C.1 C.2.1 hdg (k H locs ls hL hP hD hS)
theorem bv_dup {va : Value} (pc' : Nat) (hpc : pc + 1 = pc') (C : bCx p R s m args meth c cc own nL ret hh dd A) (hdg : decode cc pc = .ok (.dup, 1)) (hva : va.category = 1)
    (k : bV p l e R s m args below meth c dd A nL mc ms post thr pc' lo (va :: va :: rest) ad w N cells slots) : bV p l e R s m args below meth c dd A nL mc ms post thr pc lo (va :: rest) ad w N cells slots := by
  subst hpc
  exact fun H locs ls hL hP hD hS => lv_dup C.1 C.2.1 hdg hva (k H locs ls hL hP hD hS)
theorem bv_pop {va : Value} (pc' : Nat) (hpc : pc + 1 = pc') (C : bCx p R s m args meth c cc own nL ret hh dd A) (hdg : decode cc pc = .ok (.pop, 1)) (hva : va.category = 1)
    (k : bV p l e R s m args below meth c dd A nL mc ms post thr pc' lo (rest) ad w N cells slots) : bV p l e R s m args below meth c dd A nL mc ms post thr pc lo (va :: rest) ad w N cells slots := by
  subst hpc
  exact fun H locs ls hL hP hD hS => lv_pop C.1 C.2.1 hdg hva (k H locs ls hL hP hD hS)
theorem bv_dup_x1 {va vb : Value} (pc' : Nat) (hpc : pc + 1 = pc') (C : bCx p R s m args meth c cc own nL ret hh dd A) (hdg : decode cc pc = .ok (.dup_x1, 1)) (hva : va.category = 1) (hvb : vb.category = 1)
    (k : bV p l e R s m args below meth c dd A nL mc ms post thr pc' lo (va :: vb :: va :: rest) ad w N cells slots) : bV p l e R s m args below meth c dd A nL mc ms post thr pc lo (va :: vb :: rest) ad w N cells slots := by
  subst hpc
  exact fun H locs ls hL hP hD hS => lv_dup_x1 C.1 C.2.1 hdg hva hvb (k H locs ls hL hP hD hS)
theorem bv_dup_x2 {va vb vd : Value} (pc' : Nat) (hpc : pc + 1 = pc') (C : bCx p R s m args meth c cc own nL ret hh dd A) (hdg : decode cc pc = .ok (.dup_x2, 1)) (hva : va.category = 1) (hvb : vb.category = 1) (hvd : vd.category = 1)
    (k : bV p l e R s m args below meth c dd A nL mc ms post thr pc' lo (va :: vb :: vd :: va :: rest) ad w N cells slots) : bV p l e R s m args below meth c dd A nL mc ms post thr pc lo (va :: vb :: vd :: rest) ad w N cells slots := by
  subst hpc
  exact fun H locs ls hL hP hD hS => lv_dup_x2 C.1 C.2.1 hdg hva hvb hvd (k H locs ls hL hP hD hS)
theorem bv_dup2_11 {va vb : Value} (pc' : Nat) (hpc : pc + 1 = pc') (C : bCx p R s m args meth c cc own nL ret hh dd A) (hdg : decode cc pc = .ok (.dup2, 1)) (hva : va.category = 1) (hvb : vb.category = 1)
    (k : bV p l e R s m args below meth c dd A nL mc ms post thr pc' lo (va :: vb :: va :: vb :: rest) ad w N cells slots) : bV p l e R s m args below meth c dd A nL mc ms post thr pc lo (va :: vb :: rest) ad w N cells slots := by
  subst hpc
  exact fun H locs ls hL hP hD hS => lv_dup2_11 C.1 C.2.1 hdg hva hvb (k H locs ls hL hP hD hS)
theorem bv_if_eq {x : Int32} {off : Int} (tgt pc' : Nat) (hpc : pc + 3 = pc') (C : bCx p R s m args meth c cc own nL ret hh dd A) (hdg : decode cc pc = .ok (.ifCond .eq off, 3)) (ht : (pc : Int) + off = (tgt : Int))
    (kt : x = 0 → bV p l e R s m args below meth c dd A nL mc ms post thr tgt lo rest ad w N cells slots) (kf : ¬ x = 0 → bV p l e R s m args below meth c dd A nL mc ms post thr pc' lo rest ad w N cells slots) : bV p l e R s m args below meth c dd A nL mc ms post thr pc lo (.int x :: rest) ad w N cells slots := by
  subst hpc
  exact fun H locs ls hL hP hD hS => lv_if_eq C.1 C.2.1 hdg ht (fun h => kt h H locs ls hL hP hD hS) (fun h => kf h H locs ls hL hP hD hS)
theorem bv_if_ne {x : Int32} {off : Int} (tgt pc' : Nat) (hpc : pc + 3 = pc') (C : bCx p R s m args meth c cc own nL ret hh dd A) (hdg : decode cc pc = .ok (.ifCond .ne off, 3)) (ht : (pc : Int) + off = (tgt : Int))
    (kt : ¬ x = 0 → bV p l e R s m args below meth c dd A nL mc ms post thr tgt lo rest ad w N cells slots) (kf : x = 0 → bV p l e R s m args below meth c dd A nL mc ms post thr pc' lo rest ad w N cells slots) : bV p l e R s m args below meth c dd A nL mc ms post thr pc lo (.int x :: rest) ad w N cells slots := by
  subst hpc
  exact fun H locs ls hL hP hD hS => lv_if_ne C.1 C.2.1 hdg ht (fun h => kt h H locs ls hL hP hD hS) (fun h => kf h H locs ls hL hP hD hS)
theorem bv_if_lt {x : Int32} {off : Int} (tgt pc' : Nat) (hpc : pc + 3 = pc') (C : bCx p R s m args meth c cc own nL ret hh dd A) (hdg : decode cc pc = .ok (.ifCond .lt off, 3)) (ht : (pc : Int) + off = (tgt : Int))
    (kt : x < 0 → bV p l e R s m args below meth c dd A nL mc ms post thr tgt lo rest ad w N cells slots) (kf : ¬ x < 0 → bV p l e R s m args below meth c dd A nL mc ms post thr pc' lo rest ad w N cells slots) : bV p l e R s m args below meth c dd A nL mc ms post thr pc lo (.int x :: rest) ad w N cells slots := by
  subst hpc
  exact fun H locs ls hL hP hD hS => lv_if_lt C.1 C.2.1 hdg ht (fun h => kt h H locs ls hL hP hD hS) (fun h => kf h H locs ls hL hP hD hS)
theorem bv_if_ge {x : Int32} {off : Int} (tgt pc' : Nat) (hpc : pc + 3 = pc') (C : bCx p R s m args meth c cc own nL ret hh dd A) (hdg : decode cc pc = .ok (.ifCond .ge off, 3)) (ht : (pc : Int) + off = (tgt : Int))
    (kt : 0 ≤ x → bV p l e R s m args below meth c dd A nL mc ms post thr tgt lo rest ad w N cells slots) (kf : ¬ 0 ≤ x → bV p l e R s m args below meth c dd A nL mc ms post thr pc' lo rest ad w N cells slots) : bV p l e R s m args below meth c dd A nL mc ms post thr pc lo (.int x :: rest) ad w N cells slots := by
  subst hpc
  exact fun H locs ls hL hP hD hS => lv_if_ge C.1 C.2.1 hdg ht (fun h => kt h H locs ls hL hP hD hS) (fun h => kf h H locs ls hL hP hD hS)
theorem bv_if_gt {x : Int32} {off : Int} (tgt pc' : Nat) (hpc : pc + 3 = pc') (C : bCx p R s m args meth c cc own nL ret hh dd A) (hdg : decode cc pc = .ok (.ifCond .gt off, 3)) (ht : (pc : Int) + off = (tgt : Int))
    (kt : 0 < x → bV p l e R s m args below meth c dd A nL mc ms post thr tgt lo rest ad w N cells slots) (kf : ¬ 0 < x → bV p l e R s m args below meth c dd A nL mc ms post thr pc' lo rest ad w N cells slots) : bV p l e R s m args below meth c dd A nL mc ms post thr pc lo (.int x :: rest) ad w N cells slots := by
  subst hpc
  exact fun H locs ls hL hP hD hS => lv_if_gt C.1 C.2.1 hdg ht (fun h => kt h H locs ls hL hP hD hS) (fun h => kf h H locs ls hL hP hD hS)
theorem bv_if_le {x : Int32} {off : Int} (tgt pc' : Nat) (hpc : pc + 3 = pc') (C : bCx p R s m args meth c cc own nL ret hh dd A) (hdg : decode cc pc = .ok (.ifCond .le off, 3)) (ht : (pc : Int) + off = (tgt : Int))
    (kt : x ≤ 0 → bV p l e R s m args below meth c dd A nL mc ms post thr tgt lo rest ad w N cells slots) (kf : ¬ x ≤ 0 → bV p l e R s m args below meth c dd A nL mc ms post thr pc' lo rest ad w N cells slots) : bV p l e R s m args below meth c dd A nL mc ms post thr pc lo (.int x :: rest) ad w N cells slots := by
  subst hpc
  exact fun H locs ls hL hP hD hS => lv_if_le C.1 C.2.1 hdg ht (fun h => kt h H locs ls hL hP hD hS) (fun h => kf h H locs ls hL hP hD hS)
theorem bv_icmp_eq {x y : Int32} {off : Int} (tgt pc' : Nat) (hpc : pc + 3 = pc') (C : bCx p R s m args meth c cc own nL ret hh dd A) (hdg : decode cc pc = .ok (.if_icmp .eq off, 3)) (ht : (pc : Int) + off = (tgt : Int))
    (kt : x = y → bV p l e R s m args below meth c dd A nL mc ms post thr tgt lo rest ad w N cells slots) (kf : ¬ x = y → bV p l e R s m args below meth c dd A nL mc ms post thr pc' lo rest ad w N cells slots) : bV p l e R s m args below meth c dd A nL mc ms post thr pc lo (.int y :: .int x :: rest) ad w N cells slots := by
  subst hpc
  exact fun H locs ls hL hP hD hS => lv_icmp_eq C.1 C.2.1 hdg ht (fun h => kt h H locs ls hL hP hD hS) (fun h => kf h H locs ls hL hP hD hS)
theorem bv_icmp_ne {x y : Int32} {off : Int} (tgt pc' : Nat) (hpc : pc + 3 = pc') (C : bCx p R s m args meth c cc own nL ret hh dd A) (hdg : decode cc pc = .ok (.if_icmp .ne off, 3)) (ht : (pc : Int) + off = (tgt : Int))
    (kt : ¬ x = y → bV p l e R s m args below meth c dd A nL mc ms post thr tgt lo rest ad w N cells slots) (kf : x = y → bV p l e R s m args below meth c dd A nL mc ms post thr pc' lo rest ad w N cells slots) : bV p l e R s m args below meth c dd A nL mc ms post thr pc lo (.int y :: .int x :: rest) ad w N cells slots := by
  subst hpc
  exact fun H locs ls hL hP hD hS => lv_icmp_ne C.1 C.2.1 hdg ht (fun h => kt h H locs ls hL hP hD hS) (fun h => kf h H locs ls hL hP hD hS)
theorem bv_icmp_lt {x y : Int32} {off : Int} (tgt pc' : Nat) (hpc : pc + 3 = pc') (C : bCx p R s m args meth c cc own nL ret hh dd A) (hdg : decode cc pc = .ok (.if_icmp .lt off, 3)) (ht : (pc : Int) + off = (tgt : Int))
    (kt : x < y → bV p l e R s m args below meth c dd A nL mc ms post thr tgt lo rest ad w N cells slots) (kf : ¬ x < y → bV p l e R s m args below meth c dd A nL mc ms post thr pc' lo rest ad w N cells slots) : bV p l e R s m args below meth c dd A nL mc ms post thr pc lo (.int y :: .int x :: rest) ad w N cells slots := by
  subst hpc
  exact fun H locs ls hL hP hD hS => lv_icmp_lt C.1 C.2.1 hdg ht (fun h => kt h H locs ls hL hP hD hS) (fun h => kf h H locs ls hL hP hD hS)
theorem bv_icmp_ge {x y : Int32} {off : Int} (tgt pc' : Nat) (hpc : pc + 3 = pc') (C : bCx p R s m args meth c cc own nL ret hh dd A) (hdg : decode cc pc = .ok (.if_icmp .ge off, 3)) (ht : (pc : Int) + off = (tgt : Int))
    (kt : y ≤ x → bV p l e R s m args below meth c dd A nL mc ms post thr tgt lo rest ad w N cells slots) (kf : ¬ y ≤ x → bV p l e R s m args below meth c dd A nL mc ms post thr pc' lo rest ad w N cells slots) : bV p l e R s m args below meth c dd A nL mc ms post thr pc lo (.int y :: .int x :: rest) ad w N cells slots := by
  subst hpc
  exact fun H locs ls hL hP hD hS => lv_icmp_ge C.1 C.2.1 hdg ht (fun h => kt h H locs ls hL hP hD hS) (fun h => kf h H locs ls hL hP hD hS)
theorem bv_icmp_gt {x y : Int32} {off : Int} (tgt pc' : Nat) (hpc : pc + 3 = pc') (C : bCx p R s m args meth c cc own nL ret hh dd A) (hdg : decode cc pc = .ok (.if_icmp .gt off, 3)) (ht : (pc : Int) + off = (tgt : Int))
    (kt : y < x → bV p l e R s m args below meth c dd A nL mc ms post thr tgt lo rest ad w N cells slots) (kf : ¬ y < x → bV p l e R s m args below meth c dd A nL mc ms post thr pc' lo rest ad w N cells slots) : bV p l e R s m args below meth c dd A nL mc ms post thr pc lo (.int y :: .int x :: rest) ad w N cells slots := by
  subst hpc
  exact fun H locs ls hL hP hD hS => lv_icmp_gt C.1 C.2.1 hdg ht (fun h => kt h H locs ls hL hP hD hS) (fun h => kf h H locs ls hL hP hD hS)
theorem bv_icmp_le {x y : Int32} {off : Int} (tgt pc' : Nat) (hpc : pc + 3 = pc') (C : bCx p R s m args meth c cc own nL ret hh dd A) (hdg : decode cc pc = .ok (.if_icmp .le off, 3)) (ht : (pc : Int) + off = (tgt : Int))
    (kt : x ≤ y → bV p l e R s m args below meth c dd A nL mc ms post thr tgt lo rest ad w N cells slots) (kf : ¬ x ≤ y → bV p l e R s m args below meth c dd A nL mc ms post thr pc' lo rest ad w N cells slots) : bV p l e R s m args below meth c dd A nL mc ms post thr pc lo (.int y :: .int x :: rest) ad w N cells slots := by
  subst hpc
  exact fun H locs ls hL hP hD hS => lv_icmp_le C.1 C.2.1 hdg ht (fun h => kt h H locs ls hL hP hD hS) (fun h => kf h H locs ls hL hP hD hS)
theorem bv_goto {off : Int} (tgt : Nat) (C : bCx p R s m args meth c cc own nL ret hh dd A) (hdg : decode cc pc = .ok (.goto off, 3)) (ht : (pc : Int) + off = (tgt : Int)) (k : bV p l e R s m args below meth c dd A nL mc ms post thr tgt lo rest ad w N cells slots) : bV p l e R s m args below meth c dd A nL mc ms post thr pc lo rest ad w N cells slots :=
  fun H locs ls hL hP hD hS => lv_goto C.1 C.2.1 hdg ht (k H locs ls hL hP hD hS)
theorem bv_istore_n {k : Fin 4} {x : Int32} (pc' : Nat) (hpc : pc + 1 = pc') (C : bCx p R s m args meth c cc own nL ret hh dd A) (hdg : decode cc pc = .ok (.istore_n k, 1)) (hn : (k : Nat) < nL)
    (kk : bV p l e R s m args below meth c dd A nL mc ms post thr pc' (bU lo k (.int x)) rest ad w N cells slots) : bV p l e R s m args below meth c dd A nL mc ms post thr pc lo (.int x :: rest) ad w N cells slots := by
  subst hpc
  exact fun H locs ls hL hP hD hS => lv_istore_n C.1 C.2.1 hdg rfl (bH.all hL) hn rfl (fun ls' h' => kk H locs ls' (bH.st1 hL h' (by rfl)) hP hD hS)
theorem bv_istore {i : Nat} {x : Int32} (pc' : Nat) (hpc : pc + 2 = pc') (C : bCx p R s m args meth c cc own nL ret hh dd A) (hdg : decode cc pc = .ok (.istore i, 2)) (hn : i < nL)
    (kk : bV p l e R s m args below meth c dd A nL mc ms post thr pc' (bU lo i (.int x)) rest ad w N cells slots) : bV p l e R s m args below meth c dd A nL mc ms post thr pc lo (.int x :: rest) ad w N cells slots := by
  subst hpc
  exact fun H locs ls hL hP hD hS => lv_istore C.1 C.2.1 hdg (bH.all hL) hn rfl (fun ls' h' => kk H locs ls' (bH.st1 hL h' (by rfl)) hP hD hS)
theorem bv_lstore_n {k : Fin 4} {x : Int64} (pc' : Nat) (hpc : pc + 1 = pc') (C : bCx p R s m args meth c cc own nL ret hh dd A) (hdg : decode cc pc = .ok (.lstore_n k, 1)) (hn : (k : Nat) + 1 < nL)
    (kk : bV p l e R s m args below meth c dd A nL mc ms post thr pc' (bS lo k (.long x)) rest ad w N cells slots) : bV p l e R s m args below meth c dd A nL mc ms post thr pc lo (.long x :: rest) ad w N cells slots := by
  subst hpc
  exact fun H locs ls hL hP hD hS => lv_lstore_n C.1 C.2.1 hdg rfl (bH.all hL) hn rfl (fun ls' h' => kk H locs ls' (bH.st2 hL h' (by rfl)) hP hD hS)
theorem bv_lstore {i : Nat} {x : Int64} (pc' : Nat) (hpc : pc + 2 = pc') (C : bCx p R s m args meth c cc own nL ret hh dd A) (hdg : decode cc pc = .ok (.lstore i, 2)) (hn : i + 1 < nL)
    (kk : bV p l e R s m args below meth c dd A nL mc ms post thr pc' (bS lo i (.long x)) rest ad w N cells slots) : bV p l e R s m args below meth c dd A nL mc ms post thr pc lo (.long x :: rest) ad w N cells slots := by
  subst hpc
  exact fun H locs ls hL hP hD hS => lv_lstore C.1 C.2.1 hdg (bH.all hL) hn rfl (fun ls' h' => kk H locs ls' (bH.st2 hL h' (by rfl)) hP hD hS)
theorem bv_astore_n {k : Fin 4} {x : Nat} (pc' : Nat) (hpc : pc + 1 = pc') (C : bCx p R s m args meth c cc own nL ret hh dd A) (hdg : decode cc pc = .ok (.astore_n k, 1)) (hn : (k : Nat) < nL)
    (kk : bV p l e R s m args below meth c dd A nL mc ms post thr pc' (bU lo k (.ref x)) rest ad w N cells slots) : bV p l e R s m args below meth c dd A nL mc ms post thr pc lo (.ref x :: rest) ad w N cells slots := by
  subst hpc
  exact fun H locs ls hL hP hD hS => lv_astore_n C.1 C.2.1 hdg rfl (bH.all hL) hn rfl (fun ls' h' => kk H locs ls' (bH.st1 hL h' (by rfl)) hP hD hS)
theorem bv_astore {i : Nat} {x : Nat} (pc' : Nat) (hpc : pc + 2 = pc') (C : bCx p R s m args meth c cc own nL ret hh dd A) (hdg : decode cc pc = .ok (.astore i, 2)) (hn : i < nL)
    (kk : bV p l e R s m args below meth c dd A nL mc ms post thr pc' (bU lo i (.ref x)) rest ad w N cells slots) : bV p l e R s m args below meth c dd A nL mc ms post thr pc lo (.ref x :: rest) ad w N cells slots := by
  subst hpc
  exact fun H locs ls hL hP hD hS => lv_astore C.1 C.2.1 hdg (bH.all hL) hn rfl (fun ls' h' => kk H locs ls' (bH.st1 hL h' (by rfl)) hP hD hS)
theorem bv_iinc {i : Nat} {n : Int} {x v : Int32} (pc' : Nat) (hpc : pc + 3 = pc') (C : bCx p R s m args meth c cc own nL ret hh dd A) (hdg : decode cc pc = .ok (.iinc i n, 3)) (hl : lo i = some (.int x)) (hv : x + Int32.ofInt n = v) (hn : i < nL)
    (kk : bV p l e R s m args below meth c dd A nL mc ms post thr pc' (bU lo i (.int v)) rest ad w N cells slots) : bV p l e R s m args below meth c dd A nL mc ms post thr pc lo rest ad w N cells slots := by
  subst hpc
  intro H locs ls hL hP hD hS
  obtain ⟨k, hk⟩ := bH.find hL hl
  exact lv_iinc C.1 C.2.1 hdg (bH.all hL) hk hv hn rfl (fun ls' h' => kk H locs ls' (bH.st1 hL h' (by rfl)) hP hD hS)
end bR1
end
section
section bR2
variable {p : Program} {l : Launch} {e : Env} {R : Room} {s : State} {m : MethodId} {args : Array Value} {below : List Frame} {meth : Method} {c : Code} {dd : bD} {A : Nat → Prop} {nL mc ms : Nat} {post : Option Value → (Nat → Nat) → (Nat → va_E) → Nat → Prop} {thr : String → (Nat → Nat) → (Nat → va_E) → Nat → Prop} {pc : Nat} {lo : Nat → Option Value} {rest : List Value} {ad : Nat → Nat} {w : Nat → va_E} {N cells slots : Nat} {cc : ByteArray} {own : String} {ret : Option FieldType} {hh : List (Nat × Nat × Nat × Nat)}
variable {st : List Value}
theorem bv_wk (l' : List (Nat × Value)) (h : bAll l' lo) (k : bV p l e R s m args below meth c dd A nL mc ms post thr pc (bO l') st ad w N cells slots) : bV p l e R s m args below meth c dd A nL mc ms post thr pc lo st ad w N cells slots :=
  fun H locs ls hL hP hD hS => k H locs ls ⟨hL.1, hL.2.1, fun i v hi => hL.2.2 i v (bO_sub l' h i v hi)⟩ hP hD hS
theorem bv_topi {x : Int32} (k : ∀ y : Int32, y = x → bV p l e R s m args below meth c dd A nL mc ms post thr pc lo (.int y :: rest) ad w N cells slots) : bV p l e R s m args below meth c dd A nL mc ms post thr pc lo (.int x :: rest) ad w N cells slots := k x rfl
theorem bv_topl {x : Int64} (k : ∀ y : Int64, y = x → bV p l e R s m args below meth c dd A nL mc ms post thr pc lo (.long y :: rest) ad w N cells slots) : bV p l e R s m args below meth c dd A nL mc ms post thr pc lo (.long x :: rest) ad w N cells slots := k x rfl
theorem bv_seti {x : Int32} (y : Int32) (h : x = y) (k : bV p l e R s m args below meth c dd A nL mc ms post thr pc lo (.int y :: rest) ad w N cells slots) : bV p l e R s m args below meth c dd A nL mc ms post thr pc lo (.int x :: rest) ad w N cells slots := by rw [h]; exact k
theorem bv_w (w' : Nat → va_E) (h : ∀ k, k < N → w k = w' k) (kk : bV p l e R s m args below meth c dd A nL mc ms post thr pc lo st ad w' N cells slots) : bV p l e R s m args below meth c dd A nL mc ms post thr pc lo st ad w N cells slots := by
  have e1 : bw ad w N = bw ad w' N := List.map_congr_left (fun k hk => by rw [h k (List.mem_range.mp hk)])
  intro H locs ls hL hP hD hS
  rw [e1] at hP hD
  exact kk H locs ls hL hP hD hS
theorem bv_cs (k n : Nat) (h1 : cells ≤ k) (h2 : slots ≤ n) (kk : bV p l e R s m args below meth c dd A nL mc ms post thr pc lo st ad w N k n) : bV p l e R s m args below meth c dd A nL mc ms post thr pc lo st ad w N cells slots :=
  fun H locs ls hL hP hD hS => W.widen h1 h2 (kk H locs ls hL hP hD hS)
theorem bv_ireturn {v : Int32} (C : bCx p R s m args meth c cc own nL ret hh dd A) (hr : ret = some .int) (hdg : decode cc pc = .ok (.ireturn, 1)) (hc : cells ≤ mc) (hs : slots ≤ ms) (h : post (some (.int v)) ad w N) : bV p l e R s m args below meth c dd A nL mc ms post thr pc lo [.int v] ad w N cells slots :=
  fun H locs ls hL hP hD hS => W.widen hc hs (bWmono (fun _ => bMQ.of) (W.iret (v := v) C.1 C.2.1 (C.2.2.2.2.2.1.trans hr) (fun t ht _ => ⟨hS.F ht, ad, w, N, by rw [ht]; exact hP, hD, Or.inl ⟨_, rfl, h⟩⟩) hS.2.2 hdg C.2.2.2.2.2.2.1))
theorem bv_zreturn {v : Int32} (C : bCx p R s m args meth c cc own nL ret hh dd A) (hr : ret = some .boolean) (hv : v = 0 ∨ v = 1) (hdg : decode cc pc = .ok (.ireturn, 1)) (hc : cells ≤ mc) (hs : slots ≤ ms) (h : post (some (.int v)) ad w N) : bV p l e R s m args below meth c dd A nL mc ms post thr pc lo [.int v] ad w N cells slots :=
  fun H locs ls hL hP hD hS => W.widen hc hs (bWmono (fun _ => bMQ.of) (W.zret (v := v) (ty := .boolean) C.1 C.2.1 (C.2.2.2.2.2.1.trans hr) (by rcases hv with rfl | rfl <;> rfl) (fun t ht _ => ⟨hS.F ht, ad, w, N, by rw [ht]; exact hP, hD, Or.inl ⟨_, rfl, h⟩⟩) hS.2.2 hdg C.2.2.2.2.2.2.1))
theorem bv_return (C : bCx p R s m args meth c cc own nL ret hh dd A) (hr : ret = none) (hdg : decode cc pc = .ok (.return_, 1)) (hc : cells ≤ mc) (hs : slots ≤ ms) (h : post none ad w N) : bV p l e R s m args below meth c dd A nL mc ms post thr pc lo [] ad w N cells slots :=
  fun H locs ls hL hP hD hS => W.widen hc hs (bWmono (fun _ => bMQ.of) (W.vret C.1 C.2.1 (C.2.2.2.2.2.1.trans hr) (fun t ht _ => ⟨hS.F ht, ad, w, N, by rw [ht]; exact hP, hD, Or.inl ⟨_, rfl, h⟩⟩) hS.2.2 hdg C.2.2.2.2.2.2.1))
theorem bv_areturn {v : Value} {Cn : String} (C : bCx p R s m args meth c cc own nL ret hh dd A) (hr : ret = some (.object Cn)) (hv : v = .null ∨ ∃ a, v = .ref a) (hdg : decode cc pc = .ok (.areturn, 1)) (hc : cells ≤ mc) (hs : slots ≤ ms) (h : post (some v) ad w N) : bV p l e R s m args below meth c dd A nL mc ms post thr pc lo [v] ad w N cells slots :=
  fun H locs ls hL hP hD hS => W.widen hc hs (bWmono (fun _ => bMQ.of) (W.aret (v := v) C.1 C.2.1 (C.2.2.2.2.2.1.trans hr) (Or.inl ⟨_, rfl⟩) hv (fun t ht _ => ⟨hS.F ht, ad, w, N, by rw [ht]; exact hP, hD, Or.inl ⟨_, rfl, h⟩⟩) hS.2.2 hdg C.2.2.2.2.2.2.1))
theorem bv_get (k j pc' : Nat) (hpc : pc + 3 = pc') (C : bCx p R s m args meth c cc own nL ret hh dd A) {a ci N' : Nat} {fs : List Value} {Cn : String} {T' : u_T} {ty : Nat → FieldType} (hc : bCls ci Cn T' N' ty) (hk : k < N) (ha : ad k = a) (he : w k = .inr (ci, fs)) (hj : j < N') {index : Nat} (hlink : Cond.fieldLink own index (T' j).1 (T' j).2.1 (T' j).2.2.1 ∈ Tb) {v : Value} (hv : fs[j]? = some v) (hdg : decode cc pc = .ok (.getfield index, 3))
    (kk : bV p l e R s m args below meth c dd A nL mc ms post thr pc' lo (v :: rest) ad w N cells slots) : bV p l e R s m args below meth c dd A nL mc ms post thr pc lo (.ref a :: rest) ad w N cells slots := by
  subst hpc; subst ha
  intro H locs ls hL hP hD hS
  exact va_get C.1 C.2.1 C.2.2.2.2.1 hc.2.1 C.2.2.2.1 C.2.2.2.2.2.2.2.2.1.1 hP k (by rw [bw_at hk, he]) hc.1 j hj (C.2.2.2.2.1 _ hlink) (fun _ h => h) hv hdg (kk H locs ls hL hP hD hS)
theorem bv_getN (k j pc' : Nat) (hpc : pc + 3 = pc') (C : bCx p R s m args meth c cc own nL ret hh dd A) {a ci N' : Nat} {fs : List Value} {Cn host : String} {T' : u_T} {ty : Nat → FieldType} (hc : bCls ci Cn T' N' ty) (hk : k < N) (ha : ad k = a) (he : w k = .inr (ci, fs)) (hj : j < N') {index : Nat} (hlink : Cond.fieldLinkNest own index (T' j).1 (T' j).2.1 (T' j).2.2.1 host ∈ bNst) {v : Value} (hv : fs[j]? = some v) (hdg : decode cc pc = .ok (.getfield index, 3))
    (kk : bV p l e R s m args below meth c dd A nL mc ms post thr pc' lo (v :: rest) ad w N cells slots) : bV p l e R s m args below meth c dd A nL mc ms post thr pc lo (.ref a :: rest) ad w N cells slots := by
  subst hpc; subst ha
  intro H locs ls hL hP hD hS
  exact va_getN C.1 C.2.1 C.2.2.2.2.1 hc.2.1 C.2.2.2.1 C.2.2.2.2.2.2.2.2.1.1 hP k (by rw [bw_at hk, he]) hc.1 j hj (va_Nw.use rfl (C.2.2.2.2.2.2.2.2.1.2.1 _ hlink)) (fun _ h => h) hv hdg (kk H locs ls hL hP hD hS)
theorem bv_put (k j pc' : Nat) (hpc : pc + 3 = pc') (C : bCx p R s m args meth c cc own nL ret hh dd A) {a ci N' : Nat} {fs : List Value} {Cn : String} {T' : u_T} {ty : Nat → FieldType} (hc : bCls ci Cn T' N' ty) (hk : k < N) (ha : ad k = a) (he : w k = .inr (ci, fs)) (hj : j < N') {index : Nat} (hlink : Cond.fieldLink own index (T' j).1 (T' j).2.1 (T' j).2.2.1 ∈ Tb) (hfin : (T' j).2.2.2 = false) {v : Value} (hn : narrow (ty j) v = v) (hfit : fits (ty j) v = true) (hl : j < fs.length) (hdg : decode cc pc = .ok (.putfield index, 3))
    (kk : bV p l e R s m args below meth c dd A nL mc ms post thr pc' lo rest ad (va_up w k (.inr (ci, fs.set j v))) N cells slots) : bV p l e R s m args below meth c dd A nL mc ms post thr pc lo (v :: .ref a :: rest) ad w N cells slots := by
  subst hpc; subst ha
  intro H locs ls hL hP hD hS
  refine va_put C.1 C.2.1 C.2.2.2.2.1 hc.2.1 ty hc.2.2.1 hc.2.2.2 C.2.2.2.1 C.2.2.2.2.2.2.2.2.1.1 hP hD hS k (by rw [bw_at hk, he]) hc.1 j hj (C.2.2.2.2.1 _ hlink) (fun _ h => h) hfin (hc.2.2.1 j hj) hn hfit hl hdg (fun H1 locs1 hP1 hD1 hS1 => ?_)
  rw [bw_set hk] at hP1 hD1
  exact kk H1 locs1 ls hL hP1 hD1 hS1
theorem bv_putN (k j pc' : Nat) (hpc : pc + 3 = pc') (C : bCx p R s m args meth c cc own nL ret hh dd A) {a ci N' : Nat} {fs : List Value} {Cn host : String} {T' : u_T} {ty : Nat → FieldType} (hc : bCls ci Cn T' N' ty) (hk : k < N) (ha : ad k = a) (he : w k = .inr (ci, fs)) (hj : j < N') {index : Nat} (hlink : Cond.fieldLinkNest own index (T' j).1 (T' j).2.1 (T' j).2.2.1 host ∈ bNst) (hfin : (T' j).2.2.2 = false) {v : Value} (hn : narrow (ty j) v = v) (hfit : fits (ty j) v = true) (hl : j < fs.length) (hdg : decode cc pc = .ok (.putfield index, 3))
    (kk : bV p l e R s m args below meth c dd A nL mc ms post thr pc' lo rest ad (va_up w k (.inr (ci, fs.set j v))) N cells slots) : bV p l e R s m args below meth c dd A nL mc ms post thr pc lo (v :: .ref a :: rest) ad w N cells slots := by
  subst hpc; subst ha
  intro H locs ls hL hP hD hS
  refine va_putN C.1 C.2.1 C.2.2.2.2.1 hc.2.1 ty hc.2.2.1 hc.2.2.2 C.2.2.2.1 C.2.2.2.2.2.2.2.2.1.1 hP hD hS k (by rw [bw_at hk, he]) hc.1 j hj (va_Nw.use rfl (C.2.2.2.2.2.2.2.2.1.2.1 _ hlink)) (fun _ h => h) hfin (hc.2.2.1 j hj) hn hfit hl hdg (fun H1 locs1 hP1 hD1 hS1 => ?_)
  rw [bw_set hk] at hP1 hD1
  exact kk H1 locs1 ls hL hP1 hD1 hS1
theorem bv_putF (k j pc' : Nat) (hpc : pc + 3 = pc') (C : bCx p R s m args meth c cc own nL ret hh dd A) {a ci N' : Nat} {fs : List Value} {Cn : String} {T' : u_T} {ty : Nat → FieldType} (hc : bCls ci Cn T' N' ty) (hk : k < N) (ha : ad k = a) (he : w k = .inr (ci, fs)) (hj : j < N') {index : Nat} (hlink : Cond.fieldLink own index (T' j).1 (T' j).2.1 (T' j).2.2.1 ∈ Tb) (hfin : (T' j).2.2.2 = true) (hin : meth.name = "<init>") (hdecl : (T' j).1 = own) {v : Value} (hn : narrow (ty j) v = v) (hfit : fits (ty j) v = true) (hl : j < fs.length) (hdg : decode cc pc = .ok (.putfield index, 3))
    (kk : bV p l e R s m args below meth c dd A nL mc ms post thr pc' lo rest ad (va_up w k (.inr (ci, fs.set j v))) N cells slots) : bV p l e R s m args below meth c dd A nL mc ms post thr pc lo (v :: .ref a :: rest) ad w N cells slots := by
  subst hpc; subst ha
  intro H locs ls hL hP hD hS
  refine va_putF C.1 C.2.1 C.2.2.2.2.1 hc.2.1 ty hc.2.2.1 hc.2.2.2 C.2.2.2.1 C.2.2.2.2.2.2.2.2.1.1 hP hD hS k (by rw [bw_at hk, he]) hc.1 j hj (C.2.2.2.2.1 _ hlink) (fun _ h => h) hfin hin hdecl (hc.2.2.1 j hj) hn hfit hl hdg (fun H1 locs1 hP1 hD1 hS1 => ?_)
  rw [bw_set hk] at hP1 hD1
  exact kk H1 locs1 ls hL hP1 hD1 hS1
theorem bv_iald (k j pc' : Nat) (hpc : pc + 1 = pc') (C : bCx p R s m args meth c cc own nL ret hh dd A) {a n : Nat} {f : Nat → Int32} {i : Int32} (hk : k < N) (ha : ad k = a) (he : w k = aI dd n f) (hi : i = nI j) (hj : j < n) (hn : n < 2 ^ 31) (hdg : decode cc pc = .ok (.iaload, 1))
    (kk : bV p l e R s m args below meth c dd A nL mc ms post thr pc' lo (.int (f j) :: rest) ad w N cells slots) : bV p l e R s m args below meth c dd A nL mc ms post thr pc lo (.int i :: .ref a :: rest) ad w N cells slots := by
  subst hpc; subst ha; subst hi
  intro H locs ls hL hP hD hS
  refine va_iald C.1 C.2.1 C.2.2.2.2.2.2.2.2.1.1 hP k 0 (by rw [bw_at hk, he]) rfl (vp_in_nI hj hn) hdg ?_
  rw [nI_clamp (Nat.lt_trans hj hn)]
  exact kk H locs ls hL hP hD hS
theorem bv_iast (k j pc' : Nat) (hpc : pc + 1 = pc') (C : bCx p R s m args meth c cc own nL ret hh dd A) {a n : Nat} {f : Nat → Int32} {i x : Int32} (hk : k < N) (ha : ad k = a) (he : w k = aI dd n f) (hi : i = nI j) (hj : j < n) (hn : n < 2 ^ 31) (hdg : decode cc pc = .ok (.iastore, 1))
    (kk : bV p l e R s m args below meth c dd A nL mc ms post thr pc' lo rest ad (va_up w k (aI dd n (upd f j x))) N cells slots) : bV p l e R s m args below meth c dd A nL mc ms post thr pc lo (.int x :: .int i :: .ref a :: rest) ad w N cells slots := by
  subst hpc; subst ha; subst hi
  intro H locs ls hL hP hD hS
  refine va_iast C.1 C.2.1 C.2.2.2.2.2.2.2.2.1.1 hP hD hS k 0 (by rw [bw_at hk, he]) rfl (vp_in_nI hj hn) hdg (fun H1 locs1 hP1 hD1 hS1 => ?_)
  rw [nI_clamp (Nat.lt_trans hj hn)] at hP1 hD1
  rw [bw_set hk] at hP1 hD1
  exact kk H1 locs1 ls hL hP1 hD1 hS1
theorem bv_zald (k j pc' : Nat) (hpc : pc + 1 = pc') (C : bCx p R s m args meth c cc own nL ret hh dd A) {a n : Nat} {f : Nat → Int32} {i : Int32} (hk : k < N) (ha : ad k = a) (he : w k = aZ dd n f) (hi : i = nI j) (hj : j < n) (hn : n < 2 ^ 31) (hdg : decode cc pc = .ok (.baload, 1))
    (kk : bV p l e R s m args below meth c dd A nL mc ms post thr pc' lo (.int (f j) :: rest) ad w N cells slots) : bV p l e R s m args below meth c dd A nL mc ms post thr pc lo (.int i :: .ref a :: rest) ad w N cells slots := by
  subst hpc; subst ha; subst hi
  intro H locs ls hL hP hD hS
  refine va_zald C.1 C.2.1 C.2.2.2.2.2.2.2.2.1.1 hP k 2 (by rw [bw_at hk, he]) rfl (vp_in_nI hj hn) hdg ?_
  rw [nI_clamp (Nat.lt_trans hj hn)]
  exact kk H locs ls hL hP hD hS
theorem bv_zast (k j pc' : Nat) (hpc : pc + 1 = pc') (C : bCx p R s m args meth c cc own nL ret hh dd A) {a n : Nat} {f : Nat → Int32} {i x : Int32} (hk : k < N) (ha : ad k = a) (he : w k = aZ dd n f) (hi : i = nI j) (hj : j < n) (hn : n < 2 ^ 31) (hdg : decode cc pc = .ok (.bastore, 1))
    (kk : bV p l e R s m args below meth c dd A nL mc ms post thr pc' lo rest ad (va_up w k (aZ dd n (upd f j (vp_nar .boolean x)))) N cells slots) : bV p l e R s m args below meth c dd A nL mc ms post thr pc lo (.int x :: .int i :: .ref a :: rest) ad w N cells slots := by
  subst hpc; subst ha; subst hi
  intro H locs ls hL hP hD hS
  refine va_zast C.1 C.2.1 C.2.2.2.2.2.2.2.2.1.1 hP hD hS k 2 (by rw [bw_at hk, he]) rfl (vp_in_nI hj hn) hdg (fun H1 locs1 hP1 hD1 hS1 => ?_)
  rw [nI_clamp (Nat.lt_trans hj hn)] at hP1 hD1
  rw [bw_set hk] at hP1 hD1
  exact kk H1 locs1 ls hL hP1 hD1 hS1
theorem bv_lald (k j pc' : Nat) (hpc : pc + 1 = pc') (C : bCx p R s m args meth c cc own nL ret hh dd A) {a n : Nat} {f : Nat → Int64} {i : Int32} (hk : k < N) (ha : ad k = a) (he : w k = aL dd n f) (hi : i = nI j) (hj : j < n) (hn : n < 2 ^ 31) (hdg : decode cc pc = .ok (.laload, 1))
    (kk : bV p l e R s m args below meth c dd A nL mc ms post thr pc' lo (.long (f j) :: rest) ad w N cells slots) : bV p l e R s m args below meth c dd A nL mc ms post thr pc lo (.int i :: .ref a :: rest) ad w N cells slots := by
  subst hpc; subst ha; subst hi
  intro H locs ls hL hP hD hS
  refine va_lald C.1 C.2.1 C.2.2.2.2.2.2.2.2.1.1 hP k 1 (by rw [bw_at hk, he]) rfl (vp_in_nI hj hn) hdg ?_
  rw [nI_clamp (Nat.lt_trans hj hn)]
  exact kk H locs ls hL hP hD hS
theorem bv_last (k j pc' : Nat) (hpc : pc + 1 = pc') (C : bCx p R s m args meth c cc own nL ret hh dd A) {a n : Nat} {f : Nat → Int64} {i : Int32} {x : Int64} (hk : k < N) (ha : ad k = a) (he : w k = aL dd n f) (hi : i = nI j) (hj : j < n) (hn : n < 2 ^ 31) (hdg : decode cc pc = .ok (.lastore, 1))
    (kk : bV p l e R s m args below meth c dd A nL mc ms post thr pc' lo rest ad (va_up w k (aL dd n (vp_updL f j x))) N cells slots) : bV p l e R s m args below meth c dd A nL mc ms post thr pc lo (.long x :: .int i :: .ref a :: rest) ad w N cells slots := by
  subst hpc; subst ha; subst hi
  intro H locs ls hL hP hD hS
  refine va_last C.1 C.2.1 C.2.2.2.2.2.2.2.2.1.1 hP hD hS k 1 (by rw [bw_at hk, he]) rfl (vp_in_nI hj hn) hdg (fun H1 locs1 hP1 hD1 hS1 => ?_)
  rw [nI_clamp (Nat.lt_trans hj hn)] at hP1 hD1
  rw [bw_set hk] at hP1 hD1
  exact kk H1 locs1 ls hL hP1 hD1 hS1
theorem bv_aald (t0 k j pc' : Nat) (hpc : pc + 1 = pc') (C : bCx p R s m args meth c cc own nL ret hh dd A) {a n : Nat} {f : Nat → Option Nat} {i : Int32} {Cn : String} (ht : (bTys dd.2.1)[t0]? = some (dd.2.1 t0, .object Cn)) (hk : k < N) (ha : ad k = a) (he : w k = aR dd t0 n f) (hi : i = nI j) (hj : j < n) (hn : n < 2 ^ 31) (hdg : decode cc pc = .ok (.aaload, 1)) {b : Nat} (hf : f j = some b)
    (kk : bV p l e R s m args below meth c dd A nL mc ms post thr pc' lo (.ref b :: rest) ad w N cells slots) : bV p l e R s m args below meth c dd A nL mc ms post thr pc lo (.int i :: .ref a :: rest) ad w N cells slots := by
  subst hpc; subst ha; subst hi
  intro H locs ls hL hP hD hS
  refine va_aldq C.1 C.2.1 C.2.2.2.2.2.2.2.2.1.1 hP k t0 (by rw [bw_at hk, he]) ht (vp_in_nI hj hn) hdg ?_
  rw [nI_clamp (Nat.lt_trans hj hn), hf]
  exact kk H locs ls hL hP hD hS
theorem bv_aast (t0 k j pc' kv : Nat) (hpc : pc + 1 = pc') (C : bCx p R s m args meth c cc own nL ret hh dd A) {a n ci : Nat} {f : Nat → Option Nat} {i : Int32} {q : vw_C} {vs : List Value} {b : Nat} (ht : (bTys dd.2.1)[t0]? = some (dd.2.1 t0, .object q.1)) (hq : bCl[ci]? = some q) (hk : k < N) (ha : ad k = a) (he : w k = aR dd t0 n f) (hkv : kv < N) (hb : ad kv = b) (hev : w kv = .inr (ci, vs)) (hi : i = nI j) (hj : j < n) (hn : n < 2 ^ 31) (hdg : decode cc pc = .ok (.aastore, 1))
    (kk : bV p l e R s m args below meth c dd A nL mc ms post thr pc' lo rest ad (va_up w k (aR dd t0 n (va_up f j (some b)))) N cells slots) : bV p l e R s m args below meth c dd A nL mc ms post thr pc lo (.ref b :: .int i :: .ref a :: rest) ad w N cells slots := by
  subst hpc; subst ha; subst hi; subst hb
  intro H locs ls hL hP hD hS
  refine va_astq C.1 C.2.1 C.2.2.2.2.2.2.2.2.1.1 hP hD hS k t0 kv ci (by rw [bw_at hk, he]) ht (by rw [bw_at hkv, hev]) hq (vp_in_nI hj hn) hdg (fun H1 locs1 hP1 hD1 hS1 => ?_)
  rw [nI_clamp (Nat.lt_trans hj hn)] at hP1 hD1
  rw [bw_set hk] at hP1 hD1
  exact kk H1 locs1 ls hL hP1 hD1 hS1
theorem bv_alen (k t0 pc' : Nat) (hpc : pc + 1 = pc') (C : bCx p R s m args meth c cc own nL ret hh dd A) {a : Nat} {x : vp_A} {ty : FieldType} {v : Int32} (hk : k < N) (ha : ad k = a) (he : w k = .inl (dd.2.1 t0, x)) (ht : (bTys dd.2.1)[t0]? = some (dd.2.1 t0, ty)) (hv : nI x.1 = v) (hdg : decode cc pc = .ok (.arraylength, 1))
    (kk : bV p l e R s m args below meth c dd A nL mc ms post thr pc' lo (.int v :: rest) ad w N cells slots) : bV p l e R s m args below meth c dd A nL mc ms post thr pc lo (.ref a :: rest) ad w N cells slots := by
  subst hpc; subst ha
  intro H locs ls hL hP hD hS
  exact va_alen C.1 C.2.1 C.2.2.2.2.2.2.2.2.1.1 hP k t0 (by rw [bw_at hk, he]) ht hv hdg (kk H locs ls hL hP hD hS)
theorem bv_gets (i0 pc' : Nat) (hpc : pc + 3 = pc') (C : bCx p R s m args meth c cc own nL ret hh dd A) {Cn fn : String} {n index : Nat} (hq : (Cn, fn, i0, n) ∈ bSta) (hlink : Cond.fieldLink own index Cn fn "[I" ∈ Tb) (hdg : decode cc pc = .ok (.getstatic index, 3))
    (kk : bV p l e R s m args below meth c dd A nL mc ms post thr pc' lo (.ref (dd.2.2.1 i0) :: rest) ad w N cells slots) : bV p l e R s m args below meth c dd A nL mc ms post thr pc lo rest ad w N cells slots := by
  subst hpc
  intro H locs ls hL hP hD hS
  exact va_gets C.1 C.2.1 (C.2.2.2.2.2.2.2.2.1.2.2.1 _ hq).1 hS C.2.2.2.1 (C.2.2.2.2.1 _ hlink) (fun _ h => h) hdg (kk H locs ls hL hP hD hS)
theorem bv_ti (i0 j pc' : Nat) (hpc : pc + 1 = pc') (C : bCx p R s m args meth c cc own nL ret hh dd A) {Cn fn : String} {n : Nat} {i : Int32} (hq : (Cn, fn, i0, n) ∈ bSta) (hi : i = nI j) (hj : j < n) (hn : n < 2 ^ 31) (hdg : decode cc pc = .ok (.iaload, 1))
    (kk : bV p l e R s m args below meth c dd A nL mc ms post thr pc' lo (.int (dd.2.2.2 i0 j) :: rest) ad w N cells slots) : bV p l e R s m args below meth c dd A nL mc ms post thr pc lo (.int i :: .ref (dd.2.2.1 i0) :: rest) ad w N cells slots := by
  subst hpc; subst hi
  intro H locs ls hL hP hD hS
  exact va_ti C.1 C.2.1 (C.2.2.2.2.2.2.2.2.1.2.2.1 _ hq).2 hS (vp_in_nI hj hn) (by rw [nI_clamp (Nat.lt_trans hj hn)]) hdg (kk H locs ls hL hP hD hS)
theorem bv_new (pc' : Nat) (hpc : pc + 3 = pc') (C : bCx p R s m args meth c cc own nL ret hh dd A) {ci N' index : Nat} {Cn : String} {T' : u_T} {ty : Nat → FieldType} {fs : List Value} (hc : bCls ci Cn T' N' ty) (hcl : Cond.classLink own index Cn ∈ Tb) (hin : Cond.instantiable Cn N' ∈ Tb) (hini : Cond.initialized Cn ∈ Tb) (hfs : ∀ j, j < N' → defaultValue (ty j) = vp_V fs j) (hce : cells + 1 ≤ R.cells) (hsl : slots + N' ≤ R.slots) (hdg : decode cc pc = .ok (.new index, 3))
    (kk : ∀ ad' : Nat → Nat, (∀ i, i < N → ad' i = ad i) → bV p l e R s m args below meth c dd A nL mc ms post thr pc' lo (.ref (ad' N) :: rest) ad' (va_up w N (.inr (ci, fs))) (N + 1) (cells + 1) (slots + N')) : bV p l e R s m args below meth c dd A nL mc ms post thr pc lo rest ad w N cells slots := by
  subst hpc
  intro H locs ls hL hP hD hS
  refine va_new C.1 C.2.1 C.2.2.2.2.1 hc.2.1 ty hc.2.2.1 C.2.2.2.1 (C.2.2.2.2.1 _ hcl) (C.2.2.2.2.1 _ hin) (C.2.2.2.2.1 _ hini) C.2.2.2.2.2.2.2.2.1.1 hP hD hS C.2.2.2.2.2.2.2.1 hc.1 hfs hce hsl hdg (fun q H1 hP1 hD1 hS1 => ?_)
  rw [bw_push] at hP1 hD1
  have h := kk (va_up ad N q) (fun i hi => va_up_ne _ _ (Nat.ne_of_lt hi)) H1 locs ls hL hP1 hD1 hS1
  rw [va_up_self] at h
  exact h
theorem bv_newa (t0 n pc' : Nat) (hpc : pc + 2 = pc') (C : bCx p R s m args meth c cc own nL ret hh dd A) {atype : ArrayType} {ty : FieldType} {a0 : vp_A} {x : Int32} (hty : newarray.typeOf atype = ty) (ht : (bTys dd.2.1)[t0]? = some (dd.2.1 t0, ty)) (hobj : ∀ Cn, ty ≠ .object Cn) (harr : Cond.arrayClass ty ∈ Tb) (ha : ∀ cA : ClassId, vp_cell cA a0 = arrV cA n (fun _ => defaultValue ty)) (hx : x = nI n) (hn : n < 2 ^ 31) (hb : n * componentBytes ty ≤ 536870912) (hce : cells + 1 ≤ R.cells) (hsl : slots + n ≤ R.slots) (hdg : decode cc pc = .ok (.newarray atype, 2))
    (kk : ∀ ad' : Nat → Nat, (∀ i, i < N → ad' i = ad i) → bV p l e R s m args below meth c dd A nL mc ms post thr pc' lo (.ref (ad' N) :: rest) ad' (va_up w N (.inl (dd.2.1 t0, a0))) (N + 1) (cells + 1) (slots + n)) : bV p l e R s m args below meth c dd A nL mc ms post thr pc lo (.int x :: rest) ad w N cells slots := by
  subst hpc; subst hx
  intro H locs ls hL hP hD hS
  refine va_newa C.1 C.2.1 (by rw [hty]; exact C.2.2.2.2.1 _ harr) hty C.2.2.2.2.2.2.2.2.1.1 hP hD hS C.2.2.2.2.2.2.2.1 ha (nI_pos hn) (nI_clamp hn) hb hce hsl hdg (fun q cA H1 hK1 hP1 hD1 hS1 => ?_)
  have e1 : cA = dd.2.1 t0 := by
    have h1 := (hK1.2 (bTys dd.2.1).length (cA, ty) (by simp)).2
    have h2 := (C.2.2.2.2.2.2.2.2.1.1.2 t0 _ ht).2
    cases ty <;> first | (exfalso; exact hobj _ rfl) | (unfold va_RA at h1 h2; exact Option.some.inj (h1.symm.trans h2))
  rw [bw_push, e1] at hP1 hD1
  have h := kk (va_up ad N q) (fun i hi => va_up_ne _ _ (Nat.ne_of_lt hi)) H1 locs ls hL hP1 hD1 hS1
  rw [va_up_self] at h
  exact h
theorem bv_newq (t0 n pc' : Nat) (hpc : pc + 3 = pc') (C : bCx p R s m args meth c cc own nL ret hh dd A) {index : Nat} {Cn : String} {x : Int32} (ht : (bTys dd.2.1)[t0]? = some (dd.2.1 t0, .object Cn)) (hcl : Cond.classLink own index Cn ∈ Tb) (hov : Cn ∈ bAov) (hx : x = nI n) (hn : n < 2 ^ 31) (hb : n * 4 ≤ 536870912) (hce : cells + 1 ≤ R.cells) (hsl : slots + n ≤ R.slots) (hdg : decode cc pc = .ok (.anewarray index, 3))
    (kk : ∀ ad' : Nat → Nat, (∀ i, i < N → ad' i = ad i) → bV p l e R s m args below meth c dd A nL mc ms post thr pc' lo (.ref (ad' N) :: rest) ad' (va_up w N (aR dd t0 n (fun _ => none))) (N + 1) (cells + 1) (slots + n)) : bV p l e R s m args below meth c dd A nL mc ms post thr pc lo (.int x :: rest) ad w N cells slots := by
  subst hpc; subst hx
  intro H locs ls hL hP hD hS
  refine va_newq C.1 C.2.1 C.2.2.2.1 (C.2.2.2.2.1 _ hcl) (C.2.2.2.2.2.2.2.2.1.2.2.2.2.2.2 _ hov) C.2.2.2.2.2.2.2.2.1.1 hP hD hS C.2.2.2.2.2.2.2.1 (nI_pos hn) (nI_clamp hn) hb hce hsl hdg (fun q cA H1 hK1 hP1 hD1 hS1 => ?_)
  have e1 : cA = dd.2.1 t0 := by
    obtain ⟨_, _, _, _, _, h1⟩ := (hK1.2 (bTys dd.2.1).length (cA, .object Cn) (by simp)).2
    obtain ⟨_, _, _, _, _, h2⟩ := (C.2.2.2.2.2.2.2.2.1.1.2 t0 _ ht).2
    exact Option.some.inj (h1.symm.trans h2)
  rw [bw_push, e1] at hP1 hD1
  have h := kk (va_up ad N q) (fun i hi => va_up_ne _ _ (Nat.ne_of_lt hi)) H1 locs ls hL hP1 hD1 hS1
  rw [va_up_self] at h
  exact h
end bR2
end
section
section bR3
variable {p : Program} {l : Launch} {e : Env} {R : Room} {s : State} {m : MethodId} {args : Array Value} {below : List Frame} {meth : Method} {c : Code} {dd : bD} {A : Nat → Prop} {nL mc ms : Nat} {post : Option Value → (Nat → Nat) → (Nat → va_E) → Nat → Prop} {thr : String → (Nat → Nat) → (Nat → va_E) → Nat → Prop} {pc : Nat} {lo : Nat → Option Value} {rest : List Value} {ad : Nat → Nat} {w : Nat → va_E} {N cells slots : Nat} {cc : ByteArray} {own : String} {ret : Option FieldType} {hh : List (Nat × Nat × Nat × Nat)}
theorem bs_S (C : bCx p R s m args meth c cc own nL ret hh dd A) {index maxL : Nat} {y : MethodName} {av st rest : List Value} (his : bIs y maxL) (hlink : Cond.methodLink own index y ∈ Tb) (hstat : Cond.static y ∈ Tb) (hini : Cond.initialized y.cls ∈ Tb) (hy : y.cls ≠ "java/lang/invoke/MethodHandle" ∧ y.cls ≠ "java/lang/invoke/VarHandle") (hn : (parseMethodDescriptor y.desc).map (fun d => d.parameters.length) = some av.length) (hst : st = av.reverse ++ rest) (hdg : decode cc pc = .ok (.invokestatic index, 3))
    (H : Heap) (locs : List Loc) (ls : Array Slot) : bSite p l e R s m args below meth c H locs cells slots (F0 m pc ls st) rest y av.toArray := by
  intro T hT X
  obtain ⟨mk, methM, cM, hnamed, hmethM, -, -, hsig⟩ := his.spec C.2.2.2.2.1
  have hstatic : methM.isStatic = true := Cond.static_spec hnamed hmethM (C.2.2.2.2.1 _ hstat)
  obtain ⟨kP, hkP, -⟩ := className_of_methodNamed hnamed
  have hinitP : kP.init = .initialized := Cond.initialized_spec (findClass_of_methodNamed hnamed) hkP (C.2.2.2.2.1 _ hini)
  rw [hsig] at hn
  obtain ⟨vm₁, X₁, hstep₁⟩ := X.invokestatic C.1 C.2.2.2.1 (C.2.2.2.2.1 _ hlink) hnamed hmethM hstatic hkP hinitP hy (g := F0 m pc ls st) rfl (argsL := av) (rest := rest) (Option.some.inj hn).symm hst (by rw [C.2.1]; exact hdg)
  exact ⟨mk, vm₁, X₁, hnamed, hstep₁⟩
theorem bs_SN (C : bCx p R s m args meth c cc own nL ret hh dd A) {index maxL : Nat} {y : MethodName} {host : String} {av st rest : List Value} (his : bIs y maxL) (hlink : Cond.methodLinkNest own index y host ∈ bNst) (hstat : Cond.static y ∈ Tb) (hini : Cond.initialized y.cls ∈ Tb) (hy : y.cls ≠ "java/lang/invoke/MethodHandle" ∧ y.cls ≠ "java/lang/invoke/VarHandle") (hn : (parseMethodDescriptor y.desc).map (fun d => d.parameters.length) = some av.length) (hst : st = av.reverse ++ rest) (hdg : decode cc pc = .ok (.invokestatic index, 3))
    (H : Heap) (locs : List Loc) (ls : Array Slot) : bSite p l e R s m args below meth c H locs cells slots (F0 m pc ls st) rest y av.toArray := by
  intro T hT X
  obtain ⟨mk, methM, cM, hnamed, hmethM, -, -, hsig⟩ := his.spec C.2.2.2.2.1
  have hstatic : methM.isStatic = true := Cond.static_spec hnamed hmethM (C.2.2.2.2.1 _ hstat)
  obtain ⟨kP, hkP, -⟩ := className_of_methodNamed hnamed
  have hinitP : kP.init = .initialized := Cond.initialized_spec (findClass_of_methodNamed hnamed) hkP (C.2.2.2.2.1 _ hini)
  rw [hsig] at hn
  obtain ⟨vm₁, X₁, hstep₁⟩ := X.invokestaticNest C.1 C.2.2.2.1 (va_Nw.use rfl (C.2.2.2.2.2.2.2.2.1.2.1 _ hlink)) hnamed hmethM hstatic hkP hinitP hy (g := F0 m pc ls st) rfl (argsL := av) (rest := rest) (Option.some.inj hn).symm hst (by rw [C.2.1]; exact hdg)
  exact ⟨mk, vm₁, X₁, hnamed, hstep₁⟩
theorem bs_V (k : Nat) (C : bCx p R s m args meth c cc own nL ret hh dd A) {index maxL a ci : Nat} {y : MethodName} {fs : List Value} {q : vw_C} {av st rest : List Value} (his : bIs y maxL) (hlink : Cond.methodLink own index y ∈ Tb) (hinst : Cond.instanceMethod y ∈ Tb) (hsel : Cond.selects q.1 y y ∈ Tb) (hk : k < N) (ha : ad k = a) (he : w k = .inr (ci, fs)) (hc : bCl[ci]? = some q) (hy : y.cls ≠ "java/lang/invoke/MethodHandle" ∧ y.cls ≠ "java/lang/invoke/VarHandle") (hn : (parseMethodDescriptor y.desc).map (fun d => d.parameters.length) = some av.length) (hst : st = av.reverse ++ .ref a :: rest) (hdg : decode cc pc = .ok (.invokevirtual index, 3))
    (H : Heap) (locs : List Loc) (ls : Array Slot) (hP : va_P dd.1 bCl (bw ad w N) H) : bSite p l e R s m args below meth c H locs cells slots (F0 m pc ls st) rest y (.ref a :: av).toArray := by
  intro T hT X
  subst ha
  obtain ⟨cellB, hcell, hobj, hcls⟩ := va_recv C.2.2.2.2.2.2.2.2.1.1 hP hc (show (bw ad w N)[k]? = some (ad k, .inr (ci, fs)) by rw [bw_at hk, he])
  obtain ⟨mk, methM, hnamed, hmethM, hstM, habM⟩ := Cond.instanceMethod_spec (C.2.2.2.2.1 _ hinst)
  obtain ⟨mk', methM', cM, hnamed', hmethM', -, -, hsig⟩ := his.spec C.2.2.2.2.1
  cases hnamed.symm.trans hnamed'
  cases hmethM.symm.trans hmethM'
  obtain ⟨c2, r2, m2, q1, q2, q3, q4, kP, hkP, hkPi⟩ := Cond.selects_spec (C.2.2.2.2.1 _ hsel)
  cases hcls.symm.trans q1
  cases (State.methodFound?_of_named hnamed hy).symm.trans q2
  cases hnamed.symm.trans q3
  have hselP : selectMethod e.platform s.vm cellB.cls mk = .method mk := by rw [Launch.admits_selectMethod X.admits]; exact q4
  rw [hsig] at hn
  obtain ⟨vm₁, X₁, hstep₁⟩ := X.invokevirtual C.1 C.2.2.2.1 (C.2.2.2.2.1 _ hlink) hnamed hmethM hstM hkP hkPi hy (a := ad k) (cell := cellB) (by rw [hT]; exact hcell)
    (fun z h => by rw [h] at hobj; cases hobj) hselP hmethM habM hkP hkPi (g := F0 m pc ls st) rfl (argsL := av) (rest := rest) (Option.some.inj hn).symm hst (by rw [C.2.1]; exact hdg)
  exact ⟨mk, vm₁, X₁, hnamed, hstep₁⟩
theorem bs_VN (k : Nat) (C : bCx p R s m args meth c cc own nL ret hh dd A) {index maxL a ci : Nat} {y : MethodName} {host : String} {fs : List Value} {q : vw_C} {av st rest : List Value} (his : bIs y maxL) (hlink : Cond.methodLinkNest own index y host ∈ bNst) (hinst : Cond.instanceMethod y ∈ Tb) (hsel : Cond.selects q.1 y y ∈ Tb) (hk : k < N) (ha : ad k = a) (he : w k = .inr (ci, fs)) (hc : bCl[ci]? = some q) (hy : y.cls ≠ "java/lang/invoke/MethodHandle" ∧ y.cls ≠ "java/lang/invoke/VarHandle") (hn : (parseMethodDescriptor y.desc).map (fun d => d.parameters.length) = some av.length) (hst : st = av.reverse ++ .ref a :: rest) (hdg : decode cc pc = .ok (.invokevirtual index, 3))
    (H : Heap) (locs : List Loc) (ls : Array Slot) (hP : va_P dd.1 bCl (bw ad w N) H) : bSite p l e R s m args below meth c H locs cells slots (F0 m pc ls st) rest y (.ref a :: av).toArray := by
  intro T hT X
  subst ha
  obtain ⟨cellB, hcell, hobj, hcls⟩ := va_recv C.2.2.2.2.2.2.2.2.1.1 hP hc (show (bw ad w N)[k]? = some (ad k, .inr (ci, fs)) by rw [bw_at hk, he])
  obtain ⟨mk, methM, hnamed, hmethM, hstM, habM⟩ := Cond.instanceMethod_spec (C.2.2.2.2.1 _ hinst)
  obtain ⟨mk', methM', cM, hnamed', hmethM', -, -, hsig⟩ := his.spec C.2.2.2.2.1
  cases hnamed.symm.trans hnamed'
  cases hmethM.symm.trans hmethM'
  obtain ⟨c2, r2, m2, q1, q2, q3, q4, kP, hkP, hkPi⟩ := Cond.selects_spec (C.2.2.2.2.1 _ hsel)
  cases hcls.symm.trans q1
  cases (State.methodFound?_of_named hnamed hy).symm.trans q2
  cases hnamed.symm.trans q3
  have hselP : selectMethod e.platform s.vm cellB.cls mk = .method mk := by rw [Launch.admits_selectMethod X.admits]; exact q4
  rw [hsig] at hn
  obtain ⟨vm₁, X₁, hstep₁⟩ := X.invokevirtualNest C.1 C.2.2.2.1 (va_Nw.use rfl (C.2.2.2.2.2.2.2.2.1.2.1 _ hlink)) hnamed hmethM hstM hkP hkPi hy (a := ad k) (cell := cellB) (by rw [hT]; exact hcell)
    (fun z h => by rw [h] at hobj; cases hobj) hselP hmethM habM hkP hkPi (g := F0 m pc ls st) rfl (argsL := av) (rest := rest) (Option.some.inj hn).symm hst (by rw [C.2.1]; exact hdg)
  exact ⟨mk, vm₁, X₁, hnamed, hstep₁⟩
theorem bs_I (C : bCx p R s m args meth c cc own nL ret hh dd A) {index maxL a : Nat} {bytes : ByteArray} {y : MethodName} {av st rest : List Value} (hcd : Cond.code y bytes maxL none ∈ Tb) (hlink : Cond.methodLink own index y ∈ Tb) (hinst : Cond.instanceMethod y ∈ Tb) (hy1 : y.name = "<init>") (hy : y.cls ≠ "java/lang/invoke/MethodHandle" ∧ y.cls ≠ "java/lang/invoke/VarHandle") (hn : (parseMethodDescriptor y.desc).map (fun d => d.parameters.length) = some av.length) (hst : st = av.reverse ++ .ref a :: rest) (hdg : decode cc pc = .ok (.invokespecial index, 3))
    (H : Heap) (locs : List Loc) (ls : Array Slot) : bSite p l e R s m args below meth c H locs cells slots (F0 m pc ls st) rest y (.ref a :: av).toArray := by
  intro T hT X
  have hpl : e.platform.magicAccessors = ({} : Platform).magicAccessors := by rw [X.admits.platform]
  obtain ⟨mk, methM, cM, kP, vm₁, hnamed, -, -, -, -, -, -, -, hW₁, hstep₁⟩ := Steps.initColdArgs (e := e) X.here C.1 X.warmed hpl C.2.2.2.1 hy1 hy (C.2.2.2.2.1 _ hlink) (C.2.2.2.2.1 _ hinst) (C.2.2.2.2.1 _ hcd) (f := F0 m pc ls st) rfl (argsL := av) (rest := rest) (fun sig h => by rw [h] at hn; exact (Option.some.inj hn).symm) hst (by rw [C.2.1]; exact hdg)
  exact ⟨mk, vm₁, X.noted hW₁, hnamed, hstep₁⟩
theorem bs_IN (C : bCx p R s m args meth c cc own nL ret hh dd A) {index maxL a : Nat} {bytes : ByteArray} {y : MethodName} {host : String} {av st rest : List Value} (hcd : Cond.code y bytes maxL none ∈ Tb) (hlink : Cond.methodLinkNest own index y host ∈ bNst) (hinst : Cond.instanceMethod y ∈ Tb) (hy1 : y.name = "<init>") (hy : y.cls ≠ "java/lang/invoke/MethodHandle" ∧ y.cls ≠ "java/lang/invoke/VarHandle") (hn : (parseMethodDescriptor y.desc).map (fun d => d.parameters.length) = some av.length) (hst : st = av.reverse ++ .ref a :: rest) (hdg : decode cc pc = .ok (.invokespecial index, 3))
    (H : Heap) (locs : List Loc) (ls : Array Slot) : bSite p l e R s m args below meth c H locs cells slots (F0 m pc ls st) rest y (.ref a :: av).toArray := by
  intro T hT X
  have hpl : e.platform.magicAccessors = ({} : Platform).magicAccessors := by rw [X.admits.platform]
  obtain ⟨mk, methM, cM, kP, vm₁, hnamed, -, -, -, -, -, -, -, hW₁, hstep₁⟩ := Steps.initColdArgsNest (e := e) X.here C.1 X.warmed hpl C.2.2.2.1 hy1 hy (va_Nw.use rfl (C.2.2.2.2.2.2.2.2.1.2.1 _ hlink)) (C.2.2.2.2.1 _ hinst) (C.2.2.2.2.1 _ hcd) (f := F0 m pc ls st) rfl (argsL := av) (rest := rest) (fun sig h => by rw [h] at hn; exact (Option.some.inj hn).symm) hst (by rw [C.2.1]; exact hdg)
  exact ⟨mk, vm₁, X.noted hW₁, hnamed, hstep₁⟩
/-- a call by contract -/
theorem bv_call {y : MethodName} {maxL fr lc mc' ms' : Nat} {av st rest : List Value} {ig : Instr} {post' : Option Value → (Nat → Nat) → (Nat → va_E) → Nat → Prop} {thr' : String → (Nat → Nat) → (Nat → va_E) → Nat → Prop} (pc' : Nat) (hpc : pc + 3 = pc') (C : bCx p R s m args meth c cc own nL ret hh dd A) (hdg : decode cc pc = .ok (ig, 3)) (hK : bK l dd y fr lc mc' ms' av ad w N post' thr') (his : bIs y maxL) (hini : Cond.initialized y.cls ∈ Tb)
    (site : ∀ (H : Heap) (locs : List Loc) (ls : Array Slot), va_P dd.1 bCl (bw ad w N) H → bSite p l e R s m args below meth c H locs cells slots (F0 m pc ls st) rest y av.toArray)
    (hR : fr + 1 ≤ R.frames ∧ 8 + (maxL + 11) + lc ≤ R.locals) (hce : cells + mc' ≤ R.cells) (hsl : slots + ms' ≤ R.slots) (hcat : (rest.map fun v => v.category).sum ≤ 8)
    (kr : ∀ (v : Option Value) (ad' : Nat → Nat) (w' : Nat → va_E) (N' : Nat), post' v ad' w' N' → bV p l e R s m args below meth c dd A nL mc ms post thr pc' lo (v.toList ++ rest) ad' w' N' (cells + mc') (slots + ms'))
    (kt : ∀ (x : Nat) (Cn : String) (ad' : Nat → Nat) (w' : Nat → va_E) (N' : Nat), thr' Cn ad' w' N' → bT p l e R s m args below meth c dd A nL mc ms post thr pc lo rest x Cn ad' w' N' (cells + mc') (slots + ms')) : bV p l e R s m args below meth c dd A nL mc ms post thr pc lo st ad w N cells slots := by
  subst hpc
  intro H locs ls hL hP hD hS T hT X
  obtain ⟨mk, vm₁, X₁, hnamed, hstep⟩ := site H locs ls hP T hT X
  obtain ⟨mk', methY, cY, hn', hmY, hcY, hlY, -⟩ := his.spec C.2.2.2.2.1
  cases hnamed.symm.trans hn'
  obtain ⟨kY, hkY, -⟩ := className_of_methodNamed hnamed
  have hiY : kY.init = .initialized := Cond.initialized_spec (findClass_of_methodNamed hnamed) hkY (C.2.2.2.2.1 _ hini)
  have hW₁ := X₁.warmed
  have hal := hW₁.alike
  obtain ⟨kY', hkY', hkeq, -⟩ := hW₁.2.2 _ _ hkY
  have hiY' : kY'.init = .initialized := by rw [hkeq]; exact hiY
  have hfree : ∀ q, va_A (bw ad w N) H.size q → A q := by
    rintro q (⟨k, x, hk⟩ | hq)
    · exact hD.2 k _ hk
    · exact C.2.2.2.2.2.2.2.1 q (Nat.le_trans hS.1 hq)
  obtain ⟨o, t, T', L, X', hL', e1, e2, ⟨hF, ad', w', N', hP', hD', hend⟩, hret, hthr⟩ := bCore X₁ (hK H.size) (g := { F0 m pc ls st with stack := rest }) rfl (hL.1.trans C.2.2.1.symm) (ig := ig) (len := 3) (by rw [C.2.1]; exact hdg) (lv_room (m := m) (pc := pc) (ls := ls) (rest := rest) hcat) (mk := mk) (X₁.named hnamed)
    (by rw [hal.method?]; exact hmY) hcY hlY hkY' hiY' hR.1 hR.2 hce hsl (a := av.toArray) (atoms_intro fun w0 hw0 => bGood.at (bTb_good w0 hw0) hW₁ (C.2.2.2.2.1 _ hw0))
    ⟨rfl, by rw [← hT]; rfl, by rw [← hT] at hP; exact hP, hD.weaken (fun _ _ _ _ => trivial), C.2.2.2.2.2.2.2.2.1.to (U := ((T.setVm vm₁).calling _ mk av.toArray)) hW₁ (fun a ha hna => by rw [← hT] at hS; exact hS.2.1 a ha hna) (by rw [hT] at *; exact hfree)⟩
  have hheap : ((T.setVm vm₁).calling { F0 m pc ls st with stack := rest } mk av.toArray).heap = H := hT
  have hF1 : H.size ≤ t.heap.size := by have := hF.1; rw [hheap] at this; exact this
  have hF2 : ∀ q : Nat, q < H.size → ¬ va_A (bw ad w N) H.size q → t.heap[q]? = H[q]? := by have := hF.2; rw [hheap] at this; exact this
  have hS' : va_S A s.heap t.heap (locs ++ L) := by
    refine ⟨Nat.le_trans hS.1 hF1, fun q h1 h2 => ?_, fun q hq => ?_⟩
    · rw [hF2 q (Nat.lt_of_lt_of_le h1 hS.1) (fun h3 => h2 (hfree q h3))]
      exact hS.2.1 q h1 h2
    · rcases List.mem_append.mp hq with h1 | h1
      · exact hS.2.2 q h1
      · exact hfree _ (hL' q h1)
  have hD'' : va_D A (bw ad' w' N') := hD'.weaken (fun _ _ _ h => hfree _ h)
  rcases hend with ⟨v, rfl, hpost⟩ | ⟨x, Cn, cell, rfl, hx, hvm, hfc, hxs, hth⟩
  · obtain ⟨t2, st2, hQ⟩ := kr v ad' w' N' hpost t.heap (locs ++ L) ls hL hP' hD'' hS' T' e1 X'
    exact ⟨t2, hstep _ (fun acts => by rw [doInvoke_state]; exact (hret v rfl).trans st2), hQ⟩
  · have hfc' : s.vm.findClass Cn = some cell.cls := by
      rw [← e2] at hfc
      rw [X'.warmed.alike.findClass] at hfc
      exact hfc
    have hxs' : s.heap.size ≤ x := by
      rw [hheap] at hxs
      exact Nat.le_trans hS.1 hxs
    obtain ⟨t2, st2, hQ⟩ := kt x Cn ad' w' N' hth t.heap (locs ++ L) ls cell hL hP' hD'' hS' hx hvm hfc' hxs' T' e1 X'
    exact ⟨t2, hstep _ (fun acts => by rw [doInvoke_state]; exact (hthr x rfl).trans st2), hQ⟩
/-- the exception leaves the method -/
theorem bt_out {x : Nat} {Cn : String} (C : bCx p R s m args meth c cc own nL ret hh dd A) (hout : (tableOf hh).all (fun y => !covers y pc) = true) (hc : cells ≤ mc) (hs : slots ≤ ms) (h : thr Cn ad w N) : bT p l e R s m args below meth c dd A nL mc ms post thr pc lo rest x Cn ad w N cells slots := by
  intro H locs ls cell hL hP hD hS hx hvm hfc hxs T hT X
  have X2 := stand_widen X hc hs
  obtain ⟨h1, h2, h3, h4, h5⟩ := X2.leaveThrown x (g := F0 m pc ls rest) rfl rfl rfl (outside_of_table C.2.2.2.2.2.2.2.2.2 hout) C.2.2.2.2.2.2.1
  have hh2 : (T.setFrames (.throwing x :: below)).heap = H := hT
  refine ⟨_, h1, .threw x, h2, h3, ⟨hS.F hh2, ad, w, N, by rw [hh2]; exact hP, hD, Or.inr ⟨x, Cn, cell, rfl, by rw [hh2]; exact hx, hvm, ?_, hxs, h⟩⟩, locs, ⟨h4, h5⟩, hS.2.2⟩
  show T.vm.findClass Cn = some cell.cls
  rw [X.warmed.alike.findClass]
  exact hfc
theorem bK.start {y : MethodName} {fr lc mc ms maxL : Nat} {av : List Value} {ad : Nat → Nat} {w : Nat → va_E} {N : Nat} {post : Option Value → (Nat → Nat) → (Nat → va_E) → Nat → Prop} {thr : String → (Nat → Nat) → (Nat → va_E) → Nat → Prop} {cc : ByteArray} {ret : Option FieldType} (lo0 : List (Nat × Value)) (hy : plainName y.cls = true) (hw : Cond.code y cc maxL ret ∈ Tb) (hlen : (lg_sl av).length ≤ maxL) (hlo : lv_args 0 av = lo0)
    (body : ∀ (p : Program) (e : Env) (s : State) (m : MethodId) (args : Array Value) (below : List Frame) (meth : Method) (c : Code) (A : Nat → Prop), meth.name = y.name → bCx p { frames := fr, cells := mc, slots := ms, locals := lc } s m args meth c cc y.cls maxL ret [] dd A →
      bV p l e { frames := fr, cells := mc, slots := ms, locals := lc } s m args below meth c dd A maxL mc ms post thr 0 (bO lo0) [] ad w N 0 0) : bK l dd y fr lc mc ms av ad w N post thr := by
  intro sz
  refine bMet.ofW hy hw (fun p e s m args below meth c s₁ B hml htab hPc => ?_)
  obtain ⟨rfl, hsz, hP, hD0, hG⟩ := hPc
  subst hsz
  rw [lg_entry_eq]
  have hE := bH.entry av hlen
  rw [hlo] at hE
  exact body p e s m _ below meth c (va_A (bw ad w N) s.heap.size) (name_of_methodNamed B.named B.method).1 ⟨B.exec, B.bytes, hml, findClass_of_methodNamed B.named, atoms_spec (ws := Tb) B.pre, B.returns, B.notSynchronized, fun q h => Or.inr h, hG, htab⟩ s.heap [] _ hE hP hD0.self va_S.rf
theorem bK.startH {y : MethodName} {fr lc mc ms maxL : Nat} {av : List Value} {ad : Nat → Nat} {w : Nat → va_E} {N : Nat} {post : Option Value → (Nat → Nat) → (Nat → va_E) → Nat → Prop} {thr : String → (Nat → Nat) → (Nat → va_E) → Nat → Prop} {cc : ByteArray} {ret : Option FieldType} {hh : List (Nat × Nat × Nat × Nat)} (lo0 : List (Nat × Value)) (hy : plainName y.cls = true) (hw : Cond.codeWith y cc maxL ret hh ∈ Tb) (hlen : (lg_sl av).length ≤ maxL) (hlo : lv_args 0 av = lo0)
    (body : ∀ (p : Program) (e : Env) (s : State) (m : MethodId) (args : Array Value) (below : List Frame) (meth : Method) (c : Code) (A : Nat → Prop), meth.name = y.name → bCx p { frames := fr, cells := mc, slots := ms, locals := lc } s m args meth c cc y.cls maxL ret hh dd A →
      bV p l e { frames := fr, cells := mc, slots := ms, locals := lc } s m args below meth c dd A maxL mc ms post thr 0 (bO lo0) [] ad w N 0 0) : bK l dd y fr lc mc ms av ad w N post thr := by
  intro sz
  refine bMet.ofWH hy hw (fun p e s m args below meth c s₁ B hml htab hPc => ?_)
  obtain ⟨rfl, hsz, hP, hD0, hG⟩ := hPc
  subst hsz
  rw [lg_entry_eq]
  have hE := bH.entry av hlen
  rw [hlo] at hE
  exact body p e s m _ below meth c (va_A (bw ad w N) s.heap.size) (name_of_methodNamed B.named B.method).1 ⟨B.exec, B.bytes, hml, findClass_of_methodNamed B.named, atoms_spec (ws := Tb) B.pre, B.returns, B.notSynchronized, fun q h => Or.inr h, hG, htab⟩ s.heap [] _ hE hP hD0.self va_S.rf
end bR3
end
section
def bOff (l : Launch) : Prop := ∀ e, l.admits e → e.platform.stackTraces = false
theorem bSame0 {s t : State} {k n : Nat} (h : s.sameButNew t [] k n) {q : Nat} (hq : q < s.heap.size) : t.heap[q]? = s.heap[q]? := by
  obtain ⟨c', h1, h2, h3, h4⟩ := h.2.2.2.2.2 q s.heap[q] (Array.getElem?_eq_getElem hq)
  have e1 : c'.slots = s.heap[q].slots := Array.ext_getElem? (fun i => h4 i (by simp))
  rw [h1, Array.getElem?_eq_getElem hq]
  rw [h2, e1]
section bR4
variable {p : Program} {l : Launch} {e : Env} {R : Room} {s : State} {m : MethodId} {args : Array Value} {below : List Frame} {meth : Method} {c : Code} {dd : bD} {A : Nat → Prop} {nL mc ms : Nat} {post : Option Value → (Nat → Nat) → (Nat → va_E) → Nat → Prop} {thr : String → (Nat → Nat) → (Nat → va_E) → Nat → Prop} {pc : Nat} {lo : Nat → Option Value} {rest : List Value} {ad : Nat → Nat} {w : Nat → va_E} {N cells slots : Nat} {cc : ByteArray} {own : String} {ret : Option FieldType} {hh : List (Nat × Nat × Nat × Nat)}
/-- new X("text") is made and thrown; no row of the table covers the athrow -/
theorem bv_throw {i1 i2 i3 : Nat} {cls tx : String} {names : List String} (hlt : bOff l) (C : bCx p R s m args meth c cc own nL ret hh dd A) (hd0 : decode cc pc = .ok (.new i1, 3)) (hd1 : decode cc (pc + 3) = .ok (.dup, 1)) (hd2 : decode cc (pc + 4) = .ok (.ldc i2, 2)) (hd3 : decode cc (pc + 6) = .ok (.invokespecial i3, 3)) (hd4 : decode cc (pc + 9) = .ok (.athrow, 1))
    (hcl : Cond.classLink own i1 cls ∈ Tb) (hins : Cond.instantiable cls 6 ∈ Tb) (hini : Cond.initialized cls ∈ Tb) (hstr : (own, i2, tx) ∈ bStr) (hfit : Bundle.fit cls = true) (hnames : ∀ n ∈ names, Bundle.fit n = true)
    (hat : ∀ a ∈ Bundle.ownAtoms own i3 cls names, a ∈ Tb ∨ a ∈ bNst ∨ ∃ q ∈ bZq, a = .isRef (.static q.1 q.2.1 q.2.2) ∨ a = .laysStatic q.1 q.2.1 q.2.2) (hout : (tableOf hh).all (fun y => !covers y (pc + 9)) = true)
    (hRf : names.length + 3 < R.frames) (hRl : (rest.map fun v => v.category).sum + (13 * (names.length + 1) + 43) ≤ R.locals) (hc : cells + 1 ≤ mc) (hs : slots + 6 ≤ ms) (hcR : cells + 1 ≤ R.cells) (hsR : slots + 6 ≤ R.slots) (h : thr cls ad w N) : bV p l e R s m args below meth c dd A nL mc ms post thr pc lo rest ad w N cells slots := by
  intro H locs ls hL hP hD hS T hT X
  have X' := bRebase X (R' := { frames := R.frames, cells := 1, slots := 6, locals := R.locals }) (Nat.le_refl _) (Nat.le_refl _) hcR hsR
  have hW0 : s.WarmedH (T.setFrames (.invoking m args :: below)).vm := X.warmed
  have hts : ∀ w0 ∈ Tb, w0.before args (T.setFrames (.invoking m args :: below)) = true := fun w0 hw0 => bGood.at (bTb_good w0 hw0) hW0 (C.2.2.2.2.1 _ hw0)
  have hown : (T.setFrames (.invoking m args :: below)).vm.findClass own = some m.cls := by
    have := C.2.2.2.1
    rw [← X.warmed.alike.findClass own] at this
    exact this
  have hG : bG dd A (T.setFrames (.invoking m args :: below)) T.heap := C.2.2.2.2.2.2.2.2.1.to hW0 (fun a ha hna => by rw [hT]; exact hS.2.1 a ha hna) (fun _ h => h)
  have hwords : ∀ a ∈ Bundle.ownAtoms own i3 cls names, a.before args (T.setFrames (.invoking m args :: below)) = true := by
    intro a ha
    rcases hat a ha with h1 | h1 | ⟨q, hq, rfl | rfl⟩
    · exact hts a h1
    · exact bNst_use (bNst_only a h1) (hG.2.1 a h1)
    · exact (hG.2.2.2.2.1 q hq).isRef
    · exact (hG.2.2.2.2.1 q hq).lays
  obtain ⟨msg, hmsg⟩ := hG.2.2.2.1 _ hstr
  have key : W p l e { frames := R.frames, cells := 1, slots := 6, locals := R.locals } (T.setFrames (.invoking m args :: below)) m args below meth c T.heap [] 0 0
      (fun U => U.status = .running ∧ Ended U below (.threw T.heap.size) ∧ (T.setFrames (.invoking m args :: below)).WarmedH U.vm ∧ (T.setFrames (.invoking m args :: below)).sameButNew ({ U with vm := (T.setFrames (.invoking m args :: below)).vm } : State) [] 1 6 ∧
        ∃ ce, U.heap[T.heap.size]? = some ce ∧ Bundle.OwnCell args (T.setFrames (.invoking m args :: below)) cls T.heap.size (.ref msg) ce) (F0 m pc ls rest) := by
    refine W.newc (g := F0 m pc ls rest) C.1 C.2.1 hown (hts _ hcl) (hts _ hins) (hts _ hini) rfl hd0 (Nat.le_refl _) (Nat.le_refl _) (fun cC kC hfc hkC hord hsz => ?_)
    refine lv_dup (m := m) (ls := ls) (pc := pc + 3) (rest := rest) (va := .ref T.heap.size) C.1 C.2.1 hd1 rfl ?_
    refine va_ldcS C.1 C.2.1 hown hmsg hd2 ?_
    intro T2 hT2 X2
    have hcell : T2.heap[T.heap.size]? = some (freshCell cC kC) := by rw [hT2]; simp
    obtain ⟨U, u1, u2, u3, u4, u5, ce, u6, u7⟩ := X2.ctorThrowS C.1 (hlt e X.admits) hown hfit hnames hwords (fun x hx => by cases hx) hfc hkC hcell (Nat.le_refl _) (msg := .ref msg) rfl (g := F0 m (pc + 6) ls (.ref msg :: .ref T.heap.size :: .ref T.heap.size :: rest)) rfl (hL.1.trans C.2.2.1.symm) rfl rfl (rest := rest) rfl
      (by rw [C.2.1]; exact hd3) (by rw [C.2.1]; exact hd4) (outside_of_table C.2.2.2.2.2.2.2.2.2 hout) hRf (by rw [List.map_cons, List.sum_cons]; show 2 * 0 + (1 + (rest.map fun v => v.category).sum) + (13 * (names.length + 1) + 42) ≤ R.locals; omega) C.2.2.2.2.2.2.1
    exact ⟨U, u1, u2, u3, u4, u5, ce, u6, u7⟩
  obtain ⟨U, u1, u2, u3, u4, u5, ce, u6, u7⟩ := key T rfl X'
  have hFE := bRebase.back X u4 u5
  have hheap : ∀ q : Nat, q < H.size → U.heap[q]? = H[q]? := by
    intro q hq
    rw [← hT] at hq ⊢
    exact bSame0 u5 hq
  refine ⟨U, u1, .threw T.heap.size, u2, u3, ⟨⟨?_, ?_⟩, ad, w, N, ?_, hD, Or.inr ⟨T.heap.size, cls, ce, rfl, u6, u7.vm, ?_, ?_, h⟩⟩, locs, ⟨hFE.1, hFE.2.mono hc hs⟩, hS.2.2⟩
  · have h1 : T.heap.size ≤ U.heap.size := u5.2.1
    rw [hT] at h1
    exact Nat.le_trans hS.1 h1
  · intro q h1 h2
    rw [hheap q (Nat.lt_of_lt_of_le h1 hS.1)]
    exact hS.2.1 q h1 h2
  · refine hP.kept (fun k q hk => hheap _ ?_)
    exact (hP k q hk).lt
  · have h1 := u7.cls
    rw [← u4.alike.findClass cls] at h1
    exact h1
  · rw [hT]; exact hS.1
/-! catching -/
def bFinds (e : Env) (s : State) (f : JFrame) (a : Addr) (hd : Handler) (vm' : Vm) : Prop :=
  ∀ (Q : Handler → Pre) (E : CtlPost) (d : Bool) (acts : List Action), wp (findHandler f a) Q E e d acts s ↔ Q hd d acts (s.setVm vm')
theorem bgo_link {Q : Handler → Pre} {E : CtlPost} {e : Env} {d : Bool} {acts : List Action} {s : State} {f : JFrame} {a : Addr} {x : ExceptionTableEntry} {t : List ExceptionTableEntry} {c : ClassId} {cell : Cell} (hx : covers x f.pc = true) (h0 : x.catchType ≠ 0)
    (hl : s.vm.ClassLinks e.platform f.method.cls x.catchType c) (hcell : s.heap[a]? = some cell) (hobj : ∀ k, cell.vm ≠ .statics k) (hk : ∃ k, s.vm.classes[cell.cls]? = some k) (hc : ∃ k, s.vm.classes[c]? = some k) :
    wp (findHandler.go f a (x :: t)) Q E e d acts s ↔ if s.vm.assignable cell.cls c = true then Q (.found x.handlerPc) d acts (s.setVm (s.vm.noted f.method.cls x.catchType (.cls c))) else wp (findHandler.go f a t) Q E e d acts (s.setVm (s.vm.noted f.method.cls x.catchType (.cls c))) := by
  simp only [covers] at hx
  obtain ⟨ha, ht⟩ := (resolveClass_links e.toSetting hl).op (op := VmOp.resolveClass f.method.cls x.catchType) rfl
  have hal : s.vm.Alike (s.vm.noted f.method.cls x.catchType (.cls c)) := (Vm.Alike.refl s.vm).noted _ _ _
  obtain ⟨k1, hk1⟩ := hk
  obtain ⟨k2, hk2⟩ := hc
  obtain ⟨k1', hk1', -⟩ := hal.2.2 _ _ hk1
  obtain ⟨k2', hk2', -⟩ := hal.2.2 _ _ hk2
  have hfit := hal.assignable cell.cls c
  cases hf : s.vm.assignable cell.cls c <;> rw [hf] at hfit <;> simp [findHandler.go, hx, h0, ha, ht, hcell, hobj, hk1', hk2', hfit, VmOp.dirties, VmOp.acts]
def bCatch (e : Env) (s0 : State) (f : JFrame) (cls : ClassId) : List ExceptionTableEntry → Nat → Prop
  | [], _ => False
  | x :: t, h => (covers x f.pc = false ∧ bCatch e s0 f cls t h) ∨ (covers x f.pc = true ∧ x.catchType ≠ 0 ∧ ∃ c, s0.vm.ClassLinks e.platform f.method.cls x.catchType c ∧ ((s0.vm.assignable cls c = true ∧ x.handlerPc = h) ∨ (s0.vm.assignable cls c = false ∧ bCatch e s0 f cls t h)))
theorem bGo {e : Env} {s0 : State} {f : JFrame} {a : Addr} {cell : Cell} (hobj : ∀ k, cell.vm ≠ .statics k) (hk0 : ∃ k, s0.vm.classes[cell.cls]? = some k) : ∀ (tab : List ExceptionTableEntry) (S : State) (h : Nat), s0.WarmedH S.vm → S.heap[a]? = some cell → bCatch e s0 f cell.cls tab h →
    ∃ vm', s0.WarmedH vm' ∧ ∀ (Q : Handler → Pre) (E : CtlPost) (d : Bool) (acts : List Action), wp (findHandler.go f a tab) Q E e d acts S ↔ Q (.found h) d acts (S.setVm vm')
  | [], _, _, _, _, hC => hC.elim
  | x :: t, S, h, hW, hcell, hC => by
    rcases hC with ⟨hx, hC⟩ | ⟨hx, h0, c, hl, hC⟩
    · obtain ⟨vm', hW', hq⟩ := bGo hobj hk0 t S h hW hcell hC
      exact ⟨vm', hW', fun Q E d acts => by rw [W.findHandler_go_skip hx]; exact hq Q E d acts⟩
    · obtain ⟨k0, hk0'⟩ := hk0
      obtain ⟨k1, hk1, -⟩ := hW.alike.2.2 _ _ hk0'
      obtain ⟨dk, _, _, kt, hd, _, _, _, _, hkt, _, hop⟩ := hl.here
      obtain ⟨kt', hkt', -⟩ := hW.alike.2.2 _ _ hkt
      have hW2 : s0.WarmedH (S.vm.noted f.method.cls x.catchType (.cls c)) := hW.noted hd hop (State.rightAt_cls hl)
      have hasg := hW.alike.assignable cell.cls c
      rcases hC with ⟨hfit, rfl⟩ | ⟨hfit, hC⟩
      · refine ⟨_, hW2, fun Q E d acts => ?_⟩
        rw [bgo_link hx h0 (hW.classLinks hl) hcell hobj ⟨k1, hk1⟩ ⟨kt', hkt'⟩, hasg, hfit]
        simp
      · obtain ⟨vm', hW', hq⟩ := bGo hobj ⟨k0, hk0'⟩ t (S.setVm (S.vm.noted f.method.cls x.catchType (.cls c))) h hW2 hcell hC
        refine ⟨vm', hW', fun Q E d acts => ?_⟩
        rw [bgo_link hx h0 (hW.classLinks hl) hcell hobj ⟨k1, hk1⟩ ⟨kt', hkt'⟩, hasg, hfit]
        rw [if_neg (by simp)]
        exact hq Q E d acts
theorem bStepCatch {e : Env} {s : State} {a : Addr} {f : JFrame} {r : List Frame} {pc : Nat} {vm' : Vm} (hfind : bFinds e s f a (.found pc) vm') :
    (stepThrowing e s a (.java f :: r)).1 = (s.setVm vm').setFrames (.java { f with pc := pc, stack := [.ref a] } :: r) := by
  simp only [stepThrowing, searchFrame, vmDo]
  generalize hr : Sem.go _ e false [] s = res
  obtain ⟨as, rfl, ha⟩ := Sem.eq_ok_of hr (a := Handler.found pc) (s' := s.setVm vm') (acts' := []) (by simp [hfind _ _ _ _])
  rfl
theorem bCaught {tb : Tables} {e : Env} {s target : State} {g : JFrame} {c : Code} {below : List Frame} {a : Addr} (h : At s g.method c below) {pc : Nat} {vm' : Vm}
    (hfind : bFinds e ((s.setTop g).pushFrame (.throwing a)) g a (.found pc) vm') (hrest : Steps tb e below ((s.setVm vm').setTop { g with pc := pc, stack := [.ref a] }) target) :
    Steps tb e below ((s.setTop g).pushFrame (.throwing a)) target := by
  obtain ⟨hgo, hw⟩ := h.throwing a
  refine Steps.head hgo hw ?_
  rw [stepThread_throwing (frames_entered h.top _), bStepCatch (s := (s.setTop g).pushFrame (.throwing a)) hfind]
  obtain ⟨g₀, hg⟩ := Option.isSome_iff_exists.mp h.top
  obtain ⟨r, hr⟩ := State.topJava?_eq_some.mp hg
  have hr' : (s.setVm vm').frames = .java g₀ :: r := hr
  have e1 : ∀ (u : State) (F G : List Frame), ((u.setFrames F).setVm vm').setFrames G = (u.setVm vm').setFrames G := fun u F G => by
    have h1 : (u.setFrames F).setVm vm' = (u.setVm vm').setFrames F := rfl
    rw [h1, State.setFrames_setFrames]
  rw [State.setTop_of_frames _ hr'] at hrest
  rw [hr, List.tail_cons, State.pushFrame, e1, State.setTop_of_frames _ hr, e1]
  exact hrest
/-- the class of the exception is the one that the row names, or the row passes it -/
def bRows (own Cn : String) (pc : Nat) : List ((Nat × Nat × Nat × Nat) × String) → Nat → Prop
  | [], _ => False
  | q :: t, h => covers ⟨q.1.1, q.1.2.1, q.1.2.2.1, q.1.2.2.2⟩ pc = true ∧ q.1.2.2.2 ≠ 0 ∧ Cond.classLink own q.1.2.2.2 q.2 ∈ Tb ∧ ((q.2 = Cn ∧ q.1.2.2.1 = h) ∨ ((Cn, q.2) ∈ bNcp ∧ bRows own Cn pc t h))
/-- the exception is caught in the method -/
theorem bt_catch {x : Nat} {Cn : String} (C : bCx p R s m args meth c cc own nL ret hh dd A) (names : List String) (pcH : Nat) (hz : (hh.zip names).map Prod.fst = hh) (hr : bRows own Cn pc (hh.zip names) pcH) (k : bV p l e R s m args below meth c dd A nL mc ms post thr pcH lo [.ref x] ad w N cells slots) : bT p l e R s m args below meth c dd A nL mc ms post thr pc lo rest x Cn ad w N cells slots := by
  intro H locs ls cell hL hP hD hS hx hvm hfc hxs T hT X
  have hobj : ∀ k, cell.vm ≠ .statics k := fun k h => by rw [hvm] at h; cases h
  have hk0 : ∃ k, s.vm.classes[cell.cls]? = some k := Vm.classAt_of_findClass hfc
  have hpl : e.platform.magicAccessors = ({} : Platform).magicAccessors := by rw [X.admits.platform]
  have hasg : s.vm.assignable cell.cls cell.cls = true := by
    show s.vm.assignableAux (255 + 1) cell.cls cell.cls = true
    rw [Vm.assignableAux]
    simp
  have key : ∀ L : List ((Nat × Nat × Nat × Nat) × String), bRows own Cn pc L pcH → bCatch e s (F0 m pc ls rest) cell.cls (tableOf (L.map Prod.fst)) pcH := by
    intro L
    induction L with
    | nil => intro h; exact h.elim
    | cons q t ih =>
      intro h
      obtain ⟨h1, h2, h3, h4⟩ := h
      obtain ⟨c', hc', hcl⟩ := Cond.classLink_spec C.2.2.2.1 (C.2.2.2.2.1 _ h3) e.platform hpl
      refine Or.inr ⟨h1, h2, c', hcl, ?_⟩
      rcases h4 with ⟨e1, e2⟩ | ⟨e1, e2⟩
      · left
        rw [e1] at hc'
        cases hfc.symm.trans hc'
        exact ⟨hasg, e2⟩
      · right
        obtain ⟨a1, a2, b1, b2, b3⟩ := C.2.2.2.2.2.2.2.2.1.2.2.2.2.2.1 _ e1
        cases hfc.symm.trans b1
        cases hc'.symm.trans b2
        exact ⟨b3, ih e2⟩
  have hC := key _ hr
  rw [hz] at hC
  obtain ⟨vm', hW', hq⟩ := bGo (e := e) (s0 := s) (f := F0 m pc ls rest) (a := x) hobj hk0 (tableOf hh) ((T.setTop (F0 m pc ls rest)).pushFrame (.throwing x)) pcH (by rw [Stand.throwing_vm]; exact X.warmed) (by rw [Stand.throwing_heap, hT]; exact hx) hC
  have hf : bFinds e ((T.setTop (F0 m pc ls rest)).pushFrame (.throwing x)) (F0 m pc ls rest) x (.found pcH) vm' := by
    intro Q E d acts
    rw [W.findHandler_eq (meth := meth) (code := c) (by rw [Stand.throwing_vm]; exact X.method') X.code, C.2.2.2.2.2.2.2.2.2]
    exact hq Q E d acts
  obtain ⟨t, st, hQ⟩ := k H locs ls hL hP hD hS (T.setVm vm') hT (X.noted hW')
  exact ⟨t, bCaught X.here hf st, hQ⟩
end bR4
end
