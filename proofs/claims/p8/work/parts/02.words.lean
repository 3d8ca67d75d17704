/-! the words, a name each -/
def bGood (w : Cond) : Bool := (w.onTables && w.keeps) || (match w with
  | .arrayClass _ => true
  | _ => false)
def bNestOnly : Cond → Bool
  | .fieldLinkNest .. => true
  | .methodLinkNest .. => true
  | .declares _ => true
  | .castable .. => true
  | _ => false
def Tb : List Cond := lw_tbl.filter bGood
def bNst : List Cond := tables_1.filter bNestOnly
theorem tb_t {w : Cond} (h : w ∈ tables_1) (hg : bGood w = true) : w ∈ Tb := List.mem_filter.mpr ⟨List.mem_append_right _ h, hg⟩
theorem tb_s {q : MethodName × Nat} (h : q ∈ lw_privs) (hg : bGood (Cond.selects q.1.cls q.1 q.1) = true) : Cond.selects q.1.cls q.1 q.1 ∈ Tb := List.mem_filter.mpr ⟨List.mem_append_left _ (List.mem_map.mpr ⟨q, h, rfl⟩), hg⟩
theorem tn_t {w : Cond} (h : w ∈ tables_1) (hg : bNestOnly w = true) : w ∈ bNst := List.mem_filter.mpr ⟨h, hg⟩
theorem tt_1 (i : Nat) {w : Cond} (h : tables_1_1[i]? = some w) : w ∈ tables_1 := List.mem_append_left _ (List.mem_of_getElem? h)
theorem tt_2 (i : Nat) {w : Cond} (h : tables_1_2[i]? = some w) : w ∈ tables_1 := List.mem_append_right _ (List.mem_append_left _ (List.mem_of_getElem? h))
theorem tt_3 (i : Nat) {w : Cond} (h : tables_1_3[i]? = some w) : w ∈ tables_1 := List.mem_append_right _ (List.mem_append_right _ (List.mem_append_left _ (List.mem_of_getElem? h)))
theorem tt_4 (i : Nat) {w : Cond} (h : tables_1_4[i]? = some w) : w ∈ tables_1 := List.mem_append_right _ (List.mem_append_right _ (List.mem_append_right _ (List.mem_of_getElem? h)))
theorem bTb_good : ∀ w ∈ Tb, bGood w = true := fun _ h => (List.mem_filter.mp h).2
theorem bNst_only : ∀ w ∈ bNst, bNestOnly w = true := fun _ h => (List.mem_filter.mp h).2
theorem t1_0 : (Jvm.Cond.initialized "BlobStoreLaw") ∈ Tb := tb_t (tt_1 0 rfl) rfl
theorem t1_1 : (Jvm.Cond.initialized "BlobStore") ∈ Tb := tb_t (tt_1 1 rfl) rfl
theorem t1_2 : (Jvm.Cond.initialized "BlobStore$Power") ∈ Tb := tb_t (tt_1 2 rfl) rfl
theorem t1_3 : (Jvm.Cond.initialized "BlobStore$Sha256") ∈ Tb := tb_t (tt_1 3 rfl) rfl
theorem t1_4 : (Jvm.Cond.initialized "BlobStore$Row") ∈ Tb := tb_t (tt_1 4 rfl) rfl
theorem t1_5 : (Jvm.Cond.initialized "BlobStore$Chunk") ∈ Tb := tb_t (tt_1 5 rfl) rfl
theorem t1_6 : (Jvm.Cond.initialized "BlobStore$Session") ∈ Tb := tb_t (tt_1 6 rfl) rfl
theorem t1_7 : (Jvm.Cond.initialized "BlobStore$Version") ∈ Tb := tb_t (tt_1 7 rfl) rfl
theorem t1_8 : (Jvm.Cond.initialized "BlobStoreModel") ∈ Tb := tb_t (tt_1 8 rfl) rfl
theorem t1_9 : (Jvm.Cond.initialized "java/lang/Throwable") ∈ Tb := tb_t (tt_1 9 rfl) rfl
theorem t1_10 : (Jvm.Cond.initialized "java/lang/Exception") ∈ Tb := tb_t (tt_1 10 rfl) rfl
theorem t1_11 : (Jvm.Cond.initialized "java/lang/RuntimeException") ∈ Tb := tb_t (tt_1 11 rfl) rfl
theorem t1_12 : (Jvm.Cond.initialized "java/lang/IllegalStateException") ∈ Tb := tb_t (tt_1 12 rfl) rfl
theorem t1_13 : (Jvm.Cond.initialized "java/lang/IllegalArgumentException") ∈ Tb := tb_t (tt_1 13 rfl) rfl
theorem t1_14 : (Jvm.Cond.initialized "java/lang/UnsupportedOperationException") ∈ Tb := tb_t (tt_1 14 rfl) rfl
theorem t1_15 : (Jvm.Cond.initialized "java/lang/Math") ∈ Tb := tb_t (tt_1 15 rfl) rfl
theorem t1_16 : (Jvm.Cond.initialized "java/lang/IndexOutOfBoundsException") ∈ Tb := tb_t (tt_1 16 rfl) rfl
theorem t1_17 : (Jvm.Cond.initialized "java/lang/System") ∈ Tb := tb_t (tt_1 17 rfl) rfl
theorem t1_18 : (Jvm.Cond.initialized "java/util/Arrays") ∈ Tb := tb_t (tt_1 18 rfl) rfl
theorem t1_19 : (Jvm.Cond.initialized "java/util/NoSuchElementException") ∈ Tb := tb_t (tt_1 19 rfl) rfl
theorem t1_20 : (Jvm.Cond.classLink "BlobStoreLaw" (8 : Nat) "BlobStore") ∈ Tb := tb_t (tt_1 20 rfl) rfl
theorem t1_21 : (Jvm.Cond.instantiable "BlobStore" (10 : Nat)) ∈ Tb := tb_t (tt_1 21 rfl) rfl
theorem t1_22 : (Jvm.Cond.methodLink "BlobStoreLaw" (49 : Nat) ({ cls := "BlobStore", name := "<init>", desc := "()V" } : Jvm.MethodName)) ∈ Tb := tb_t (tt_1 22 rfl) rfl
theorem t1_23 : (Jvm.Cond.instanceMethod ({ cls := "BlobStore", name := "<init>", desc := "()V" } : Jvm.MethodName)) ∈ Tb := tb_t (tt_1 23 rfl) rfl
theorem t1_24 : (Jvm.Cond.code ({ cls := "BlobStore", name := "<init>", desc := "()V" } : Jvm.MethodName) prog_1_method_1_code (2 : Nat) (Option.none : Option Jvm.ClassFile.FieldType)) ∈ Tb := tb_t (tt_1 24 rfl) rfl
theorem t1_25 : (Jvm.Cond.methodLink "BlobStore" (3 : Nat) ({ cls := "java/lang/Object", name := "<init>", desc := "()V" } : Jvm.MethodName)) ∈ Tb := tb_t (tt_1 25 rfl) rfl
theorem t1_26 : (Jvm.Cond.instanceMethod ({ cls := "java/lang/Object", name := "<init>", desc := "()V" } : Jvm.MethodName)) ∈ Tb := tb_t (tt_1 26 rfl) rfl
theorem t1_27 : (Jvm.Cond.code ({ cls := "java/lang/Object", name := "<init>", desc := "()V" } : Jvm.MethodName) object_method_1_code (1 : Nat) (Option.none : Option Jvm.ClassFile.FieldType)) ∈ Tb := tb_t (tt_1 27 rfl) rfl
theorem t1_28 : (Jvm.Cond.classLink "BlobStore" (9 : Nat) "BlobStore$Power") ∈ Tb := tb_t (tt_1 28 rfl) rfl
theorem t1_29 : (Jvm.Cond.instantiable "BlobStore$Power" (3 : Nat)) ∈ Tb := tb_t (tt_1 29 rfl) rfl
theorem n1_30 : (Jvm.Cond.methodLinkNest "BlobStore" (11 : Nat) ({ cls := "BlobStore$Power", name := "<init>", desc := "()V" } : Jvm.MethodName) "BlobStore") ∈ bNst := tn_t (tt_1 30 rfl) rfl
theorem t1_31 : (Jvm.Cond.instanceMethod ({ cls := "BlobStore$Power", name := "<init>", desc := "()V" } : Jvm.MethodName)) ∈ Tb := tb_t (tt_1 31 rfl) rfl
theorem t1_32 : (Jvm.Cond.code ({ cls := "BlobStore$Power", name := "<init>", desc := "()V" } : Jvm.MethodName) prog_3_method_1_code (1 : Nat) (Option.none : Option Jvm.ClassFile.FieldType)) ∈ Tb := tb_t (tt_1 32 rfl) rfl
theorem t1_33 : (Jvm.Cond.methodLink "BlobStore$Power" (1 : Nat) ({ cls := "java/lang/Object", name := "<init>", desc := "()V" } : Jvm.MethodName)) ∈ Tb := tb_t (tt_1 33 rfl) rfl
theorem t1_34 : (Jvm.Cond.fieldLink "BlobStore$Power" (7 : Nat) "BlobStore$Power" "writes" "I") ∈ Tb := tb_t (tt_1 34 rfl) rfl
theorem n1_35 : (Jvm.Cond.fieldLinkNest "BlobStore" (201 : Nat) "BlobStore$Power" "writes" "I" "BlobStore") ∈ bNst := tn_t (tt_1 35 rfl) rfl
theorem t1_36 : (Jvm.Cond.fieldLink "BlobStore$Power" (13 : Nat) "BlobStore$Power" "writesToCut" "I") ∈ Tb := tb_t (tt_1 36 rfl) rfl
theorem t1_37 : (Jvm.Cond.fieldLink "BlobStore$Power" (16 : Nat) "BlobStore$Power" "gone" "Z") ∈ Tb := tb_t (tt_1 37 rfl) rfl
theorem n1_38 : (Jvm.Cond.fieldLinkNest "BlobStore" (204 : Nat) "BlobStore$Power" "gone" "Z" "BlobStore") ∈ bNst := tn_t (tt_1 38 rfl) rfl
theorem t1_39 : (Jvm.Cond.lays "BlobStore$Power" "BlobStore$Power" "writes" "I") ∈ Tb := tb_t (tt_1 39 rfl) rfl
theorem u1_40 : (Jvm.Cond.soleField "BlobStore$Power" "writes") ∈ tables_1 := tt_1 40 rfl
theorem t1_41 : (Jvm.Cond.lays "BlobStore$Power" "BlobStore$Power" "writesToCut" "I") ∈ Tb := tb_t (tt_1 41 rfl) rfl
theorem u1_42 : (Jvm.Cond.soleField "BlobStore$Power" "writesToCut") ∈ tables_1 := tt_1 42 rfl
theorem t1_43 : (Jvm.Cond.lays "BlobStore$Power" "BlobStore$Power" "gone" "Z") ∈ Tb := tb_t (tt_1 43 rfl) rfl
theorem u1_44 : (Jvm.Cond.soleField "BlobStore$Power" "gone") ∈ tables_1 := tt_1 44 rfl
theorem t1_45 : (Jvm.Cond.superclass "BlobStore$Power" "java/lang/Object") ∈ Tb := tb_t (tt_1 45 rfl) rfl
theorem t1_46 : (Jvm.Cond.classLink "BlobStore" (16 : Nat) "BlobStore$Sha256") ∈ Tb := tb_t (tt_1 46 rfl) rfl
theorem t1_47 : (Jvm.Cond.instantiable "BlobStore$Sha256" (1 : Nat)) ∈ Tb := tb_t (tt_1 47 rfl) rfl
theorem n1_48 : (Jvm.Cond.methodLinkNest "BlobStore" (18 : Nat) ({ cls := "BlobStore$Sha256", name := "<init>", desc := "()V" } : Jvm.MethodName) "BlobStore") ∈ bNst := tn_t (tt_1 48 rfl) rfl
theorem t1_49 : (Jvm.Cond.instanceMethod ({ cls := "BlobStore$Sha256", name := "<init>", desc := "()V" } : Jvm.MethodName)) ∈ Tb := tb_t (tt_1 49 rfl) rfl
theorem t1_50 : (Jvm.Cond.code ({ cls := "BlobStore$Sha256", name := "<init>", desc := "()V" } : Jvm.MethodName) prog_6_method_1_code (1 : Nat) (Option.none : Option Jvm.ClassFile.FieldType)) ∈ Tb := tb_t (tt_1 50 rfl) rfl
theorem t1_51 : (Jvm.Cond.methodLink "BlobStore$Sha256" (3 : Nat) ({ cls := "java/lang/Object", name := "<init>", desc := "()V" } : Jvm.MethodName)) ∈ Tb := tb_t (tt_1 51 rfl) rfl
theorem t1_52 : (Jvm.Cond.fieldLink "BlobStore$Sha256" (11 : Nat) "BlobStore$Sha256" "schedule" "[I") ∈ Tb := tb_t (tt_1 52 rfl) rfl
theorem t1_53 : (Jvm.Cond.laysFinal "BlobStore$Sha256" "BlobStore$Sha256" "schedule" "[I") ∈ Tb := tb_t (tt_1 53 rfl) rfl
theorem u1_54 : (Jvm.Cond.soleField "BlobStore$Sha256" "schedule") ∈ tables_1 := tt_1 54 rfl
theorem t1_55 : (Jvm.Cond.superclass "BlobStore$Sha256" "java/lang/Object") ∈ Tb := tb_t (tt_1 55 rfl) rfl
theorem t1_56 : (Jvm.Cond.arrayClass Jvm.ClassFile.FieldType.int) ∈ Tb := tb_t (tt_1 56 rfl) rfl
theorem t1_57 : (Jvm.Cond.classLink "BlobStore" (23 : Nat) "BlobStore$Chunk") ∈ Tb := tb_t (tt_1 57 rfl) rfl
theorem u1_58 : (Jvm.Cond.arrayOver (Jvm.ClassFile.FieldType.object "BlobStore$Chunk")) ∈ tables_1 := tt_1 58 rfl
theorem t1_59 : (Jvm.Cond.classLink "BlobStore" (29 : Nat) "BlobStore$Session") ∈ Tb := tb_t (tt_1 59 rfl) rfl
theorem u1_60 : (Jvm.Cond.arrayOver (Jvm.ClassFile.FieldType.object "BlobStore$Session")) ∈ tables_1 := tt_1 60 rfl
theorem t1_61 : (Jvm.Cond.classLink "BlobStore" (35 : Nat) "BlobStore$Version") ∈ Tb := tb_t (tt_1 61 rfl) rfl
theorem u1_62 : (Jvm.Cond.arrayOver (Jvm.ClassFile.FieldType.object "BlobStore$Version")) ∈ tables_1 := tt_1 62 rfl
theorem t1_63 : (Jvm.Cond.classLink "BlobStore" (48 : Nat) "BlobStore$Row") ∈ Tb := tb_t (tt_1 63 rfl) rfl
theorem t1_64 : (Jvm.Cond.instantiable "BlobStore$Row" (2 : Nat)) ∈ Tb := tb_t (tt_1 64 rfl) rfl
theorem n1_65 : (Jvm.Cond.methodLinkNest "BlobStore" (50 : Nat) ({ cls := "BlobStore$Row", name := "<init>", desc := "(I)V" } : Jvm.MethodName) "BlobStore") ∈ bNst := tn_t (tt_1 65 rfl) rfl
theorem t1_66 : (Jvm.Cond.instanceMethod ({ cls := "BlobStore$Row", name := "<init>", desc := "(I)V" } : Jvm.MethodName)) ∈ Tb := tb_t (tt_1 66 rfl) rfl
theorem t1_67 : (Jvm.Cond.code ({ cls := "BlobStore$Row", name := "<init>", desc := "(I)V" } : Jvm.MethodName) prog_4_method_1_code (2 : Nat) (Option.none : Option Jvm.ClassFile.FieldType)) ∈ Tb := tb_t (tt_1 67 rfl) rfl
theorem t1_68 : (Jvm.Cond.methodLink "BlobStore$Row" (1 : Nat) ({ cls := "java/lang/Object", name := "<init>", desc := "()V" } : Jvm.MethodName)) ∈ Tb := tb_t (tt_1 68 rfl) rfl
theorem t1_69 : (Jvm.Cond.fieldLink "BlobStore$Row" (13 : Nat) "BlobStore$Row" "slots" "[I") ∈ Tb := tb_t (tt_1 69 rfl) rfl
theorem n1_70 : (Jvm.Cond.fieldLinkNest "BlobStore" (166 : Nat) "BlobStore$Row" "slots" "[I" "BlobStore") ∈ bNst := tn_t (tt_1 70 rfl) rfl
theorem t1_71 : (Jvm.Cond.fieldLink "BlobStore$Row" (7 : Nat) "BlobStore$Row" "length" "I") ∈ Tb := tb_t (tt_1 71 rfl) rfl
theorem n1_72 : (Jvm.Cond.fieldLinkNest "BlobStore$Session" (31 : Nat) "BlobStore$Row" "length" "I" "BlobStore") ∈ bNst := tn_t (tt_1 72 rfl) rfl
theorem n1_73 : (Jvm.Cond.fieldLinkNest "BlobStore" (163 : Nat) "BlobStore$Row" "length" "I" "BlobStore") ∈ bNst := tn_t (tt_1 73 rfl) rfl
theorem t1_74 : (Jvm.Cond.laysFinal "BlobStore$Row" "BlobStore$Row" "slots" "[I") ∈ Tb := tb_t (tt_1 74 rfl) rfl
theorem u1_75 : (Jvm.Cond.soleField "BlobStore$Row" "slots") ∈ tables_1 := tt_1 75 rfl
theorem t1_76 : (Jvm.Cond.lays "BlobStore$Row" "BlobStore$Row" "length" "I") ∈ Tb := tb_t (tt_1 76 rfl) rfl
theorem u1_77 : (Jvm.Cond.soleField "BlobStore$Row" "length") ∈ tables_1 := tt_1 77 rfl
theorem t1_78 : (Jvm.Cond.superclass "BlobStore$Row" "java/lang/Object") ∈ Tb := tb_t (tt_1 78 rfl) rfl
theorem t1_79 : (Jvm.Cond.instantiable "BlobStore$Chunk" (3 : Nat)) ∈ Tb := tb_t (tt_1 79 rfl) rfl
theorem n1_80 : (Jvm.Cond.methodLinkNest "BlobStore" (57 : Nat) ({ cls := "BlobStore$Chunk", name := "<init>", desc := "()V" } : Jvm.MethodName) "BlobStore") ∈ bNst := tn_t (tt_1 80 rfl) rfl
theorem t1_81 : (Jvm.Cond.instanceMethod ({ cls := "BlobStore$Chunk", name := "<init>", desc := "()V" } : Jvm.MethodName)) ∈ Tb := tb_t (tt_1 81 rfl) rfl
theorem t1_82 : (Jvm.Cond.code ({ cls := "BlobStore$Chunk", name := "<init>", desc := "()V" } : Jvm.MethodName) prog_2_method_1_code (1 : Nat) (Option.none : Option Jvm.ClassFile.FieldType)) ∈ Tb := tb_t (tt_1 82 rfl) rfl
theorem t1_83 : (Jvm.Cond.methodLink "BlobStore$Chunk" (3 : Nat) ({ cls := "java/lang/Object", name := "<init>", desc := "()V" } : Jvm.MethodName)) ∈ Tb := tb_t (tt_1 83 rfl) rfl
theorem t1_84 : (Jvm.Cond.fieldLink "BlobStore$Chunk" (9 : Nat) "BlobStore$Chunk" "length" "I") ∈ Tb := tb_t (tt_1 84 rfl) rfl
theorem n1_85 : (Jvm.Cond.fieldLinkNest "BlobStore" (168 : Nat) "BlobStore$Chunk" "length" "I" "BlobStore") ∈ bNst := tn_t (tt_1 85 rfl) rfl
theorem t1_86 : (Jvm.Cond.fieldLink "BlobStore$Chunk" (15 : Nat) "BlobStore$Chunk" "bytes" "J") ∈ Tb := tb_t (tt_1 86 rfl) rfl
theorem t1_87 : (Jvm.Cond.fieldLink "BlobStore$Chunk" (19 : Nat) "BlobStore$Chunk" "address" "[I") ∈ Tb := tb_t (tt_1 87 rfl) rfl
theorem n1_88 : (Jvm.Cond.fieldLinkNest "BlobStore" (181 : Nat) "BlobStore$Chunk" "address" "[I" "BlobStore") ∈ bNst := tn_t (tt_1 88 rfl) rfl
theorem t1_89 : (Jvm.Cond.lays "BlobStore$Chunk" "BlobStore$Chunk" "length" "I") ∈ Tb := tb_t (tt_1 89 rfl) rfl
theorem u1_90 : (Jvm.Cond.soleField "BlobStore$Chunk" "length") ∈ tables_1 := tt_1 90 rfl
theorem t1_91 : (Jvm.Cond.lays "BlobStore$Chunk" "BlobStore$Chunk" "bytes" "J") ∈ Tb := tb_t (tt_1 91 rfl) rfl
theorem u1_92 : (Jvm.Cond.soleField "BlobStore$Chunk" "bytes") ∈ tables_1 := tt_1 92 rfl
theorem t1_93 : (Jvm.Cond.laysFinal "BlobStore$Chunk" "BlobStore$Chunk" "address" "[I") ∈ Tb := tb_t (tt_1 93 rfl) rfl
theorem u1_94 : (Jvm.Cond.soleField "BlobStore$Chunk" "address") ∈ tables_1 := tt_1 94 rfl
theorem t1_95 : (Jvm.Cond.superclass "BlobStore$Chunk" "java/lang/Object") ∈ Tb := tb_t (tt_1 95 rfl) rfl
theorem t1_96 : (Jvm.Cond.instantiable "BlobStore$Session" (4 : Nat)) ∈ Tb := tb_t (tt_1 96 rfl) rfl
theorem n1_97 : (Jvm.Cond.methodLinkNest "BlobStore" (66 : Nat) ({ cls := "BlobStore$Session", name := "<init>", desc := "()V" } : Jvm.MethodName) "BlobStore") ∈ bNst := tn_t (tt_1 97 rfl) rfl
theorem t1_98 : (Jvm.Cond.instanceMethod ({ cls := "BlobStore$Session", name := "<init>", desc := "()V" } : Jvm.MethodName)) ∈ Tb := tb_t (tt_1 98 rfl) rfl
theorem t1_99 : (Jvm.Cond.code ({ cls := "BlobStore$Session", name := "<init>", desc := "()V" } : Jvm.MethodName) prog_5_method_1_code (2 : Nat) (Option.none : Option Jvm.ClassFile.FieldType)) ∈ Tb := tb_t (tt_1 99 rfl) rfl
theorem t1_100 : (Jvm.Cond.methodLink "BlobStore$Session" (3 : Nat) ({ cls := "java/lang/Object", name := "<init>", desc := "()V" } : Jvm.MethodName)) ∈ Tb := tb_t (tt_1 100 rfl) rfl
theorem t1_101 : (Jvm.Cond.classLink "BlobStore$Session" (22 : Nat) "BlobStore$Row") ∈ Tb := tb_t (tt_1 101 rfl) rfl
theorem u1_102 : (Jvm.Cond.arrayOver (Jvm.ClassFile.FieldType.object "BlobStore$Row")) ∈ tables_1 := tt_1 102 rfl
theorem n1_103 : (Jvm.Cond.methodLinkNest "BlobStore$Session" (28 : Nat) ({ cls := "BlobStore$Row", name := "<init>", desc := "(I)V" } : Jvm.MethodName) "BlobStore") ∈ bNst := tn_t (tt_1 103 rfl) rfl
theorem t1_104 : (Jvm.Cond.fieldLink "BlobStore$Session" (9 : Nat) "BlobStore$Session" "open" "Z") ∈ Tb := tb_t (tt_1 104 rfl) rfl
theorem n1_105 : (Jvm.Cond.fieldLinkNest "BlobStore" (125 : Nat) "BlobStore$Session" "open" "Z" "BlobStore") ∈ bNst := tn_t (tt_1 105 rfl) rfl
theorem t1_106 : (Jvm.Cond.fieldLink "BlobStore$Session" (15 : Nat) "BlobStore$Session" "bucket" "I") ∈ Tb := tb_t (tt_1 106 rfl) rfl
theorem n1_107 : (Jvm.Cond.fieldLinkNest "BlobStore$Version" (31 : Nat) "BlobStore$Session" "bucket" "I" "BlobStore") ∈ bNst := tn_t (tt_1 107 rfl) rfl
theorem t1_108 : (Jvm.Cond.fieldLink "BlobStore$Session" (19 : Nat) "BlobStore$Session" "key" "I") ∈ Tb := tb_t (tt_1 108 rfl) rfl
theorem n1_109 : (Jvm.Cond.fieldLinkNest "BlobStore$Version" (34 : Nat) "BlobStore$Session" "key" "I" "BlobStore") ∈ bNst := tn_t (tt_1 109 rfl) rfl
theorem t1_110 : (Jvm.Cond.fieldLink "BlobStore$Session" (24 : Nat) "BlobStore$Session" "parts" "[LBlobStore$Row;") ∈ Tb := tb_t (tt_1 110 rfl) rfl
theorem n1_111 : (Jvm.Cond.fieldLinkNest "BlobStore$Version" (35 : Nat) "BlobStore$Session" "parts" "[LBlobStore$Row;" "BlobStore") ∈ bNst := tn_t (tt_1 111 rfl) rfl
theorem n1_112 : (Jvm.Cond.fieldLinkNest "BlobStore" (111 : Nat) "BlobStore$Session" "parts" "[LBlobStore$Row;" "BlobStore") ∈ bNst := tn_t (tt_1 112 rfl) rfl
theorem t1_113 : (Jvm.Cond.lays "BlobStore$Session" "BlobStore$Session" "open" "Z") ∈ Tb := tb_t (tt_1 113 rfl) rfl
theorem u1_114 : (Jvm.Cond.soleField "BlobStore$Session" "open") ∈ tables_1 := tt_1 114 rfl
theorem t1_115 : (Jvm.Cond.lays "BlobStore$Session" "BlobStore$Session" "bucket" "I") ∈ Tb := tb_t (tt_1 115 rfl) rfl
theorem u1_116 : (Jvm.Cond.soleField "BlobStore$Session" "bucket") ∈ tables_1 := tt_1 116 rfl
theorem t1_117 : (Jvm.Cond.lays "BlobStore$Session" "BlobStore$Session" "key" "I") ∈ Tb := tb_t (tt_1 117 rfl) rfl
theorem u1_118 : (Jvm.Cond.soleField "BlobStore$Session" "key") ∈ tables_1 := tt_1 118 rfl
theorem t1_119 : (Jvm.Cond.laysFinal "BlobStore$Session" "BlobStore$Session" "parts" "[LBlobStore$Row;") ∈ Tb := tb_t (tt_1 119 rfl) rfl
theorem u1_120 : (Jvm.Cond.soleField "BlobStore$Session" "parts") ∈ tables_1 := tt_1 120 rfl
theorem t1_121 : (Jvm.Cond.superclass "BlobStore$Session" "java/lang/Object") ∈ Tb := tb_t (tt_1 121 rfl) rfl
theorem t1_122 : (Jvm.Cond.instantiable "BlobStore$Version" (4 : Nat)) ∈ Tb := tb_t (tt_1 122 rfl) rfl
theorem n1_123 : (Jvm.Cond.methodLinkNest "BlobStore" (67 : Nat) ({ cls := "BlobStore$Version", name := "<init>", desc := "()V" } : Jvm.MethodName) "BlobStore") ∈ bNst := tn_t (tt_1 123 rfl) rfl
theorem t1_124 : (Jvm.Cond.instanceMethod ({ cls := "BlobStore$Version", name := "<init>", desc := "()V" } : Jvm.MethodName)) ∈ Tb := tb_t (tt_1 124 rfl) rfl
theorem t1_125 : (Jvm.Cond.code ({ cls := "BlobStore$Version", name := "<init>", desc := "()V" } : Jvm.MethodName) prog_7_method_1_code (1 : Nat) (Option.none : Option Jvm.ClassFile.FieldType)) ∈ Tb := tb_t (tt_1 125 rfl) rfl
theorem t1_126 : (Jvm.Cond.methodLink "BlobStore$Version" (3 : Nat) ({ cls := "java/lang/Object", name := "<init>", desc := "()V" } : Jvm.MethodName)) ∈ Tb := tb_t (tt_1 126 rfl) rfl
theorem t1_127 : (Jvm.Cond.classLink "BlobStore$Version" (22 : Nat) "BlobStore$Row") ∈ Tb := tb_t (tt_1 127 rfl) rfl
theorem n1_128 : (Jvm.Cond.methodLinkNest "BlobStore$Version" (24 : Nat) ({ cls := "BlobStore$Row", name := "<init>", desc := "(I)V" } : Jvm.MethodName) "BlobStore") ∈ bNst := tn_t (tt_1 128 rfl) rfl
theorem t1_129 : (Jvm.Cond.fieldLink "BlobStore$Version" (9 : Nat) "BlobStore$Version" "lives" "Z") ∈ Tb := tb_t (tt_1 129 rfl) rfl
theorem n1_130 : (Jvm.Cond.fieldLinkNest "BlobStore" (133 : Nat) "BlobStore$Version" "lives" "Z" "BlobStore") ∈ bNst := tn_t (tt_1 130 rfl) rfl
theorem t1_131 : (Jvm.Cond.fieldLink "BlobStore$Version" (15 : Nat) "BlobStore$Version" "bucket" "I") ∈ Tb := tb_t (tt_1 131 rfl) rfl
theorem n1_132 : (Jvm.Cond.fieldLinkNest "BlobStore" (154 : Nat) "BlobStore$Version" "bucket" "I" "BlobStore") ∈ bNst := tn_t (tt_1 132 rfl) rfl
theorem t1_133 : (Jvm.Cond.fieldLink "BlobStore$Version" (19 : Nat) "BlobStore$Version" "key" "I") ∈ Tb := tb_t (tt_1 133 rfl) rfl
theorem n1_134 : (Jvm.Cond.fieldLinkNest "BlobStore" (157 : Nat) "BlobStore$Version" "key" "I" "BlobStore") ∈ bNst := tn_t (tt_1 134 rfl) rfl
theorem t1_135 : (Jvm.Cond.fieldLink "BlobStore$Version" (27 : Nat) "BlobStore$Version" "row" "LBlobStore$Row;") ∈ Tb := tb_t (tt_1 135 rfl) rfl
theorem n1_136 : (Jvm.Cond.fieldLinkNest "BlobStore" (160 : Nat) "BlobStore$Version" "row" "LBlobStore$Row;" "BlobStore") ∈ bNst := tn_t (tt_1 136 rfl) rfl
theorem t1_137 : (Jvm.Cond.lays "BlobStore$Version" "BlobStore$Version" "lives" "Z") ∈ Tb := tb_t (tt_1 137 rfl) rfl
theorem u1_138 : (Jvm.Cond.soleField "BlobStore$Version" "lives") ∈ tables_1 := tt_1 138 rfl
theorem t1_139 : (Jvm.Cond.lays "BlobStore$Version" "BlobStore$Version" "bucket" "I") ∈ Tb := tb_t (tt_1 139 rfl) rfl
theorem u1_140 : (Jvm.Cond.soleField "BlobStore$Version" "bucket") ∈ tables_1 := tt_1 140 rfl
theorem t1_141 : (Jvm.Cond.lays "BlobStore$Version" "BlobStore$Version" "key" "I") ∈ Tb := tb_t (tt_1 141 rfl) rfl
theorem u1_142 : (Jvm.Cond.soleField "BlobStore$Version" "key") ∈ tables_1 := tt_1 142 rfl
theorem t1_143 : (Jvm.Cond.laysFinal "BlobStore$Version" "BlobStore$Version" "row" "LBlobStore$Row;") ∈ Tb := tb_t (tt_1 143 rfl) rfl
theorem u1_144 : (Jvm.Cond.soleField "BlobStore$Version" "row") ∈ tables_1 := tt_1 144 rfl
theorem t1_145 : (Jvm.Cond.superclass "BlobStore$Version" "java/lang/Object") ∈ Tb := tb_t (tt_1 145 rfl) rfl
theorem t1_146 : (Jvm.Cond.fieldLink "BlobStore" (12 : Nat) "BlobStore" "power" "LBlobStore$Power;") ∈ Tb := tb_t (tt_1 146 rfl) rfl
theorem t1_147 : (Jvm.Cond.fieldLink "BlobStore" (19 : Nat) "BlobStore" "sha256" "LBlobStore$Sha256;") ∈ Tb := tb_t (tt_1 147 rfl) rfl
theorem t1_148 : (Jvm.Cond.fieldLink "BlobStore" (25 : Nat) "BlobStore" "slots" "[LBlobStore$Chunk;") ∈ Tb := tb_t (tt_1 148 rfl) rfl
theorem t1_149 : (Jvm.Cond.fieldLink "BlobStore" (31 : Nat) "BlobStore" "sessions" "[LBlobStore$Session;") ∈ Tb := tb_t (tt_1 149 rfl) rfl
theorem t1_150 : (Jvm.Cond.fieldLink "BlobStore" (37 : Nat) "BlobStore" "versions" "[LBlobStore$Version;") ∈ Tb := tb_t (tt_1 150 rfl) rfl
theorem t1_151 : (Jvm.Cond.fieldLink "BlobStore" (41 : Nat) "BlobStore" "versionsEver" "I") ∈ Tb := tb_t (tt_1 151 rfl) rfl
theorem t1_152 : (Jvm.Cond.fieldLink "BlobStore" (45 : Nat) "BlobStore" "incoming" "[LBlobStore$Chunk;") ∈ Tb := tb_t (tt_1 152 rfl) rfl
theorem t1_153 : (Jvm.Cond.fieldLink "BlobStore" (53 : Nat) "BlobStore" "incomingSlots" "LBlobStore$Row;") ∈ Tb := tb_t (tt_1 153 rfl) rfl
theorem t1_154 : (Jvm.Cond.fieldLink "BlobStore" (58 : Nat) "BlobStore" "wanted" "LBlobStore$Chunk;") ∈ Tb := tb_t (tt_1 154 rfl) rfl
theorem t1_155 : (Jvm.Cond.fieldLink "BlobStore" (62 : Nat) "BlobStore" "needs" "[I") ∈ Tb := tb_t (tt_1 155 rfl) rfl
theorem t1_156 : (Jvm.Cond.laysFinal "BlobStore" "BlobStore" "power" "LBlobStore$Power;") ∈ Tb := tb_t (tt_1 156 rfl) rfl
theorem u1_157 : (Jvm.Cond.soleField "BlobStore" "power") ∈ tables_1 := tt_1 157 rfl
theorem t1_158 : (Jvm.Cond.laysFinal "BlobStore" "BlobStore" "sha256" "LBlobStore$Sha256;") ∈ Tb := tb_t (tt_1 158 rfl) rfl
theorem u1_159 : (Jvm.Cond.soleField "BlobStore" "sha256") ∈ tables_1 := tt_1 159 rfl
theorem t1_160 : (Jvm.Cond.laysFinal "BlobStore" "BlobStore" "slots" "[LBlobStore$Chunk;") ∈ Tb := tb_t (tt_1 160 rfl) rfl
theorem u1_161 : (Jvm.Cond.soleField "BlobStore" "slots") ∈ tables_1 := tt_1 161 rfl
theorem t1_162 : (Jvm.Cond.laysFinal "BlobStore" "BlobStore" "sessions" "[LBlobStore$Session;") ∈ Tb := tb_t (tt_1 162 rfl) rfl
theorem u1_163 : (Jvm.Cond.soleField "BlobStore" "sessions") ∈ tables_1 := tt_1 163 rfl
theorem t1_164 : (Jvm.Cond.laysFinal "BlobStore" "BlobStore" "versions" "[LBlobStore$Version;") ∈ Tb := tb_t (tt_1 164 rfl) rfl
theorem u1_165 : (Jvm.Cond.soleField "BlobStore" "versions") ∈ tables_1 := tt_1 165 rfl
theorem t1_166 : (Jvm.Cond.lays "BlobStore" "BlobStore" "versionsEver" "I") ∈ Tb := tb_t (tt_1 166 rfl) rfl
theorem u1_167 : (Jvm.Cond.soleField "BlobStore" "versionsEver") ∈ tables_1 := tt_1 167 rfl
theorem t1_168 : (Jvm.Cond.laysFinal "BlobStore" "BlobStore" "incoming" "[LBlobStore$Chunk;") ∈ Tb := tb_t (tt_1 168 rfl) rfl
theorem u1_169 : (Jvm.Cond.soleField "BlobStore" "incoming") ∈ tables_1 := tt_1 169 rfl
theorem t1_170 : (Jvm.Cond.laysFinal "BlobStore" "BlobStore" "incomingSlots" "LBlobStore$Row;") ∈ Tb := tb_t (tt_1 170 rfl) rfl
theorem u1_171 : (Jvm.Cond.soleField "BlobStore" "incomingSlots") ∈ tables_1 := tt_1 171 rfl
theorem t1_172 : (Jvm.Cond.laysFinal "BlobStore" "BlobStore" "wanted" "LBlobStore$Chunk;") ∈ Tb := tb_t (tt_1 172 rfl) rfl
theorem u1_173 : (Jvm.Cond.soleField "BlobStore" "wanted") ∈ tables_1 := tt_1 173 rfl
theorem t1_174 : (Jvm.Cond.laysFinal "BlobStore" "BlobStore" "needs" "[I") ∈ Tb := tb_t (tt_1 174 rfl) rfl
theorem u1_175 : (Jvm.Cond.soleField "BlobStore" "needs") ∈ tables_1 := tt_1 175 rfl
theorem t1_176 : (Jvm.Cond.superclass "BlobStore" "java/lang/Object") ∈ Tb := tb_t (tt_1 176 rfl) rfl
theorem t1_177 : (Jvm.Cond.methodLink "BlobStoreLaw" (86 : Nat) ({ cls := "BlobStore", name := "recover", desc := "()Z" } : Jvm.MethodName)) ∈ Tb := tb_t (tt_1 177 rfl) rfl
theorem t1_178 : (Jvm.Cond.instanceMethod ({ cls := "BlobStore", name := "recover", desc := "()Z" } : Jvm.MethodName)) ∈ Tb := tb_t (tt_1 178 rfl) rfl
theorem t1_179 : (Jvm.Cond.selects "BlobStore" ({ cls := "BlobStore", name := "recover", desc := "()Z" } : Jvm.MethodName) ({ cls := "BlobStore", name := "recover", desc := "()Z" } : Jvm.MethodName)) ∈ Tb := tb_t (tt_1 179 rfl) rfl
theorem t1_180 : (Jvm.Cond.code ({ cls := "BlobStore", name := "recover", desc := "()Z" } : Jvm.MethodName) prog_1_method_9_code (1 : Nat) (Option.some Jvm.ClassFile.FieldType.boolean)) ∈ Tb := tb_t (tt_1 180 rfl) rfl
theorem n1_181 : (Jvm.Cond.methodLinkNest "BlobStore" (151 : Nat) ({ cls := "BlobStore$Power", name := "turnOn", desc := "()Z" } : Jvm.MethodName) "BlobStore") ∈ bNst := tn_t (tt_1 181 rfl) rfl
theorem u1_182 : (Jvm.Cond.privateMethod ({ cls := "BlobStore$Power", name := "turnOn", desc := "()Z" } : Jvm.MethodName)) ∈ tables_1 := tt_1 182 rfl
theorem t1_183 : (Jvm.Cond.instanceMethod ({ cls := "BlobStore$Power", name := "turnOn", desc := "()Z" } : Jvm.MethodName)) ∈ Tb := tb_t (tt_1 183 rfl) rfl
theorem t1_184 : (Jvm.Cond.code ({ cls := "BlobStore$Power", name := "turnOn", desc := "()Z" } : Jvm.MethodName) prog_3_method_5_code (1 : Nat) (Option.some Jvm.ClassFile.FieldType.boolean)) ∈ Tb := tb_t (tt_1 184 rfl) rfl
theorem t1_185 : (Jvm.Cond.methodLink "BlobStoreLaw" (91 : Nat) ({ cls := "BlobStore", name := "latest", desc := "(II)I" } : Jvm.MethodName)) ∈ Tb := tb_t (tt_1 185 rfl) rfl
theorem t1_186 : (Jvm.Cond.instanceMethod ({ cls := "BlobStore", name := "latest", desc := "(II)I" } : Jvm.MethodName)) ∈ Tb := tb_t (tt_1 186 rfl) rfl
theorem t1_187 : (Jvm.Cond.selects "BlobStore" ({ cls := "BlobStore", name := "latest", desc := "(II)I" } : Jvm.MethodName) ({ cls := "BlobStore", name := "latest", desc := "(II)I" } : Jvm.MethodName)) ∈ Tb := tb_t (tt_1 187 rfl) rfl
theorem t1_188 : (Jvm.Cond.code ({ cls := "BlobStore", name := "latest", desc := "(II)I" } : Jvm.MethodName) prog_1_method_10_code (5 : Nat) (Option.some Jvm.ClassFile.FieldType.int)) ∈ Tb := tb_t (tt_1 188 rfl) rfl
theorem t1_189 : (Jvm.Cond.methodLink "BlobStoreLaw" (95 : Nat) ({ cls := "BlobStore", name := "size", desc := "(I)I" } : Jvm.MethodName)) ∈ Tb := tb_t (tt_1 189 rfl) rfl
theorem t1_190 : (Jvm.Cond.instanceMethod ({ cls := "BlobStore", name := "size", desc := "(I)I" } : Jvm.MethodName)) ∈ Tb := tb_t (tt_1 190 rfl) rfl
theorem t1_191 : (Jvm.Cond.selects "BlobStore" ({ cls := "BlobStore", name := "size", desc := "(I)I" } : Jvm.MethodName) ({ cls := "BlobStore", name := "size", desc := "(I)I" } : Jvm.MethodName)) ∈ Tb := tb_t (tt_1 191 rfl) rfl
theorem t1_192 : (Jvm.Cond.code ({ cls := "BlobStore", name := "size", desc := "(I)I" } : Jvm.MethodName) prog_1_method_11_code (5 : Nat) (Option.some Jvm.ClassFile.FieldType.int)) ∈ Tb := tb_t (tt_1 192 rfl) rfl
theorem t1_193 : (Jvm.Cond.methodLink "BlobStore" (129 : Nat) ({ cls := "BlobStore", name := "livingVersion", desc := "(I)LBlobStore$Version;" } : Jvm.MethodName)) ∈ Tb := tb_t (tt_1 193 rfl) rfl
theorem u1_194 : (Jvm.Cond.privateMethod ({ cls := "BlobStore", name := "livingVersion", desc := "(I)LBlobStore$Version;" } : Jvm.MethodName)) ∈ tables_1 := tt_1 194 rfl
theorem t1_195 : (Jvm.Cond.instanceMethod ({ cls := "BlobStore", name := "livingVersion", desc := "(I)LBlobStore$Version;" } : Jvm.MethodName)) ∈ Tb := tb_t (tt_1 195 rfl) rfl
theorem t1_196 : (Jvm.Cond.code ({ cls := "BlobStore", name := "livingVersion", desc := "(I)LBlobStore$Version;" } : Jvm.MethodName) prog_1_method_19_code (2 : Nat) (Option.some (Jvm.ClassFile.FieldType.object "BlobStore$Version"))) ∈ Tb := tb_t (tt_1 196 rfl) rfl
theorem t1_197 : (Jvm.Cond.methodLink "BlobStoreLaw" (99 : Nat) ({ cls := "BlobStore", name := "byteAt", desc := "(II)I" } : Jvm.MethodName)) ∈ Tb := tb_t (tt_1 197 rfl) rfl
theorem t1_198 : (Jvm.Cond.instanceMethod ({ cls := "BlobStore", name := "byteAt", desc := "(II)I" } : Jvm.MethodName)) ∈ Tb := tb_t (tt_1 198 rfl) rfl
theorem t1_199 : (Jvm.Cond.selects "BlobStore" ({ cls := "BlobStore", name := "byteAt", desc := "(II)I" } : Jvm.MethodName) ({ cls := "BlobStore", name := "byteAt", desc := "(II)I" } : Jvm.MethodName)) ∈ Tb := tb_t (tt_1 199 rfl) rfl
theorem t1_200 : (Jvm.Cond.code ({ cls := "BlobStore", name := "byteAt", desc := "(II)I" } : Jvm.MethodName) prog_1_method_12_code (7 : Nat) (Option.some Jvm.ClassFile.FieldType.int)) ∈ Tb := tb_t (tt_1 200 rfl) rfl
theorem n1_201 : (Jvm.Cond.methodLinkNest "BlobStore" (169 : Nat) ({ cls := "BlobStore$Chunk", name := "byteOf", desc := "(I)I" } : Jvm.MethodName) "BlobStore") ∈ bNst := tn_t (tt_1 201 rfl) rfl
theorem u1_202 : (Jvm.Cond.privateMethod ({ cls := "BlobStore$Chunk", name := "byteOf", desc := "(I)I" } : Jvm.MethodName)) ∈ tables_1 := tt_1 202 rfl
theorem t1_203 : (Jvm.Cond.instanceMethod ({ cls := "BlobStore$Chunk", name := "byteOf", desc := "(I)I" } : Jvm.MethodName)) ∈ Tb := tb_t (tt_1 203 rfl) rfl
theorem t1_204 : (Jvm.Cond.code ({ cls := "BlobStore$Chunk", name := "byteOf", desc := "(I)I" } : Jvm.MethodName) prog_2_method_7_code (2 : Nat) (Option.some Jvm.ClassFile.FieldType.int)) ∈ Tb := tb_t (tt_1 204 rfl) rfl
theorem t1_205 : (Jvm.Cond.methodLink "BlobStoreLaw" (106 : Nat) ({ cls := "BlobStore", name := "needed", desc := "(I)I" } : Jvm.MethodName)) ∈ Tb := tb_t (tt_1 205 rfl) rfl
theorem t1_206 : (Jvm.Cond.instanceMethod ({ cls := "BlobStore", name := "needed", desc := "(I)I" } : Jvm.MethodName)) ∈ Tb := tb_t (tt_1 206 rfl) rfl
theorem t1_207 : (Jvm.Cond.selects "BlobStore" ({ cls := "BlobStore", name := "needed", desc := "(I)I" } : Jvm.MethodName) ({ cls := "BlobStore", name := "needed", desc := "(I)I" } : Jvm.MethodName)) ∈ Tb := tb_t (tt_1 207 rfl) rfl
theorem t1_208 : (Jvm.Cond.code ({ cls := "BlobStore", name := "needed", desc := "(I)I" } : Jvm.MethodName) prog_1_method_14_code (2 : Nat) (Option.some Jvm.ClassFile.FieldType.int)) ∈ Tb := tb_t (tt_1 208 rfl) rfl
theorem t1_209 : (Jvm.Cond.methodLink "BlobStore" (172 : Nat) ({ cls := "BlobStore", name := "hasChunk", desc := "(I)Z" } : Jvm.MethodName)) ∈ Tb := tb_t (tt_1 209 rfl) rfl
theorem u1_210 : (Jvm.Cond.privateMethod ({ cls := "BlobStore", name := "hasChunk", desc := "(I)Z" } : Jvm.MethodName)) ∈ tables_1 := tt_1 210 rfl
theorem t1_211 : (Jvm.Cond.instanceMethod ({ cls := "BlobStore", name := "hasChunk", desc := "(I)Z" } : Jvm.MethodName)) ∈ Tb := tb_t (tt_1 211 rfl) rfl
theorem t1_212 : (Jvm.Cond.code ({ cls := "BlobStore", name := "hasChunk", desc := "(I)Z" } : Jvm.MethodName) prog_1_method_20_code (2 : Nat) (Option.some Jvm.ClassFile.FieldType.boolean)) ∈ Tb := tb_t (tt_1 212 rfl) rfl
theorem n1_213 : (Jvm.Cond.methodLinkNest "BlobStore" (139 : Nat) ({ cls := "BlobStore$Chunk", name := "isFree", desc := "()Z" } : Jvm.MethodName) "BlobStore") ∈ bNst := tn_t (tt_1 213 rfl) rfl
theorem u1_214 : (Jvm.Cond.privateMethod ({ cls := "BlobStore$Chunk", name := "isFree", desc := "()Z" } : Jvm.MethodName)) ∈ tables_1 := tt_1 214 rfl
theorem t1_215 : (Jvm.Cond.instanceMethod ({ cls := "BlobStore$Chunk", name := "isFree", desc := "()Z" } : Jvm.MethodName)) ∈ Tb := tb_t (tt_1 215 rfl) rfl
theorem t1_216 : (Jvm.Cond.code ({ cls := "BlobStore$Chunk", name := "isFree", desc := "()Z" } : Jvm.MethodName) prog_2_method_2_code (1 : Nat) (Option.some Jvm.ClassFile.FieldType.boolean)) ∈ Tb := tb_t (tt_1 216 rfl) rfl
theorem t1_217 : (Jvm.Cond.methodLink "BlobStore" (136 : Nat) ({ cls := "BlobStore", name := "countNeeds", desc := "()V" } : Jvm.MethodName)) ∈ Tb := tb_t (tt_1 217 rfl) rfl
theorem u1_218 : (Jvm.Cond.privateMethod ({ cls := "BlobStore", name := "countNeeds", desc := "()V" } : Jvm.MethodName)) ∈ tables_1 := tt_1 218 rfl
theorem t1_219 : (Jvm.Cond.instanceMethod ({ cls := "BlobStore", name := "countNeeds", desc := "()V" } : Jvm.MethodName)) ∈ Tb := tb_t (tt_1 219 rfl) rfl
theorem t1_220 : (Jvm.Cond.code ({ cls := "BlobStore", name := "countNeeds", desc := "()V" } : Jvm.MethodName) prog_1_method_27_code (2 : Nat) (Option.none : Option Jvm.ClassFile.FieldType)) ∈ Tb := tb_t (tt_1 220 rfl) rfl
theorem t1_221 : (Jvm.Cond.methodLink "BlobStore" (236 : Nat) ({ cls := "java/util/Arrays", name := "fill", desc := "([II)V" } : Jvm.MethodName)) ∈ Tb := tb_t (tt_1 221 rfl) rfl
theorem t1_222 : (Jvm.Cond.static ({ cls := "java/util/Arrays", name := "fill", desc := "([II)V" } : Jvm.MethodName)) ∈ Tb := tb_t (tt_1 222 rfl) rfl
theorem t1_223 : (Jvm.Cond.code ({ cls := "java/util/Arrays", name := "fill", desc := "([II)V" } : Jvm.MethodName) prog_20_method_103_code (4 : Nat) (Option.none : Option Jvm.ClassFile.FieldType)) ∈ Tb := tb_t (tt_1 223 rfl) rfl
theorem n1_224 : (Jvm.Cond.methodLinkNest "BlobStore" (241 : Nat) ({ cls := "BlobStore$Session", name := "countInto", desc := "([I)V" } : Jvm.MethodName) "BlobStore") ∈ bNst := tn_t (tt_1 224 rfl) rfl
theorem u1_225 : (Jvm.Cond.privateMethod ({ cls := "BlobStore$Session", name := "countInto", desc := "([I)V" } : Jvm.MethodName)) ∈ tables_1 := tt_1 225 rfl
theorem t1_226 : (Jvm.Cond.instanceMethod ({ cls := "BlobStore$Session", name := "countInto", desc := "([I)V" } : Jvm.MethodName)) ∈ Tb := tb_t (tt_1 226 rfl) rfl
theorem t1_227 : (Jvm.Cond.code ({ cls := "BlobStore$Session", name := "countInto", desc := "([I)V" } : Jvm.MethodName) prog_5_method_3_code (3 : Nat) (Option.none : Option Jvm.ClassFile.FieldType)) ∈ Tb := tb_t (tt_1 227 rfl) rfl
theorem n1_228 : (Jvm.Cond.methodLinkNest "BlobStore$Session" (34 : Nat) ({ cls := "BlobStore$Row", name := "countInto", desc := "([I)V" } : Jvm.MethodName) "BlobStore") ∈ bNst := tn_t (tt_1 228 rfl) rfl
theorem u1_229 : (Jvm.Cond.privateMethod ({ cls := "BlobStore$Row", name := "countInto", desc := "([I)V" } : Jvm.MethodName)) ∈ tables_1 := tt_1 229 rfl
theorem t1_230 : (Jvm.Cond.instanceMethod ({ cls := "BlobStore$Row", name := "countInto", desc := "([I)V" } : Jvm.MethodName)) ∈ Tb := tb_t (tt_1 230 rfl) rfl
theorem t1_231 : (Jvm.Cond.code ({ cls := "BlobStore$Row", name := "countInto", desc := "([I)V" } : Jvm.MethodName) prog_4_method_5_code (3 : Nat) (Option.none : Option Jvm.ClassFile.FieldType)) ∈ Tb := tb_t (tt_1 231 rfl) rfl
theorem n1_232 : (Jvm.Cond.methodLinkNest "BlobStore" (245 : Nat) ({ cls := "BlobStore$Row", name := "countInto", desc := "([I)V" } : Jvm.MethodName) "BlobStore") ∈ bNst := tn_t (tt_1 232 rfl) rfl
theorem t1_233 : (Jvm.Cond.methodLink "BlobStoreLaw" (110 : Nat) ({ cls := "BlobStore", name := "slotOf", desc := "(IJ)I" } : Jvm.MethodName)) ∈ Tb := tb_t (tt_1 233 rfl) rfl
theorem t1_234 : (Jvm.Cond.instanceMethod ({ cls := "BlobStore", name := "slotOf", desc := "(IJ)I" } : Jvm.MethodName)) ∈ Tb := tb_t (tt_1 234 rfl) rfl
theorem t1_235 : (Jvm.Cond.selects "BlobStore" ({ cls := "BlobStore", name := "slotOf", desc := "(IJ)I" } : Jvm.MethodName) ({ cls := "BlobStore", name := "slotOf", desc := "(IJ)I" } : Jvm.MethodName)) ∈ Tb := tb_t (tt_1 235 rfl) rfl
theorem t1_236 : (Jvm.Cond.code ({ cls := "BlobStore", name := "slotOf", desc := "(IJ)I" } : Jvm.MethodName) prog_1_method_15_code (4 : Nat) (Option.some Jvm.ClassFile.FieldType.int)) ∈ Tb := tb_t (tt_1 236 rfl) rfl
theorem n1_237 : (Jvm.Cond.methodLinkNest "BlobStore" (184 : Nat) ({ cls := "BlobStore$Chunk", name := "fill", desc := "(IJLBlobStore$Sha256;)V" } : Jvm.MethodName) "BlobStore") ∈ bNst := tn_t (tt_1 237 rfl) rfl
theorem u1_238 : (Jvm.Cond.privateMethod ({ cls := "BlobStore$Chunk", name := "fill", desc := "(IJLBlobStore$Sha256;)V" } : Jvm.MethodName)) ∈ tables_1 := tt_1 238 rfl
theorem t1_239 : (Jvm.Cond.instanceMethod ({ cls := "BlobStore$Chunk", name := "fill", desc := "(IJLBlobStore$Sha256;)V" } : Jvm.MethodName)) ∈ Tb := tb_t (tt_1 239 rfl) rfl
theorem t2_0 : (Jvm.Cond.code ({ cls := "BlobStore$Chunk", name := "fill", desc := "(IJLBlobStore$Sha256;)V" } : Jvm.MethodName) prog_2_method_4_code (5 : Nat) (Option.none : Option Jvm.ClassFile.FieldType)) ∈ Tb := tb_t (tt_2 0 rfl) rfl
theorem t2_1 : (Jvm.Cond.constantLong "BlobStore$Chunk" (23 : Nat) (-1 : Int64)) ∈ Tb := tb_t (tt_2 1 rfl) rfl
theorem n2_2 : (Jvm.Cond.methodLinkNest "BlobStore$Chunk" (25 : Nat) ({ cls := "BlobStore$Sha256", name := "digest", desc := "(IJ[I)V" } : Jvm.MethodName) "BlobStore") ∈ bNst := tn_t (tt_2 2 rfl) rfl
theorem u2_3 : (Jvm.Cond.privateMethod ({ cls := "BlobStore$Sha256", name := "digest", desc := "(IJ[I)V" } : Jvm.MethodName)) ∈ tables_1 := tt_2 3 rfl
theorem t2_4 : (Jvm.Cond.instanceMethod ({ cls := "BlobStore$Sha256", name := "digest", desc := "(IJ[I)V" } : Jvm.MethodName)) ∈ Tb := tb_t (tt_2 4 rfl) rfl
theorem t2_5 : (Jvm.Cond.code ({ cls := "BlobStore$Sha256", name := "digest", desc := "(IJ[I)V" } : Jvm.MethodName) prog_6_method_2_code (5 : Nat) (Option.none : Option Jvm.ClassFile.FieldType)) ∈ Tb := tb_t (tt_2 5 rfl) rfl
theorem t2_6 : (Jvm.Cond.methodLink "BlobStore$Sha256" (15 : Nat) ({ cls := "BlobStore$Sha256", name := "padBlock", desc := "(IJ)V" } : Jvm.MethodName)) ∈ Tb := tb_t (tt_2 6 rfl) rfl
theorem u2_7 : (Jvm.Cond.privateMethod ({ cls := "BlobStore$Sha256", name := "padBlock", desc := "(IJ)V" } : Jvm.MethodName)) ∈ tables_1 := tt_2 7 rfl
theorem t2_8 : (Jvm.Cond.instanceMethod ({ cls := "BlobStore$Sha256", name := "padBlock", desc := "(IJ)V" } : Jvm.MethodName)) ∈ Tb := tb_t (tt_2 8 rfl) rfl
theorem t2_9 : (Jvm.Cond.code ({ cls := "BlobStore$Sha256", name := "padBlock", desc := "(IJ)V" } : Jvm.MethodName) prog_6_method_3_code (7 : Nat) (Option.none : Option Jvm.ClassFile.FieldType)) ∈ Tb := tb_t (tt_2 9 rfl) rfl
theorem t2_10 : (Jvm.Cond.constantLong "BlobStore$Sha256" (26 : Nat) (128 : Int64)) ∈ Tb := tb_t (tt_2 10 rfl) rfl
theorem t2_11 : (Jvm.Cond.constant "BlobStore$Sha256" (28 : Nat) (-2147483648 : Int32)) ∈ Tb := tb_t (tt_2 11 rfl) rfl
theorem t2_12 : (Jvm.Cond.methodLink "BlobStore$Sha256" (19 : Nat) ({ cls := "BlobStore$Sha256", name := "expandBlock", desc := "()V" } : Jvm.MethodName)) ∈ Tb := tb_t (tt_2 12 rfl) rfl
theorem u2_13 : (Jvm.Cond.privateMethod ({ cls := "BlobStore$Sha256", name := "expandBlock", desc := "()V" } : Jvm.MethodName)) ∈ tables_1 := tt_2 13 rfl
theorem t2_14 : (Jvm.Cond.instanceMethod ({ cls := "BlobStore$Sha256", name := "expandBlock", desc := "()V" } : Jvm.MethodName)) ∈ Tb := tb_t (tt_2 14 rfl) rfl
theorem t2_15 : (Jvm.Cond.code ({ cls := "BlobStore$Sha256", name := "expandBlock", desc := "()V" } : Jvm.MethodName) prog_6_method_4_code (6 : Nat) (Option.none : Option Jvm.ClassFile.FieldType)) ∈ Tb := tb_t (tt_2 15 rfl) rfl
theorem t2_16 : (Jvm.Cond.methodLink "BlobStore$Sha256" (29 : Nat) ({ cls := "BlobStore$Sha256", name := "turnRight", desc := "(II)I" } : Jvm.MethodName)) ∈ Tb := tb_t (tt_2 16 rfl) rfl
theorem t2_17 : (Jvm.Cond.static ({ cls := "BlobStore$Sha256", name := "turnRight", desc := "(II)I" } : Jvm.MethodName)) ∈ Tb := tb_t (tt_2 17 rfl) rfl
theorem t2_18 : (Jvm.Cond.code ({ cls := "BlobStore$Sha256", name := "turnRight", desc := "(II)I" } : Jvm.MethodName) prog_6_method_6_code (2 : Nat) (Option.some Jvm.ClassFile.FieldType.int)) ∈ Tb := tb_t (tt_2 18 rfl) rfl
theorem t2_19 : (Jvm.Cond.methodLink "BlobStore$Sha256" (22 : Nat) ({ cls := "BlobStore$Sha256", name := "mixBlock", desc := "([I)V" } : Jvm.MethodName)) ∈ Tb := tb_t (tt_2 19 rfl) rfl
theorem u2_20 : (Jvm.Cond.privateMethod ({ cls := "BlobStore$Sha256", name := "mixBlock", desc := "([I)V" } : Jvm.MethodName)) ∈ tables_1 := tt_2 20 rfl
theorem t2_21 : (Jvm.Cond.instanceMethod ({ cls := "BlobStore$Sha256", name := "mixBlock", desc := "([I)V" } : Jvm.MethodName)) ∈ Tb := tb_t (tt_2 21 rfl) rfl
theorem t2_22 : (Jvm.Cond.code ({ cls := "BlobStore$Sha256", name := "mixBlock", desc := "([I)V" } : Jvm.MethodName) prog_6_method_5_code (16 : Nat) (Option.none : Option Jvm.ClassFile.FieldType)) ∈ Tb := tb_t (tt_2 22 rfl) rfl
theorem t2_23 : (Jvm.Cond.fieldLink "BlobStore$Sha256" (33 : Nat) "BlobStore$Sha256" "FIRST_HASH" "[I") ∈ Tb := tb_t (tt_2 23 rfl) rfl
theorem u2_24 : (Jvm.Cond.laysStatic "BlobStore$Sha256" "FIRST_HASH" "[I") ∈ tables_1 := tt_2 24 rfl
theorem t2_25 : (Jvm.Cond.fieldLink "BlobStore$Sha256" (36 : Nat) "BlobStore$Sha256" "ROUND_WORDS" "[I") ∈ Tb := tb_t (tt_2 25 rfl) rfl
theorem u2_26 : (Jvm.Cond.laysStatic "BlobStore$Sha256" "ROUND_WORDS" "[I") ∈ tables_1 := tt_2 26 rfl
theorem t2_27 : (Jvm.Cond.methodLink "BlobStore" (188 : Nat) ({ cls := "BlobStore", name := "slotWith", desc := "(LBlobStore$Chunk;)I" } : Jvm.MethodName)) ∈ Tb := tb_t (tt_2 27 rfl) rfl
theorem u2_28 : (Jvm.Cond.privateMethod ({ cls := "BlobStore", name := "slotWith", desc := "(LBlobStore$Chunk;)I" } : Jvm.MethodName)) ∈ tables_1 := tt_2 28 rfl
theorem t2_29 : (Jvm.Cond.instanceMethod ({ cls := "BlobStore", name := "slotWith", desc := "(LBlobStore$Chunk;)I" } : Jvm.MethodName)) ∈ Tb := tb_t (tt_2 29 rfl) rfl
theorem t2_30 : (Jvm.Cond.code ({ cls := "BlobStore", name := "slotWith", desc := "(LBlobStore$Chunk;)I" } : Jvm.MethodName) prog_1_method_21_code (3 : Nat) (Option.some Jvm.ClassFile.FieldType.int)) ∈ Tb := tb_t (tt_2 30 rfl) rfl
theorem n2_31 : (Jvm.Cond.methodLinkNest "BlobStore" (209 : Nat) ({ cls := "BlobStore$Chunk", name := "isLike", desc := "(LBlobStore$Chunk;)Z" } : Jvm.MethodName) "BlobStore") ∈ bNst := tn_t (tt_2 31 rfl) rfl
theorem u2_32 : (Jvm.Cond.privateMethod ({ cls := "BlobStore$Chunk", name := "isLike", desc := "(LBlobStore$Chunk;)Z" } : Jvm.MethodName)) ∈ tables_1 := tt_2 32 rfl
theorem t2_33 : (Jvm.Cond.instanceMethod ({ cls := "BlobStore$Chunk", name := "isLike", desc := "(LBlobStore$Chunk;)Z" } : Jvm.MethodName)) ∈ Tb := tb_t (tt_2 33 rfl) rfl
theorem t2_34 : (Jvm.Cond.code ({ cls := "BlobStore$Chunk", name := "isLike", desc := "(LBlobStore$Chunk;)Z" } : Jvm.MethodName) prog_2_method_6_code (3 : Nat) (Option.some Jvm.ClassFile.FieldType.boolean)) ∈ Tb := tb_t (tt_2 34 rfl) rfl
theorem t2_35 : (Jvm.Cond.methodLink "BlobStoreLaw" (115 : Nat) ({ cls := "BlobStore", name := "state", desc := "(I)I" } : Jvm.MethodName)) ∈ Tb := tb_t (tt_2 35 rfl) rfl
theorem t2_36 : (Jvm.Cond.instanceMethod ({ cls := "BlobStore", name := "state", desc := "(I)I" } : Jvm.MethodName)) ∈ Tb := tb_t (tt_2 36 rfl) rfl
theorem t2_37 : (Jvm.Cond.selects "BlobStore" ({ cls := "BlobStore", name := "state", desc := "(I)I" } : Jvm.MethodName) ({ cls := "BlobStore", name := "state", desc := "(I)I" } : Jvm.MethodName)) ∈ Tb := tb_t (tt_2 37 rfl) rfl
theorem t2_38 : (Jvm.Cond.code ({ cls := "BlobStore", name := "state", desc := "(I)I" } : Jvm.MethodName) prog_1_method_16_code (2 : Nat) (Option.some Jvm.ClassFile.FieldType.int)) ∈ Tb := tb_t (tt_2 38 rfl) rfl
theorem t2_39 : (Jvm.Cond.methodLink "BlobStore" (192 : Nat) ({ cls := "BlobStore", name := "countChunks", desc := "()I" } : Jvm.MethodName)) ∈ Tb := tb_t (tt_2 39 rfl) rfl
theorem u2_40 : (Jvm.Cond.privateMethod ({ cls := "BlobStore", name := "countChunks", desc := "()I" } : Jvm.MethodName)) ∈ tables_1 := tt_2 40 rfl
theorem t2_41 : (Jvm.Cond.instanceMethod ({ cls := "BlobStore", name := "countChunks", desc := "()I" } : Jvm.MethodName)) ∈ Tb := tb_t (tt_2 41 rfl) rfl
theorem t2_42 : (Jvm.Cond.code ({ cls := "BlobStore", name := "countChunks", desc := "()I" } : Jvm.MethodName) prog_1_method_28_code (3 : Nat) (Option.some Jvm.ClassFile.FieldType.int)) ∈ Tb := tb_t (tt_2 42 rfl) rfl
theorem t2_43 : (Jvm.Cond.methodLink "BlobStore" (195 : Nat) ({ cls := "BlobStore", name := "countOpenSessions", desc := "()I" } : Jvm.MethodName)) ∈ Tb := tb_t (tt_2 43 rfl) rfl
theorem u2_44 : (Jvm.Cond.privateMethod ({ cls := "BlobStore", name := "countOpenSessions", desc := "()I" } : Jvm.MethodName)) ∈ tables_1 := tt_2 44 rfl
theorem t2_45 : (Jvm.Cond.instanceMethod ({ cls := "BlobStore", name := "countOpenSessions", desc := "()I" } : Jvm.MethodName)) ∈ Tb := tb_t (tt_2 45 rfl) rfl
theorem t2_46 : (Jvm.Cond.code ({ cls := "BlobStore", name := "countOpenSessions", desc := "()I" } : Jvm.MethodName) prog_1_method_29_code (3 : Nat) (Option.some Jvm.ClassFile.FieldType.int)) ∈ Tb := tb_t (tt_2 46 rfl) rfl
theorem t2_47 : (Jvm.Cond.methodLink "BlobStore" (198 : Nat) ({ cls := "BlobStore", name := "countLivingVersions", desc := "()I" } : Jvm.MethodName)) ∈ Tb := tb_t (tt_2 47 rfl) rfl
theorem u2_48 : (Jvm.Cond.privateMethod ({ cls := "BlobStore", name := "countLivingVersions", desc := "()I" } : Jvm.MethodName)) ∈ tables_1 := tt_2 48 rfl
theorem t2_49 : (Jvm.Cond.instanceMethod ({ cls := "BlobStore", name := "countLivingVersions", desc := "()I" } : Jvm.MethodName)) ∈ Tb := tb_t (tt_2 49 rfl) rfl
theorem t2_50 : (Jvm.Cond.code ({ cls := "BlobStore", name := "countLivingVersions", desc := "()I" } : Jvm.MethodName) prog_1_method_30_code (3 : Nat) (Option.some Jvm.ClassFile.FieldType.int)) ∈ Tb := tb_t (tt_2 50 rfl) rfl
theorem t2_51 : (Jvm.Cond.methodLink "BlobStoreLaw" (53 : Nat) ({ cls := "BlobStoreLaw", name := "begin", desc := "(LBlobStore;II[J)I" } : Jvm.MethodName)) ∈ Tb := tb_t (tt_2 51 rfl) rfl
theorem t2_52 : (Jvm.Cond.static ({ cls := "BlobStoreLaw", name := "begin", desc := "(LBlobStore;II[J)I" } : Jvm.MethodName)) ∈ Tb := tb_t (tt_2 52 rfl) rfl
theorem t2_53 : (Jvm.Cond.codeWith ({ cls := "BlobStoreLaw", name := "begin", desc := "(LBlobStore;II[J)I" } : Jvm.MethodName) method_3_code (5 : Nat) (Option.some Jvm.ClassFile.FieldType.int) [((0 : Nat), (10 : Nat), (13 : Nat), (13 : Nat)), ((0 : Nat), (10 : Nat), (17 : Nat), (15 : Nat)), ((0 : Nat), (10 : Nat), (21 : Nat), (17 : Nat))]) ∈ Tb := tb_t (tt_2 53 rfl) rfl
theorem t2_54 : (Jvm.Cond.classLink "BlobStoreLaw" (13 : Nat) "java/lang/IllegalStateException") ∈ Tb := tb_t (tt_2 54 rfl) rfl
theorem t2_55 : (Jvm.Cond.classLink "BlobStoreLaw" (15 : Nat) "java/lang/IllegalArgumentException") ∈ Tb := tb_t (tt_2 55 rfl) rfl
theorem t2_56 : (Jvm.Cond.classLink "BlobStoreLaw" (17 : Nat) "java/lang/UnsupportedOperationException") ∈ Tb := tb_t (tt_2 56 rfl) rfl
theorem t2_57 : (Jvm.Cond.methodLink "BlobStoreLaw" (7 : Nat) ({ cls := "BlobStore", name := "begin", desc := "(II)I" } : Jvm.MethodName)) ∈ Tb := tb_t (tt_2 57 rfl) rfl
theorem t2_58 : (Jvm.Cond.instanceMethod ({ cls := "BlobStore", name := "begin", desc := "(II)I" } : Jvm.MethodName)) ∈ Tb := tb_t (tt_2 58 rfl) rfl
theorem t2_59 : (Jvm.Cond.selects "BlobStore" ({ cls := "BlobStore", name := "begin", desc := "(II)I" } : Jvm.MethodName) ({ cls := "BlobStore", name := "begin", desc := "(II)I" } : Jvm.MethodName)) ∈ Tb := tb_t (tt_2 59 rfl) rfl
theorem t2_60 : (Jvm.Cond.code ({ cls := "BlobStore", name := "begin", desc := "(II)I" } : Jvm.MethodName) prog_1_method_2_code (4 : Nat) (Option.some Jvm.ClassFile.FieldType.int)) ∈ Tb := tb_t (tt_2 60 rfl) rfl
theorem n2_61 : (Jvm.Cond.methodLinkNest "BlobStore" (68 : Nat) ({ cls := "BlobStore$Power", name := "requireOn", desc := "()V" } : Jvm.MethodName) "BlobStore") ∈ bNst := tn_t (tt_2 61 rfl) rfl
theorem u2_62 : (Jvm.Cond.privateMethod ({ cls := "BlobStore$Power", name := "requireOn", desc := "()V" } : Jvm.MethodName)) ∈ tables_1 := tt_2 62 rfl
theorem t2_63 : (Jvm.Cond.instanceMethod ({ cls := "BlobStore$Power", name := "requireOn", desc := "()V" } : Jvm.MethodName)) ∈ Tb := tb_t (tt_2 63 rfl) rfl
theorem t2_64 : (Jvm.Cond.code ({ cls := "BlobStore$Power", name := "requireOn", desc := "()V" } : Jvm.MethodName) prog_3_method_2_code (1 : Nat) (Option.none : Option Jvm.ClassFile.FieldType)) ∈ Tb := tb_t (tt_2 64 rfl) rfl
theorem t2_65 : (Jvm.Cond.classLink "BlobStore$Power" (20 : Nat) "java/lang/IllegalStateException") ∈ Tb := tb_t (tt_2 65 rfl) rfl
theorem t2_66 : (Jvm.Cond.instantiable "java/lang/IllegalStateException" (6 : Nat)) ∈ Tb := tb_t (tt_2 66 rfl) rfl
theorem n2_67 : (Jvm.Cond.castable "java/lang/IllegalStateException" "java/lang/IllegalStateException") ∈ bNst := tn_t (tt_2 67 rfl) rfl
theorem n2_68 : (Jvm.Cond.declares ({ cls := "java/lang/RuntimeException", name := "<init>", desc := "()V" } : Jvm.MethodName)) ∈ bNst := tn_t (tt_2 68 rfl) rfl
theorem n2_69 : (Jvm.Cond.declares ({ cls := "java/lang/RuntimeException", name := "<init>", desc := "(Ljava/lang/String;)V" } : Jvm.MethodName)) ∈ bNst := tn_t (tt_2 69 rfl) rfl
theorem n2_70 : (Jvm.Cond.declares ({ cls := "java/lang/Exception", name := "<init>", desc := "()V" } : Jvm.MethodName)) ∈ bNst := tn_t (tt_2 70 rfl) rfl
theorem n2_71 : (Jvm.Cond.declares ({ cls := "java/lang/Exception", name := "<init>", desc := "(Ljava/lang/String;)V" } : Jvm.MethodName)) ∈ bNst := tn_t (tt_2 71 rfl) rfl
theorem n2_72 : (Jvm.Cond.declares ({ cls := "java/lang/Throwable", name := "<init>", desc := "()V" } : Jvm.MethodName)) ∈ bNst := tn_t (tt_2 72 rfl) rfl
theorem n2_73 : (Jvm.Cond.declares ({ cls := "java/lang/Throwable", name := "<init>", desc := "(Ljava/lang/String;)V" } : Jvm.MethodName)) ∈ bNst := tn_t (tt_2 73 rfl) rfl
theorem t2_74 : (Jvm.Cond.selects "java/lang/IllegalStateException" ({ cls := "java/lang/Throwable", name := "fillInStackTrace", desc := "(I)Ljava/lang/Throwable;" } : Jvm.MethodName) ({ cls := "java/lang/Throwable", name := "fillInStackTrace", desc := "(I)Ljava/lang/Throwable;" } : Jvm.MethodName)) ∈ Tb := tb_t (tt_2 74 rfl) rfl
theorem t2_75 : (Jvm.Cond.selects "java/lang/IllegalStateException" ({ cls := "java/lang/Throwable", name := "fillInStackTrace", desc := "()Ljava/lang/Throwable;" } : Jvm.MethodName) ({ cls := "java/lang/Throwable", name := "fillInStackTrace", desc := "()Ljava/lang/Throwable;" } : Jvm.MethodName)) ∈ Tb := tb_t (tt_2 75 rfl) rfl
theorem t2_76 : (Jvm.Cond.lays "java/lang/IllegalStateException" "java/lang/Throwable" "cause" "Ljava/lang/Throwable;") ∈ Tb := tb_t (tt_2 76 rfl) rfl
theorem t2_77 : (Jvm.Cond.lays "java/lang/Throwable" "java/lang/Throwable" "cause" "Ljava/lang/Throwable;") ∈ Tb := tb_t (tt_2 77 rfl) rfl
theorem t2_78 : (Jvm.Cond.lays "java/lang/IllegalStateException" "java/lang/Throwable" "stackTrace" "[Ljava/lang/StackTraceElement;") ∈ Tb := tb_t (tt_2 78 rfl) rfl
theorem t2_79 : (Jvm.Cond.lays "java/lang/Throwable" "java/lang/Throwable" "stackTrace" "[Ljava/lang/StackTraceElement;") ∈ Tb := tb_t (tt_2 79 rfl) rfl
theorem t2_80 : (Jvm.Cond.lays "java/lang/IllegalStateException" "java/lang/Throwable" "suppressedExceptions" "Ljava/util/List;") ∈ Tb := tb_t (tt_2 80 rfl) rfl
theorem t2_81 : (Jvm.Cond.lays "java/lang/Throwable" "java/lang/Throwable" "suppressedExceptions" "Ljava/util/List;") ∈ Tb := tb_t (tt_2 81 rfl) rfl
theorem t2_82 : (Jvm.Cond.lays "java/lang/IllegalStateException" "java/lang/Throwable" "detailMessage" "Ljava/lang/String;") ∈ Tb := tb_t (tt_2 82 rfl) rfl
theorem t2_83 : (Jvm.Cond.lays "java/lang/Throwable" "java/lang/Throwable" "detailMessage" "Ljava/lang/String;") ∈ Tb := tb_t (tt_2 83 rfl) rfl
theorem t2_84 : (Jvm.Cond.lays "java/lang/IllegalStateException" "java/lang/Throwable" "backtrace" "Ljava/lang/Object;") ∈ Tb := tb_t (tt_2 84 rfl) rfl
theorem t2_85 : (Jvm.Cond.lays "java/lang/Throwable" "java/lang/Throwable" "backtrace" "Ljava/lang/Object;") ∈ Tb := tb_t (tt_2 85 rfl) rfl
theorem t2_86 : (Jvm.Cond.fieldLink "java/lang/Throwable" (198 : Nat) "java/lang/Throwable" "backtrace" "Ljava/lang/Object;") ∈ Tb := tb_t (tt_2 86 rfl) rfl
theorem t2_87 : (Jvm.Cond.superclass "java/lang/Throwable" "java/lang/Object") ∈ Tb := tb_t (tt_2 87 rfl) rfl
theorem t2_88 : (Jvm.Cond.instanceMethod ({ cls := "java/lang/Throwable", name := "<init>", desc := "()V" } : Jvm.MethodName)) ∈ Tb := tb_t (tt_2 88 rfl) rfl
theorem t2_89 : (Jvm.Cond.code ({ cls := "java/lang/Throwable", name := "<init>", desc := "()V" } : Jvm.MethodName) prog_18_method_1_code (1 : Nat) (Option.none : Option Jvm.ClassFile.FieldType)) ∈ Tb := tb_t (tt_2 89 rfl) rfl
theorem t2_90 : (Jvm.Cond.methodLink "java/lang/Throwable" (1 : Nat) ({ cls := "java/lang/Object", name := "<init>", desc := "()V" } : Jvm.MethodName)) ∈ Tb := tb_t (tt_2 90 rfl) rfl
theorem t2_91 : (Jvm.Cond.fieldLink "java/lang/Throwable" (13 : Nat) "java/lang/Throwable" "UNASSIGNED_STACK" "[Ljava/lang/StackTraceElement;") ∈ Tb := tb_t (tt_2 91 rfl) rfl
theorem u2_92 : (Jvm.Cond.laysStatic "java/lang/Throwable" "UNASSIGNED_STACK" "[Ljava/lang/StackTraceElement;") ∈ tables_1 := tt_2 92 rfl
theorem t2_93 : (Jvm.Cond.fieldLink "java/lang/Throwable" (20 : Nat) "java/lang/Throwable" "SUPPRESSED_SENTINEL" "Ljava/util/List;") ∈ Tb := tb_t (tt_2 93 rfl) rfl
theorem u2_94 : (Jvm.Cond.laysStatic "java/lang/Throwable" "SUPPRESSED_SENTINEL" "Ljava/util/List;") ∈ tables_1 := tt_2 94 rfl
theorem t2_95 : (Jvm.Cond.methodLink "java/lang/Throwable" (27 : Nat) ({ cls := "java/lang/Throwable", name := "fillInStackTrace", desc := "()Ljava/lang/Throwable;" } : Jvm.MethodName)) ∈ Tb := tb_t (tt_2 95 rfl) rfl
theorem t2_96 : (Jvm.Cond.instanceMethod ({ cls := "java/lang/Throwable", name := "fillInStackTrace", desc := "()Ljava/lang/Throwable;" } : Jvm.MethodName)) ∈ Tb := tb_t (tt_2 96 rfl) rfl
theorem u2_97 : (Jvm.Cond.sameMethod "java/lang/Throwable" "java/lang/Throwable" "fillInStackTrace" "()Ljava/lang/Throwable;") ∈ tables_1 := tt_2 97 rfl
theorem t2_98 : (Jvm.Cond.selects "java/lang/IllegalArgumentException" ({ cls := "java/lang/Throwable", name := "fillInStackTrace", desc := "()Ljava/lang/Throwable;" } : Jvm.MethodName) ({ cls := "java/lang/Throwable", name := "fillInStackTrace", desc := "()Ljava/lang/Throwable;" } : Jvm.MethodName)) ∈ Tb := tb_t (tt_2 98 rfl) rfl
theorem t2_99 : (Jvm.Cond.selects "java/lang/IndexOutOfBoundsException" ({ cls := "java/lang/Throwable", name := "fillInStackTrace", desc := "()Ljava/lang/Throwable;" } : Jvm.MethodName) ({ cls := "java/lang/Throwable", name := "fillInStackTrace", desc := "()Ljava/lang/Throwable;" } : Jvm.MethodName)) ∈ Tb := tb_t (tt_2 99 rfl) rfl
theorem t2_100 : (Jvm.Cond.selects "java/lang/UnsupportedOperationException" ({ cls := "java/lang/Throwable", name := "fillInStackTrace", desc := "()Ljava/lang/Throwable;" } : Jvm.MethodName) ({ cls := "java/lang/Throwable", name := "fillInStackTrace", desc := "()Ljava/lang/Throwable;" } : Jvm.MethodName)) ∈ Tb := tb_t (tt_2 100 rfl) rfl
theorem t2_101 : (Jvm.Cond.selects "java/util/NoSuchElementException" ({ cls := "java/lang/Throwable", name := "fillInStackTrace", desc := "()Ljava/lang/Throwable;" } : Jvm.MethodName) ({ cls := "java/lang/Throwable", name := "fillInStackTrace", desc := "()Ljava/lang/Throwable;" } : Jvm.MethodName)) ∈ Tb := tb_t (tt_2 101 rfl) rfl
theorem t2_102 : (Jvm.Cond.codeSync ({ cls := "java/lang/Throwable", name := "fillInStackTrace", desc := "()Ljava/lang/Throwable;" } : Jvm.MethodName) prog_18_method_18_code (1 : Nat) (Option.some (Jvm.ClassFile.FieldType.object "java/lang/Throwable"))) ∈ Tb := tb_t (tt_2 102 rfl) rfl
theorem t2_103 : (Jvm.Cond.methodLink "java/lang/Throwable" (202 : Nat) ({ cls := "java/lang/Throwable", name := "fillInStackTrace", desc := "(I)Ljava/lang/Throwable;" } : Jvm.MethodName)) ∈ Tb := tb_t (tt_2 103 rfl) rfl
theorem u2_104 : (Jvm.Cond.privateMethod ({ cls := "java/lang/Throwable", name := "fillInStackTrace", desc := "(I)Ljava/lang/Throwable;" } : Jvm.MethodName)) ∈ tables_1 := tt_2 104 rfl
theorem t2_105 : (Jvm.Cond.instanceMethod ({ cls := "java/lang/Throwable", name := "fillInStackTrace", desc := "(I)Ljava/lang/Throwable;" } : Jvm.MethodName)) ∈ Tb := tb_t (tt_2 105 rfl) rfl
theorem t2_106 : (Jvm.Cond.instantiable "java/lang/Throwable" (6 : Nat)) ∈ Tb := tb_t (tt_2 106 rfl) rfl
theorem t2_107 : (Jvm.Cond.native ({ cls := "java/lang/Throwable", name := "fillInStackTrace", desc := "(I)Ljava/lang/Throwable;" } : Jvm.MethodName)) ∈ Tb := tb_t (tt_2 107 rfl) rfl
theorem u2_108 : (Jvm.Cond.stringRef "BlobStore$Power" (22 : Nat) "the store is down") ∈ tables_1 := tt_2 108 rfl
theorem t2_109 : (Jvm.Cond.methodLink "BlobStore$Power" (24 : Nat) ({ cls := "java/lang/IllegalStateException", name := "<init>", desc := "(Ljava/lang/String;)V" } : Jvm.MethodName)) ∈ Tb := tb_t (tt_2 109 rfl) rfl
theorem t2_110 : (Jvm.Cond.instanceMethod ({ cls := "java/lang/IllegalStateException", name := "<init>", desc := "(Ljava/lang/String;)V" } : Jvm.MethodName)) ∈ Tb := tb_t (tt_2 110 rfl) rfl
theorem t2_111 : (Jvm.Cond.code ({ cls := "java/lang/IllegalStateException", name := "<init>", desc := "(Ljava/lang/String;)V" } : Jvm.MethodName) prog_12_method_2_code (2 : Nat) (Option.none : Option Jvm.ClassFile.FieldType)) ∈ Tb := tb_t (tt_2 111 rfl) rfl
theorem t2_112 : (Jvm.Cond.methodLink "java/lang/IllegalStateException" (7 : Nat) ({ cls := "java/lang/RuntimeException", name := "<init>", desc := "(Ljava/lang/String;)V" } : Jvm.MethodName)) ∈ Tb := tb_t (tt_2 112 rfl) rfl
theorem t2_113 : (Jvm.Cond.instanceMethod ({ cls := "java/lang/RuntimeException", name := "<init>", desc := "(Ljava/lang/String;)V" } : Jvm.MethodName)) ∈ Tb := tb_t (tt_2 113 rfl) rfl
theorem t2_114 : (Jvm.Cond.code ({ cls := "java/lang/RuntimeException", name := "<init>", desc := "(Ljava/lang/String;)V" } : Jvm.MethodName) prog_15_method_2_code (2 : Nat) (Option.none : Option Jvm.ClassFile.FieldType)) ∈ Tb := tb_t (tt_2 114 rfl) rfl
theorem t2_115 : (Jvm.Cond.methodLink "java/lang/RuntimeException" (7 : Nat) ({ cls := "java/lang/Exception", name := "<init>", desc := "(Ljava/lang/String;)V" } : Jvm.MethodName)) ∈ Tb := tb_t (tt_2 115 rfl) rfl
theorem t2_116 : (Jvm.Cond.instanceMethod ({ cls := "java/lang/Exception", name := "<init>", desc := "(Ljava/lang/String;)V" } : Jvm.MethodName)) ∈ Tb := tb_t (tt_2 116 rfl) rfl
theorem t2_117 : (Jvm.Cond.code ({ cls := "java/lang/Exception", name := "<init>", desc := "(Ljava/lang/String;)V" } : Jvm.MethodName) prog_10_method_2_code (2 : Nat) (Option.none : Option Jvm.ClassFile.FieldType)) ∈ Tb := tb_t (tt_2 117 rfl) rfl
theorem t2_118 : (Jvm.Cond.methodLink "java/lang/Exception" (7 : Nat) ({ cls := "java/lang/Throwable", name := "<init>", desc := "(Ljava/lang/String;)V" } : Jvm.MethodName)) ∈ Tb := tb_t (tt_2 118 rfl) rfl
theorem t2_119 : (Jvm.Cond.instanceMethod ({ cls := "java/lang/Throwable", name := "<init>", desc := "(Ljava/lang/String;)V" } : Jvm.MethodName)) ∈ Tb := tb_t (tt_2 119 rfl) rfl
theorem t2_120 : (Jvm.Cond.code ({ cls := "java/lang/Throwable", name := "<init>", desc := "(Ljava/lang/String;)V" } : Jvm.MethodName) prog_18_method_2_code (2 : Nat) (Option.none : Option Jvm.ClassFile.FieldType)) ∈ Tb := tb_t (tt_2 120 rfl) rfl
theorem t2_122 : (Jvm.Cond.fieldLink "java/lang/Throwable" (31 : Nat) "java/lang/Throwable" "detailMessage" "Ljava/lang/String;") ∈ Tb := tb_t (tt_2 122 rfl) rfl
theorem t2_123 : (Jvm.Cond.fieldLink "java/lang/Throwable" (7 : Nat) "java/lang/Throwable" "cause" "Ljava/lang/Throwable;") ∈ Tb := tb_t (tt_2 123 rfl) rfl
theorem t2_124 : (Jvm.Cond.fieldLink "java/lang/Throwable" (17 : Nat) "java/lang/Throwable" "stackTrace" "[Ljava/lang/StackTraceElement;") ∈ Tb := tb_t (tt_2 124 rfl) rfl
theorem t2_125 : (Jvm.Cond.fieldLink "java/lang/Throwable" (24 : Nat) "java/lang/Throwable" "suppressedExceptions" "Ljava/util/List;") ∈ Tb := tb_t (tt_2 125 rfl) rfl
theorem u2_126 : (Jvm.Cond.soleField "java/lang/Throwable" "backtrace") ∈ tables_1 := tt_2 126 rfl
theorem u2_127 : (Jvm.Cond.soleField "java/lang/Throwable" "detailMessage") ∈ tables_1 := tt_2 127 rfl
theorem u2_128 : (Jvm.Cond.soleField "java/lang/Throwable" "cause") ∈ tables_1 := tt_2 128 rfl
theorem u2_129 : (Jvm.Cond.soleField "java/lang/Throwable" "stackTrace") ∈ tables_1 := tt_2 129 rfl
theorem t2_130 : (Jvm.Cond.lays "java/lang/IllegalStateException" "java/lang/Throwable" "depth" "I") ∈ Tb := tb_t (tt_2 130 rfl) rfl
theorem u2_131 : (Jvm.Cond.soleField "java/lang/Throwable" "depth") ∈ tables_1 := tt_2 131 rfl
theorem u2_132 : (Jvm.Cond.soleField "java/lang/Throwable" "suppressedExceptions") ∈ tables_1 := tt_2 132 rfl
theorem t2_133 : (Jvm.Cond.superclass "java/lang/IllegalStateException" "java/lang/RuntimeException") ∈ Tb := tb_t (tt_2 133 rfl) rfl
theorem t2_134 : (Jvm.Cond.arrayClass Jvm.ClassFile.FieldType.byte) ∈ Tb := tb_t (tt_2 134 rfl) rfl
theorem t2_135 : (Jvm.Cond.methodLink "BlobStore" (71 : Nat) ({ cls := "BlobStore", name := "leastClosedSession", desc := "()I" } : Jvm.MethodName)) ∈ Tb := tb_t (tt_2 135 rfl) rfl
theorem u2_136 : (Jvm.Cond.privateMethod ({ cls := "BlobStore", name := "leastClosedSession", desc := "()I" } : Jvm.MethodName)) ∈ tables_1 := tt_2 136 rfl
theorem t2_137 : (Jvm.Cond.instanceMethod ({ cls := "BlobStore", name := "leastClosedSession", desc := "()I" } : Jvm.MethodName)) ∈ Tb := tb_t (tt_2 137 rfl) rfl
theorem t2_138 : (Jvm.Cond.code ({ cls := "BlobStore", name := "leastClosedSession", desc := "()I" } : Jvm.MethodName) prog_1_method_17_code (2 : Nat) (Option.some Jvm.ClassFile.FieldType.int)) ∈ Tb := tb_t (tt_2 138 rfl) rfl
theorem t2_139 : (Jvm.Cond.classLink "BlobStore" (75 : Nat) "java/lang/IllegalStateException") ∈ Tb := tb_t (tt_2 139 rfl) rfl
theorem u2_140 : (Jvm.Cond.stringRef "BlobStore" (77 : Nat) "all sessions are open") ∈ tables_1 := tt_2 140 rfl
theorem t2_141 : (Jvm.Cond.methodLink "BlobStore" (79 : Nat) ({ cls := "java/lang/IllegalStateException", name := "<init>", desc := "(Ljava/lang/String;)V" } : Jvm.MethodName)) ∈ Tb := tb_t (tt_2 141 rfl) rfl
theorem t2_142 : (Jvm.Cond.classLink "BlobStore" (82 : Nat) "java/lang/IllegalArgumentException") ∈ Tb := tb_t (tt_2 142 rfl) rfl
theorem t2_143 : (Jvm.Cond.instantiable "java/lang/IllegalArgumentException" (6 : Nat)) ∈ Tb := tb_t (tt_2 143 rfl) rfl
theorem n2_144 : (Jvm.Cond.castable "java/lang/IllegalArgumentException" "java/lang/IllegalArgumentException") ∈ bNst := tn_t (tt_2 144 rfl) rfl
theorem t2_145 : (Jvm.Cond.selects "java/lang/IllegalArgumentException" ({ cls := "java/lang/Throwable", name := "fillInStackTrace", desc := "(I)Ljava/lang/Throwable;" } : Jvm.MethodName) ({ cls := "java/lang/Throwable", name := "fillInStackTrace", desc := "(I)Ljava/lang/Throwable;" } : Jvm.MethodName)) ∈ Tb := tb_t (tt_2 145 rfl) rfl
theorem t2_146 : (Jvm.Cond.lays "java/lang/IllegalArgumentException" "java/lang/Throwable" "cause" "Ljava/lang/Throwable;") ∈ Tb := tb_t (tt_2 146 rfl) rfl
theorem t2_147 : (Jvm.Cond.lays "java/lang/IllegalArgumentException" "java/lang/Throwable" "stackTrace" "[Ljava/lang/StackTraceElement;") ∈ Tb := tb_t (tt_2 147 rfl) rfl
theorem t2_148 : (Jvm.Cond.lays "java/lang/IllegalArgumentException" "java/lang/Throwable" "suppressedExceptions" "Ljava/util/List;") ∈ Tb := tb_t (tt_2 148 rfl) rfl
theorem t2_149 : (Jvm.Cond.lays "java/lang/IllegalArgumentException" "java/lang/Throwable" "detailMessage" "Ljava/lang/String;") ∈ Tb := tb_t (tt_2 149 rfl) rfl
theorem t2_150 : (Jvm.Cond.lays "java/lang/IllegalArgumentException" "java/lang/Throwable" "backtrace" "Ljava/lang/Object;") ∈ Tb := tb_t (tt_2 150 rfl) rfl
theorem u2_151 : (Jvm.Cond.stringRef "BlobStore" (84 : Nat) "no such bucket or key") ∈ tables_1 := tt_2 151 rfl
theorem t2_152 : (Jvm.Cond.methodLink "BlobStore" (86 : Nat) ({ cls := "java/lang/IllegalArgumentException", name := "<init>", desc := "(Ljava/lang/String;)V" } : Jvm.MethodName)) ∈ Tb := tb_t (tt_2 152 rfl) rfl
theorem t2_153 : (Jvm.Cond.instanceMethod ({ cls := "java/lang/IllegalArgumentException", name := "<init>", desc := "(Ljava/lang/String;)V" } : Jvm.MethodName)) ∈ Tb := tb_t (tt_2 153 rfl) rfl
theorem t2_154 : (Jvm.Cond.code ({ cls := "java/lang/IllegalArgumentException", name := "<init>", desc := "(Ljava/lang/String;)V" } : Jvm.MethodName) prog_11_method_2_code (2 : Nat) (Option.none : Option Jvm.ClassFile.FieldType)) ∈ Tb := tb_t (tt_2 154 rfl) rfl
theorem t2_155 : (Jvm.Cond.methodLink "java/lang/IllegalArgumentException" (7 : Nat) ({ cls := "java/lang/RuntimeException", name := "<init>", desc := "(Ljava/lang/String;)V" } : Jvm.MethodName)) ∈ Tb := tb_t (tt_2 155 rfl) rfl
theorem t2_156 : (Jvm.Cond.lays "java/lang/IllegalArgumentException" "java/lang/Throwable" "depth" "I") ∈ Tb := tb_t (tt_2 156 rfl) rfl
theorem t2_157 : (Jvm.Cond.superclass "java/lang/IllegalArgumentException" "java/lang/RuntimeException") ∈ Tb := tb_t (tt_2 157 rfl) rfl
theorem n2_158 : (Jvm.Cond.methodLinkNest "BlobStore" (87 : Nat) ({ cls := "BlobStore$Power", name := "spendWrite", desc := "()V" } : Jvm.MethodName) "BlobStore") ∈ bNst := tn_t (tt_2 158 rfl) rfl
theorem u2_159 : (Jvm.Cond.privateMethod ({ cls := "BlobStore$Power", name := "spendWrite", desc := "()V" } : Jvm.MethodName)) ∈ tables_1 := tt_2 159 rfl
theorem t2_160 : (Jvm.Cond.instanceMethod ({ cls := "BlobStore$Power", name := "spendWrite", desc := "()V" } : Jvm.MethodName)) ∈ Tb := tb_t (tt_2 160 rfl) rfl
theorem t2_161 : (Jvm.Cond.code ({ cls := "BlobStore$Power", name := "spendWrite", desc := "()V" } : Jvm.MethodName) prog_3_method_3_code (1 : Nat) (Option.none : Option Jvm.ClassFile.FieldType)) ∈ Tb := tb_t (tt_2 161 rfl) rfl
theorem t2_162 : (Jvm.Cond.classLink "BlobStore$Power" (27 : Nat) "java/lang/UnsupportedOperationException") ∈ Tb := tb_t (tt_2 162 rfl) rfl
theorem t2_163 : (Jvm.Cond.instantiable "java/lang/UnsupportedOperationException" (6 : Nat)) ∈ Tb := tb_t (tt_2 163 rfl) rfl
theorem n2_164 : (Jvm.Cond.castable "java/lang/UnsupportedOperationException" "java/lang/UnsupportedOperationException") ∈ bNst := tn_t (tt_2 164 rfl) rfl
theorem t2_165 : (Jvm.Cond.selects "java/lang/UnsupportedOperationException" ({ cls := "java/lang/Throwable", name := "fillInStackTrace", desc := "(I)Ljava/lang/Throwable;" } : Jvm.MethodName) ({ cls := "java/lang/Throwable", name := "fillInStackTrace", desc := "(I)Ljava/lang/Throwable;" } : Jvm.MethodName)) ∈ Tb := tb_t (tt_2 165 rfl) rfl
theorem t2_166 : (Jvm.Cond.lays "java/lang/UnsupportedOperationException" "java/lang/Throwable" "cause" "Ljava/lang/Throwable;") ∈ Tb := tb_t (tt_2 166 rfl) rfl
theorem t2_167 : (Jvm.Cond.lays "java/lang/UnsupportedOperationException" "java/lang/Throwable" "stackTrace" "[Ljava/lang/StackTraceElement;") ∈ Tb := tb_t (tt_2 167 rfl) rfl
theorem t2_168 : (Jvm.Cond.lays "java/lang/UnsupportedOperationException" "java/lang/Throwable" "suppressedExceptions" "Ljava/util/List;") ∈ Tb := tb_t (tt_2 168 rfl) rfl
theorem t2_169 : (Jvm.Cond.lays "java/lang/UnsupportedOperationException" "java/lang/Throwable" "detailMessage" "Ljava/lang/String;") ∈ Tb := tb_t (tt_2 169 rfl) rfl
theorem t2_170 : (Jvm.Cond.lays "java/lang/UnsupportedOperationException" "java/lang/Throwable" "backtrace" "Ljava/lang/Object;") ∈ Tb := tb_t (tt_2 170 rfl) rfl
theorem u2_171 : (Jvm.Cond.stringRef "BlobStore$Power" (29 : Nat) "the power is gone") ∈ tables_1 := tt_2 171 rfl
theorem t2_172 : (Jvm.Cond.methodLink "BlobStore$Power" (31 : Nat) ({ cls := "java/lang/UnsupportedOperationException", name := "<init>", desc := "(Ljava/lang/String;)V" } : Jvm.MethodName)) ∈ Tb := tb_t (tt_2 172 rfl) rfl
theorem t2_173 : (Jvm.Cond.instanceMethod ({ cls := "java/lang/UnsupportedOperationException", name := "<init>", desc := "(Ljava/lang/String;)V" } : Jvm.MethodName)) ∈ Tb := tb_t (tt_2 173 rfl) rfl
theorem t2_174 : (Jvm.Cond.code ({ cls := "java/lang/UnsupportedOperationException", name := "<init>", desc := "(Ljava/lang/String;)V" } : Jvm.MethodName) prog_19_method_2_code (2 : Nat) (Option.none : Option Jvm.ClassFile.FieldType)) ∈ Tb := tb_t (tt_2 174 rfl) rfl
theorem t2_175 : (Jvm.Cond.methodLink "java/lang/UnsupportedOperationException" (7 : Nat) ({ cls := "java/lang/RuntimeException", name := "<init>", desc := "(Ljava/lang/String;)V" } : Jvm.MethodName)) ∈ Tb := tb_t (tt_2 175 rfl) rfl
theorem t2_176 : (Jvm.Cond.lays "java/lang/UnsupportedOperationException" "java/lang/Throwable" "depth" "I") ∈ Tb := tb_t (tt_2 176 rfl) rfl
theorem t2_177 : (Jvm.Cond.superclass "java/lang/UnsupportedOperationException" "java/lang/RuntimeException") ∈ Tb := tb_t (tt_2 177 rfl) rfl
theorem n2_178 : (Jvm.Cond.methodLinkNest "BlobStore" (90 : Nat) ({ cls := "BlobStore$Session", name := "start", desc := "(II)V" } : Jvm.MethodName) "BlobStore") ∈ bNst := tn_t (tt_2 178 rfl) rfl
theorem u2_179 : (Jvm.Cond.privateMethod ({ cls := "BlobStore$Session", name := "start", desc := "(II)V" } : Jvm.MethodName)) ∈ tables_1 := tt_2 179 rfl
theorem t2_180 : (Jvm.Cond.instanceMethod ({ cls := "BlobStore$Session", name := "start", desc := "(II)V" } : Jvm.MethodName)) ∈ Tb := tb_t (tt_2 180 rfl) rfl
theorem t2_181 : (Jvm.Cond.code ({ cls := "BlobStore$Session", name := "start", desc := "(II)V" } : Jvm.MethodName) prog_5_method_2_code (4 : Nat) (Option.none : Option Jvm.ClassFile.FieldType)) ∈ Tb := tb_t (tt_2 181 rfl) rfl
theorem t2_182 : (Jvm.Cond.methodLink "BlobStoreLaw" (61 : Nat) ({ cls := "BlobStoreLaw", name := "part", desc := "(LBlobStore;IIIJJJ[J)I" } : Jvm.MethodName)) ∈ Tb := tb_t (tt_2 182 rfl) rfl
theorem t2_183 : (Jvm.Cond.static ({ cls := "BlobStoreLaw", name := "part", desc := "(LBlobStore;IIIJJJ[J)I" } : Jvm.MethodName)) ∈ Tb := tb_t (tt_2 183 rfl) rfl
theorem t2_184 : (Jvm.Cond.codeWith ({ cls := "BlobStoreLaw", name := "part", desc := "(LBlobStore;IIIJJJ[J)I" } : Jvm.MethodName) method_4_code (12 : Nat) (Option.some Jvm.ClassFile.FieldType.int) [((0 : Nat), (18 : Nat), (21 : Nat), (13 : Nat)), ((0 : Nat), (18 : Nat), (25 : Nat), (15 : Nat)), ((0 : Nat), (18 : Nat), (29 : Nat), (23 : Nat)), ((0 : Nat), (18 : Nat), (33 : Nat), (17 : Nat))]) ∈ Tb := tb_t (tt_2 184 rfl) rfl
theorem t2_185 : (Jvm.Cond.classLink "BlobStoreLaw" (23 : Nat) "java/lang/IndexOutOfBoundsException") ∈ Tb := tb_t (tt_2 185 rfl) rfl
theorem t2_186 : (Jvm.Cond.methodLink "BlobStoreLaw" (19 : Nat) ({ cls := "BlobStore", name := "part", desc := "(IIIJJJ)I" } : Jvm.MethodName)) ∈ Tb := tb_t (tt_2 186 rfl) rfl
theorem t2_187 : (Jvm.Cond.instanceMethod ({ cls := "BlobStore", name := "part", desc := "(IIIJJJ)I" } : Jvm.MethodName)) ∈ Tb := tb_t (tt_2 187 rfl) rfl
theorem t2_188 : (Jvm.Cond.selects "BlobStore" ({ cls := "BlobStore", name := "part", desc := "(IIIJJJ)I" } : Jvm.MethodName) ({ cls := "BlobStore", name := "part", desc := "(IIIJJJ)I" } : Jvm.MethodName)) ∈ Tb := tb_t (tt_2 188 rfl) rfl
theorem t2_189 : (Jvm.Cond.code ({ cls := "BlobStore", name := "part", desc := "(IIIJJJ)I" } : Jvm.MethodName) prog_1_method_3_code (13 : Nat) (Option.some Jvm.ClassFile.FieldType.int)) ∈ Tb := tb_t (tt_2 189 rfl) rfl
theorem t2_190 : (Jvm.Cond.methodLink "BlobStore" (94 : Nat) ({ cls := "BlobStore", name := "openSession", desc := "(I)LBlobStore$Session;" } : Jvm.MethodName)) ∈ Tb := tb_t (tt_2 190 rfl) rfl
theorem u2_191 : (Jvm.Cond.privateMethod ({ cls := "BlobStore", name := "openSession", desc := "(I)LBlobStore$Session;" } : Jvm.MethodName)) ∈ tables_1 := tt_2 191 rfl
theorem t2_192 : (Jvm.Cond.instanceMethod ({ cls := "BlobStore", name := "openSession", desc := "(I)LBlobStore$Session;" } : Jvm.MethodName)) ∈ Tb := tb_t (tt_2 192 rfl) rfl
theorem t2_193 : (Jvm.Cond.code ({ cls := "BlobStore", name := "openSession", desc := "(I)LBlobStore$Session;" } : Jvm.MethodName) prog_1_method_18_code (2 : Nat) (Option.some (Jvm.ClassFile.FieldType.object "BlobStore$Session"))) ∈ Tb := tb_t (tt_2 193 rfl) rfl
theorem u2_194 : (Jvm.Cond.stringRef "BlobStore" (207 : Nat) "no such session is open") ∈ tables_1 := tt_2 194 rfl
theorem u2_195 : (Jvm.Cond.stringRef "BlobStore" (98 : Nat) "no such part number or count of bytes") ∈ tables_1 := tt_2 195 rfl
theorem t2_196 : (Jvm.Cond.methodLink "BlobStore" (100 : Nat) ({ cls := "BlobStore", name := "cutIntoChunks", desc := "(IJJJ)I" } : Jvm.MethodName)) ∈ Tb := tb_t (tt_2 196 rfl) rfl
theorem u2_197 : (Jvm.Cond.privateMethod ({ cls := "BlobStore", name := "cutIntoChunks", desc := "(IJJJ)I" } : Jvm.MethodName)) ∈ tables_1 := tt_2 197 rfl
theorem t2_198 : (Jvm.Cond.instanceMethod ({ cls := "BlobStore", name := "cutIntoChunks", desc := "(IJJJ)I" } : Jvm.MethodName)) ∈ Tb := tb_t (tt_2 198 rfl) rfl
theorem t2_199 : (Jvm.Cond.code ({ cls := "BlobStore", name := "cutIntoChunks", desc := "(IJJJ)I" } : Jvm.MethodName) prog_1_method_23_code (12 : Nat) (Option.some Jvm.ClassFile.FieldType.int)) ∈ Tb := tb_t (tt_2 199 rfl) rfl
theorem t2_200 : (Jvm.Cond.methodLink "BlobStore" (213 : Nat) ({ cls := "java/lang/Math", name := "min", desc := "(II)I" } : Jvm.MethodName)) ∈ Tb := tb_t (tt_2 200 rfl) rfl
theorem t2_201 : (Jvm.Cond.static ({ cls := "java/lang/Math", name := "min", desc := "(II)I" } : Jvm.MethodName)) ∈ Tb := tb_t (tt_2 201 rfl) rfl
theorem t2_202 : (Jvm.Cond.code ({ cls := "java/lang/Math", name := "min", desc := "(II)I" } : Jvm.MethodName) prog_14_method_69_code (2 : Nat) (Option.some Jvm.ClassFile.FieldType.int)) ∈ Tb := tb_t (tt_2 202 rfl) rfl
theorem t2_203 : (Jvm.Cond.methodLink "BlobStore" (104 : Nat) ({ cls := "BlobStore", name := "planSlots", desc := "(I)V" } : Jvm.MethodName)) ∈ Tb := tb_t (tt_2 203 rfl) rfl
theorem u2_204 : (Jvm.Cond.privateMethod ({ cls := "BlobStore", name := "planSlots", desc := "(I)V" } : Jvm.MethodName)) ∈ tables_1 := tt_2 204 rfl
theorem t2_205 : (Jvm.Cond.instanceMethod ({ cls := "BlobStore", name := "planSlots", desc := "(I)V" } : Jvm.MethodName)) ∈ Tb := tb_t (tt_2 205 rfl) rfl
theorem t2_206 : (Jvm.Cond.code ({ cls := "BlobStore", name := "planSlots", desc := "(I)V" } : Jvm.MethodName) prog_1_method_24_code (5 : Nat) (Option.none : Option Jvm.ClassFile.FieldType)) ∈ Tb := tb_t (tt_2 206 rfl) rfl
theorem t2_207 : (Jvm.Cond.methodLink "BlobStore" (219 : Nat) ({ cls := "BlobStore", name := "plannedSlot", desc := "(I)I" } : Jvm.MethodName)) ∈ Tb := tb_t (tt_2 207 rfl) rfl
theorem u2_208 : (Jvm.Cond.privateMethod ({ cls := "BlobStore", name := "plannedSlot", desc := "(I)I" } : Jvm.MethodName)) ∈ tables_1 := tt_2 208 rfl
theorem t2_209 : (Jvm.Cond.instanceMethod ({ cls := "BlobStore", name := "plannedSlot", desc := "(I)I" } : Jvm.MethodName)) ∈ Tb := tb_t (tt_2 209 rfl) rfl
theorem t2_210 : (Jvm.Cond.code ({ cls := "BlobStore", name := "plannedSlot", desc := "(I)I" } : Jvm.MethodName) prog_1_method_25_code (3 : Nat) (Option.some Jvm.ClassFile.FieldType.int)) ∈ Tb := tb_t (tt_2 210 rfl) rfl
theorem t2_211 : (Jvm.Cond.methodLink "BlobStore" (222 : Nat) ({ cls := "BlobStore", name := "leastFreeSlot", desc := "(I)I" } : Jvm.MethodName)) ∈ Tb := tb_t (tt_2 211 rfl) rfl
theorem u2_212 : (Jvm.Cond.privateMethod ({ cls := "BlobStore", name := "leastFreeSlot", desc := "(I)I" } : Jvm.MethodName)) ∈ tables_1 := tt_2 212 rfl
theorem t2_213 : (Jvm.Cond.instanceMethod ({ cls := "BlobStore", name := "leastFreeSlot", desc := "(I)I" } : Jvm.MethodName)) ∈ Tb := tb_t (tt_2 213 rfl) rfl
theorem t2_214 : (Jvm.Cond.code ({ cls := "BlobStore", name := "leastFreeSlot", desc := "(I)I" } : Jvm.MethodName) prog_1_method_22_code (3 : Nat) (Option.some Jvm.ClassFile.FieldType.int)) ∈ Tb := tb_t (tt_2 214 rfl) rfl
theorem t2_215 : (Jvm.Cond.classLink "BlobStore" (225 : Nat) "java/lang/IndexOutOfBoundsException") ∈ Tb := tb_t (tt_2 215 rfl) rfl
theorem t2_216 : (Jvm.Cond.instantiable "java/lang/IndexOutOfBoundsException" (6 : Nat)) ∈ Tb := tb_t (tt_2 216 rfl) rfl
theorem n2_217 : (Jvm.Cond.castable "java/lang/IndexOutOfBoundsException" "java/lang/IndexOutOfBoundsException") ∈ bNst := tn_t (tt_2 217 rfl) rfl
theorem t2_218 : (Jvm.Cond.selects "java/lang/IndexOutOfBoundsException" ({ cls := "java/lang/Throwable", name := "fillInStackTrace", desc := "(I)Ljava/lang/Throwable;" } : Jvm.MethodName) ({ cls := "java/lang/Throwable", name := "fillInStackTrace", desc := "(I)Ljava/lang/Throwable;" } : Jvm.MethodName)) ∈ Tb := tb_t (tt_2 218 rfl) rfl
theorem t2_219 : (Jvm.Cond.lays "java/lang/IndexOutOfBoundsException" "java/lang/Throwable" "cause" "Ljava/lang/Throwable;") ∈ Tb := tb_t (tt_2 219 rfl) rfl
theorem t2_220 : (Jvm.Cond.lays "java/lang/IndexOutOfBoundsException" "java/lang/Throwable" "stackTrace" "[Ljava/lang/StackTraceElement;") ∈ Tb := tb_t (tt_2 220 rfl) rfl
theorem t2_221 : (Jvm.Cond.lays "java/lang/IndexOutOfBoundsException" "java/lang/Throwable" "suppressedExceptions" "Ljava/util/List;") ∈ Tb := tb_t (tt_2 221 rfl) rfl
theorem t2_222 : (Jvm.Cond.lays "java/lang/IndexOutOfBoundsException" "java/lang/Throwable" "detailMessage" "Ljava/lang/String;") ∈ Tb := tb_t (tt_2 222 rfl) rfl
theorem t2_223 : (Jvm.Cond.lays "java/lang/IndexOutOfBoundsException" "java/lang/Throwable" "backtrace" "Ljava/lang/Object;") ∈ Tb := tb_t (tt_2 223 rfl) rfl
theorem u2_224 : (Jvm.Cond.stringRef "BlobStore" (227 : Nat) "too few free slots") ∈ tables_1 := tt_2 224 rfl
theorem t2_225 : (Jvm.Cond.methodLink "BlobStore" (229 : Nat) ({ cls := "java/lang/IndexOutOfBoundsException", name := "<init>", desc := "(Ljava/lang/String;)V" } : Jvm.MethodName)) ∈ Tb := tb_t (tt_2 225 rfl) rfl
theorem t2_226 : (Jvm.Cond.instanceMethod ({ cls := "java/lang/IndexOutOfBoundsException", name := "<init>", desc := "(Ljava/lang/String;)V" } : Jvm.MethodName)) ∈ Tb := tb_t (tt_2 226 rfl) rfl
theorem t2_227 : (Jvm.Cond.code ({ cls := "java/lang/IndexOutOfBoundsException", name := "<init>", desc := "(Ljava/lang/String;)V" } : Jvm.MethodName) prog_13_method_2_code (2 : Nat) (Option.none : Option Jvm.ClassFile.FieldType)) ∈ Tb := tb_t (tt_2 227 rfl) rfl
theorem t2_228 : (Jvm.Cond.methodLink "java/lang/IndexOutOfBoundsException" (7 : Nat) ({ cls := "java/lang/RuntimeException", name := "<init>", desc := "(Ljava/lang/String;)V" } : Jvm.MethodName)) ∈ Tb := tb_t (tt_2 228 rfl) rfl
theorem t2_229 : (Jvm.Cond.lays "java/lang/IndexOutOfBoundsException" "java/lang/Throwable" "depth" "I") ∈ Tb := tb_t (tt_2 229 rfl) rfl
theorem t2_230 : (Jvm.Cond.superclass "java/lang/IndexOutOfBoundsException" "java/lang/RuntimeException") ∈ Tb := tb_t (tt_2 230 rfl) rfl
theorem n2_231 : (Jvm.Cond.methodLinkNest "BlobStore" (230 : Nat) ({ cls := "BlobStore$Row", name := "add", desc := "(I)V" } : Jvm.MethodName) "BlobStore") ∈ bNst := tn_t (tt_2 231 rfl) rfl
theorem u2_232 : (Jvm.Cond.privateMethod ({ cls := "BlobStore$Row", name := "add", desc := "(I)V" } : Jvm.MethodName)) ∈ tables_1 := tt_2 232 rfl
theorem t2_233 : (Jvm.Cond.instanceMethod ({ cls := "BlobStore$Row", name := "add", desc := "(I)V" } : Jvm.MethodName)) ∈ Tb := tb_t (tt_2 233 rfl) rfl
theorem t2_234 : (Jvm.Cond.code ({ cls := "BlobStore$Row", name := "add", desc := "(I)V" } : Jvm.MethodName) prog_4_method_2_code (2 : Nat) (Option.none : Option Jvm.ClassFile.FieldType)) ∈ Tb := tb_t (tt_2 234 rfl) rfl
theorem t2_235 : (Jvm.Cond.methodLink "BlobStore" (107 : Nat) ({ cls := "BlobStore", name := "writeChunks", desc := "(I)I" } : Jvm.MethodName)) ∈ Tb := tb_t (tt_2 235 rfl) rfl
theorem u2_236 : (Jvm.Cond.privateMethod ({ cls := "BlobStore", name := "writeChunks", desc := "(I)I" } : Jvm.MethodName)) ∈ tables_1 := tt_2 236 rfl
theorem t2_237 : (Jvm.Cond.instanceMethod ({ cls := "BlobStore", name := "writeChunks", desc := "(I)I" } : Jvm.MethodName)) ∈ Tb := tb_t (tt_2 237 rfl) rfl
theorem t2_238 : (Jvm.Cond.code ({ cls := "BlobStore", name := "writeChunks", desc := "(I)I" } : Jvm.MethodName) prog_1_method_26_code (5 : Nat) (Option.some Jvm.ClassFile.FieldType.int)) ∈ Tb := tb_t (tt_2 238 rfl) rfl
theorem n2_239 : (Jvm.Cond.methodLinkNest "BlobStore" (233 : Nat) ({ cls := "BlobStore$Chunk", name := "copyFrom", desc := "(LBlobStore$Chunk;)V" } : Jvm.MethodName) "BlobStore") ∈ bNst := tn_t (tt_2 239 rfl) rfl
theorem u3_0 : (Jvm.Cond.privateMethod ({ cls := "BlobStore$Chunk", name := "copyFrom", desc := "(LBlobStore$Chunk;)V" } : Jvm.MethodName)) ∈ tables_1 := tt_3 0 rfl
theorem t3_1 : (Jvm.Cond.instanceMethod ({ cls := "BlobStore$Chunk", name := "copyFrom", desc := "(LBlobStore$Chunk;)V" } : Jvm.MethodName)) ∈ Tb := tb_t (tt_3 1 rfl) rfl
theorem t3_2 : (Jvm.Cond.code ({ cls := "BlobStore$Chunk", name := "copyFrom", desc := "(LBlobStore$Chunk;)V" } : Jvm.MethodName) prog_2_method_5_code (2 : Nat) (Option.none : Option Jvm.ClassFile.FieldType)) ∈ Tb := tb_t (tt_3 2 rfl) rfl
theorem t3_3 : (Jvm.Cond.methodLink "BlobStore$Chunk" (31 : Nat) ({ cls := "java/lang/System", name := "arraycopy", desc := "(Ljava/lang/Object;ILjava/lang/Object;II)V" } : Jvm.MethodName)) ∈ Tb := tb_t (tt_3 3 rfl) rfl
theorem t3_4 : (Jvm.Cond.static ({ cls := "java/lang/System", name := "arraycopy", desc := "(Ljava/lang/Object;ILjava/lang/Object;II)V" } : Jvm.MethodName)) ∈ Tb := tb_t (tt_3 4 rfl) rfl
theorem t3_5 : (Jvm.Cond.native ({ cls := "java/lang/System", name := "arraycopy", desc := "(Ljava/lang/Object;ILjava/lang/Object;II)V" } : Jvm.MethodName)) ∈ Tb := tb_t (tt_3 5 rfl) rfl
theorem n3_6 : (Jvm.Cond.methodLinkNest "BlobStore" (115 : Nat) ({ cls := "BlobStore$Row", name := "copyFrom", desc := "(LBlobStore$Row;)V" } : Jvm.MethodName) "BlobStore") ∈ bNst := tn_t (tt_3 6 rfl) rfl
theorem u3_7 : (Jvm.Cond.privateMethod ({ cls := "BlobStore$Row", name := "copyFrom", desc := "(LBlobStore$Row;)V" } : Jvm.MethodName)) ∈ tables_1 := tt_3 7 rfl
theorem t3_8 : (Jvm.Cond.instanceMethod ({ cls := "BlobStore$Row", name := "copyFrom", desc := "(LBlobStore$Row;)V" } : Jvm.MethodName)) ∈ Tb := tb_t (tt_3 8 rfl) rfl
theorem t3_9 : (Jvm.Cond.code ({ cls := "BlobStore$Row", name := "copyFrom", desc := "(LBlobStore$Row;)V" } : Jvm.MethodName) prog_4_method_4_code (2 : Nat) (Option.none : Option Jvm.ClassFile.FieldType)) ∈ Tb := tb_t (tt_3 9 rfl) rfl
theorem t3_10 : (Jvm.Cond.methodLink "BlobStore$Row" (21 : Nat) ({ cls := "BlobStore$Row", name := "addAll", desc := "(LBlobStore$Row;)V" } : Jvm.MethodName)) ∈ Tb := tb_t (tt_3 10 rfl) rfl
theorem u3_11 : (Jvm.Cond.privateMethod ({ cls := "BlobStore$Row", name := "addAll", desc := "(LBlobStore$Row;)V" } : Jvm.MethodName)) ∈ tables_1 := tt_3 11 rfl
theorem t3_12 : (Jvm.Cond.instanceMethod ({ cls := "BlobStore$Row", name := "addAll", desc := "(LBlobStore$Row;)V" } : Jvm.MethodName)) ∈ Tb := tb_t (tt_3 12 rfl) rfl
theorem t3_13 : (Jvm.Cond.code ({ cls := "BlobStore$Row", name := "addAll", desc := "(LBlobStore$Row;)V" } : Jvm.MethodName) prog_4_method_3_code (3 : Nat) (Option.none : Option Jvm.ClassFile.FieldType)) ∈ Tb := tb_t (tt_3 13 rfl) rfl
theorem t3_14 : (Jvm.Cond.methodLink "BlobStore$Row" (17 : Nat) ({ cls := "BlobStore$Row", name := "add", desc := "(I)V" } : Jvm.MethodName)) ∈ Tb := tb_t (tt_3 14 rfl) rfl
theorem t3_15 : (Jvm.Cond.methodLink "BlobStoreLaw" (65 : Nat) ({ cls := "BlobStoreLaw", name := "complete", desc := "(LBlobStore;I[J)I" } : Jvm.MethodName)) ∈ Tb := tb_t (tt_3 15 rfl) rfl
theorem t3_16 : (Jvm.Cond.static ({ cls := "BlobStoreLaw", name := "complete", desc := "(LBlobStore;I[J)I" } : Jvm.MethodName)) ∈ Tb := tb_t (tt_3 16 rfl) rfl
theorem t3_17 : (Jvm.Cond.codeWith ({ cls := "BlobStoreLaw", name := "complete", desc := "(LBlobStore;I[J)I" } : Jvm.MethodName) method_5_code (4 : Nat) (Option.some Jvm.ClassFile.FieldType.int) [((0 : Nat), (9 : Nat), (12 : Nat), (13 : Nat)), ((0 : Nat), (9 : Nat), (15 : Nat), (15 : Nat)), ((0 : Nat), (9 : Nat), (18 : Nat), (17 : Nat))]) ∈ Tb := tb_t (tt_3 17 rfl) rfl
theorem t3_18 : (Jvm.Cond.methodLink "BlobStoreLaw" (25 : Nat) ({ cls := "BlobStore", name := "complete", desc := "(I)I" } : Jvm.MethodName)) ∈ Tb := tb_t (tt_3 18 rfl) rfl
theorem t3_19 : (Jvm.Cond.instanceMethod ({ cls := "BlobStore", name := "complete", desc := "(I)I" } : Jvm.MethodName)) ∈ Tb := tb_t (tt_3 19 rfl) rfl
theorem t3_20 : (Jvm.Cond.selects "BlobStore" ({ cls := "BlobStore", name := "complete", desc := "(I)I" } : Jvm.MethodName) ({ cls := "BlobStore", name := "complete", desc := "(I)I" } : Jvm.MethodName)) ∈ Tb := tb_t (tt_3 20 rfl) rfl
theorem t3_21 : (Jvm.Cond.code ({ cls := "BlobStore", name := "complete", desc := "(I)I" } : Jvm.MethodName) prog_1_method_4_code (3 : Nat) (Option.some Jvm.ClassFile.FieldType.int)) ∈ Tb := tb_t (tt_3 21 rfl) rfl
theorem u3_22 : (Jvm.Cond.stringRef "BlobStore" (119 : Nat) "all versions have been given") ∈ tables_1 := tt_3 22 rfl
theorem n3_23 : (Jvm.Cond.methodLinkNest "BlobStore" (121 : Nat) ({ cls := "BlobStore$Version", name := "comeFrom", desc := "(LBlobStore$Session;)V" } : Jvm.MethodName) "BlobStore") ∈ bNst := tn_t (tt_3 23 rfl) rfl
theorem u3_24 : (Jvm.Cond.privateMethod ({ cls := "BlobStore$Version", name := "comeFrom", desc := "(LBlobStore$Session;)V" } : Jvm.MethodName)) ∈ tables_1 := tt_3 24 rfl
theorem t3_25 : (Jvm.Cond.instanceMethod ({ cls := "BlobStore$Version", name := "comeFrom", desc := "(LBlobStore$Session;)V" } : Jvm.MethodName)) ∈ Tb := tb_t (tt_3 25 rfl) rfl
theorem t3_26 : (Jvm.Cond.code ({ cls := "BlobStore$Version", name := "comeFrom", desc := "(LBlobStore$Session;)V" } : Jvm.MethodName) prog_7_method_2_code (3 : Nat) (Option.none : Option Jvm.ClassFile.FieldType)) ∈ Tb := tb_t (tt_3 26 rfl) rfl
theorem n3_27 : (Jvm.Cond.methodLinkNest "BlobStore$Version" (39 : Nat) ({ cls := "BlobStore$Row", name := "addAll", desc := "(LBlobStore$Row;)V" } : Jvm.MethodName) "BlobStore") ∈ bNst := tn_t (tt_3 27 rfl) rfl
theorem t3_28 : (Jvm.Cond.methodLink "BlobStoreLaw" (69 : Nat) ({ cls := "BlobStoreLaw", name := "abort", desc := "(LBlobStore;I)I" } : Jvm.MethodName)) ∈ Tb := tb_t (tt_3 28 rfl) rfl
theorem t3_29 : (Jvm.Cond.static ({ cls := "BlobStoreLaw", name := "abort", desc := "(LBlobStore;I)I" } : Jvm.MethodName)) ∈ Tb := tb_t (tt_3 29 rfl) rfl
theorem t3_30 : (Jvm.Cond.codeWith ({ cls := "BlobStoreLaw", name := "abort", desc := "(LBlobStore;I)I" } : Jvm.MethodName) method_6_code (3 : Nat) (Option.some Jvm.ClassFile.FieldType.int) [((0 : Nat), (5 : Nat), (8 : Nat), (13 : Nat)), ((0 : Nat), (5 : Nat), (11 : Nat), (15 : Nat)), ((0 : Nat), (5 : Nat), (14 : Nat), (17 : Nat))]) ∈ Tb := tb_t (tt_3 30 rfl) rfl
theorem t3_31 : (Jvm.Cond.methodLink "BlobStoreLaw" (29 : Nat) ({ cls := "BlobStore", name := "abort", desc := "(I)V" } : Jvm.MethodName)) ∈ Tb := tb_t (tt_3 31 rfl) rfl
theorem t3_32 : (Jvm.Cond.instanceMethod ({ cls := "BlobStore", name := "abort", desc := "(I)V" } : Jvm.MethodName)) ∈ Tb := tb_t (tt_3 32 rfl) rfl
theorem t3_33 : (Jvm.Cond.selects "BlobStore" ({ cls := "BlobStore", name := "abort", desc := "(I)V" } : Jvm.MethodName) ({ cls := "BlobStore", name := "abort", desc := "(I)V" } : Jvm.MethodName)) ∈ Tb := tb_t (tt_3 33 rfl) rfl
theorem t3_34 : (Jvm.Cond.code ({ cls := "BlobStore", name := "abort", desc := "(I)V" } : Jvm.MethodName) prog_1_method_5_code (3 : Nat) (Option.none : Option Jvm.ClassFile.FieldType)) ∈ Tb := tb_t (tt_3 34 rfl) rfl
theorem t3_35 : (Jvm.Cond.methodLink "BlobStoreLaw" (73 : Nat) ({ cls := "BlobStoreLaw", name := "delete", desc := "(LBlobStore;I[J)I" } : Jvm.MethodName)) ∈ Tb := tb_t (tt_3 35 rfl) rfl
theorem t3_36 : (Jvm.Cond.static ({ cls := "BlobStoreLaw", name := "delete", desc := "(LBlobStore;I[J)I" } : Jvm.MethodName)) ∈ Tb := tb_t (tt_3 36 rfl) rfl
theorem t3_37 : (Jvm.Cond.codeWith ({ cls := "BlobStoreLaw", name := "delete", desc := "(LBlobStore;I[J)I" } : Jvm.MethodName) method_7_code (4 : Nat) (Option.some Jvm.ClassFile.FieldType.int) [((0 : Nat), (16 : Nat), (19 : Nat), (13 : Nat)), ((0 : Nat), (16 : Nat), (22 : Nat), (17 : Nat))]) ∈ Tb := tb_t (tt_3 37 rfl) rfl
theorem t3_38 : (Jvm.Cond.methodLink "BlobStoreLaw" (33 : Nat) ({ cls := "BlobStore", name := "delete", desc := "(I)Z" } : Jvm.MethodName)) ∈ Tb := tb_t (tt_3 38 rfl) rfl
theorem t3_39 : (Jvm.Cond.instanceMethod ({ cls := "BlobStore", name := "delete", desc := "(I)Z" } : Jvm.MethodName)) ∈ Tb := tb_t (tt_3 39 rfl) rfl
theorem t3_40 : (Jvm.Cond.selects "BlobStore" ({ cls := "BlobStore", name := "delete", desc := "(I)Z" } : Jvm.MethodName) ({ cls := "BlobStore", name := "delete", desc := "(I)Z" } : Jvm.MethodName)) ∈ Tb := tb_t (tt_3 40 rfl) rfl
theorem t3_41 : (Jvm.Cond.code ({ cls := "BlobStore", name := "delete", desc := "(I)Z" } : Jvm.MethodName) prog_1_method_6_code (3 : Nat) (Option.some Jvm.ClassFile.FieldType.boolean)) ∈ Tb := tb_t (tt_3 41 rfl) rfl
theorem t3_42 : (Jvm.Cond.methodLink "BlobStoreLaw" (76 : Nat) ({ cls := "BlobStoreLaw", name := "collect", desc := "(LBlobStore;[J)I" } : Jvm.MethodName)) ∈ Tb := tb_t (tt_3 42 rfl) rfl
theorem t3_43 : (Jvm.Cond.static ({ cls := "BlobStoreLaw", name := "collect", desc := "(LBlobStore;[J)I" } : Jvm.MethodName)) ∈ Tb := tb_t (tt_3 43 rfl) rfl
theorem t3_44 : (Jvm.Cond.codeWith ({ cls := "BlobStoreLaw", name := "collect", desc := "(LBlobStore;[J)I" } : Jvm.MethodName) method_8_code (3 : Nat) (Option.some Jvm.ClassFile.FieldType.int) [((0 : Nat), (8 : Nat), (11 : Nat), (13 : Nat)), ((0 : Nat), (8 : Nat), (14 : Nat), (17 : Nat))]) ∈ Tb := tb_t (tt_3 44 rfl) rfl
theorem t3_45 : (Jvm.Cond.methodLink "BlobStoreLaw" (37 : Nat) ({ cls := "BlobStore", name := "collect", desc := "()I" } : Jvm.MethodName)) ∈ Tb := tb_t (tt_3 45 rfl) rfl
theorem t3_46 : (Jvm.Cond.instanceMethod ({ cls := "BlobStore", name := "collect", desc := "()I" } : Jvm.MethodName)) ∈ Tb := tb_t (tt_3 46 rfl) rfl
theorem t3_47 : (Jvm.Cond.selects "BlobStore" ({ cls := "BlobStore", name := "collect", desc := "()I" } : Jvm.MethodName) ({ cls := "BlobStore", name := "collect", desc := "()I" } : Jvm.MethodName)) ∈ Tb := tb_t (tt_3 47 rfl) rfl
theorem t3_48 : (Jvm.Cond.code ({ cls := "BlobStore", name := "collect", desc := "()I" } : Jvm.MethodName) prog_1_method_7_code (3 : Nat) (Option.some Jvm.ClassFile.FieldType.int)) ∈ Tb := tb_t (tt_3 48 rfl) rfl
theorem n3_49 : (Jvm.Cond.methodLinkNest "BlobStore" (143 : Nat) ({ cls := "BlobStore$Chunk", name := "free", desc := "()V" } : Jvm.MethodName) "BlobStore") ∈ bNst := tn_t (tt_3 49 rfl) rfl
theorem u3_50 : (Jvm.Cond.privateMethod ({ cls := "BlobStore$Chunk", name := "free", desc := "()V" } : Jvm.MethodName)) ∈ tables_1 := tt_3 50 rfl
theorem t3_51 : (Jvm.Cond.instanceMethod ({ cls := "BlobStore$Chunk", name := "free", desc := "()V" } : Jvm.MethodName)) ∈ Tb := tb_t (tt_3 51 rfl) rfl
theorem t3_52 : (Jvm.Cond.code ({ cls := "BlobStore$Chunk", name := "free", desc := "()V" } : Jvm.MethodName) prog_2_method_3_code (1 : Nat) (Option.none : Option Jvm.ClassFile.FieldType)) ∈ Tb := tb_t (tt_3 52 rfl) rfl
theorem t3_53 : (Jvm.Cond.methodLink "BlobStoreLaw" (80 : Nat) ({ cls := "BlobStoreLaw", name := "cutAfter", desc := "(LBlobStore;I)I" } : Jvm.MethodName)) ∈ Tb := tb_t (tt_3 53 rfl) rfl
theorem t3_54 : (Jvm.Cond.static ({ cls := "BlobStoreLaw", name := "cutAfter", desc := "(LBlobStore;I)I" } : Jvm.MethodName)) ∈ Tb := tb_t (tt_3 54 rfl) rfl
theorem t3_55 : (Jvm.Cond.codeWith ({ cls := "BlobStoreLaw", name := "cutAfter", desc := "(LBlobStore;I)I" } : Jvm.MethodName) method_9_code (3 : Nat) (Option.some Jvm.ClassFile.FieldType.int) [((0 : Nat), (5 : Nat), (8 : Nat), (15 : Nat))]) ∈ Tb := tb_t (tt_3 55 rfl) rfl
theorem t3_56 : (Jvm.Cond.methodLink "BlobStoreLaw" (41 : Nat) ({ cls := "BlobStore", name := "cutAfter", desc := "(I)V" } : Jvm.MethodName)) ∈ Tb := tb_t (tt_3 56 rfl) rfl
theorem t3_57 : (Jvm.Cond.instanceMethod ({ cls := "BlobStore", name := "cutAfter", desc := "(I)V" } : Jvm.MethodName)) ∈ Tb := tb_t (tt_3 57 rfl) rfl
theorem t3_58 : (Jvm.Cond.selects "BlobStore" ({ cls := "BlobStore", name := "cutAfter", desc := "(I)V" } : Jvm.MethodName) ({ cls := "BlobStore", name := "cutAfter", desc := "(I)V" } : Jvm.MethodName)) ∈ Tb := tb_t (tt_3 58 rfl) rfl
theorem t3_59 : (Jvm.Cond.code ({ cls := "BlobStore", name := "cutAfter", desc := "(I)V" } : Jvm.MethodName) prog_1_method_8_code (2 : Nat) (Option.none : Option Jvm.ClassFile.FieldType)) ∈ Tb := tb_t (tt_3 59 rfl) rfl
theorem u3_60 : (Jvm.Cond.stringRef "BlobStore" (146 : Nat) "no such count of writes") ∈ tables_1 := tt_3 60 rfl
theorem n3_61 : (Jvm.Cond.methodLinkNest "BlobStore" (148 : Nat) ({ cls := "BlobStore$Power", name := "tellCut", desc := "(I)V" } : Jvm.MethodName) "BlobStore") ∈ bNst := tn_t (tt_3 61 rfl) rfl
theorem u3_62 : (Jvm.Cond.privateMethod ({ cls := "BlobStore$Power", name := "tellCut", desc := "(I)V" } : Jvm.MethodName)) ∈ tables_1 := tt_3 62 rfl
theorem t3_63 : (Jvm.Cond.instanceMethod ({ cls := "BlobStore$Power", name := "tellCut", desc := "(I)V" } : Jvm.MethodName)) ∈ Tb := tb_t (tt_3 63 rfl) rfl
theorem t3_64 : (Jvm.Cond.code ({ cls := "BlobStore$Power", name := "tellCut", desc := "(I)V" } : Jvm.MethodName) prog_3_method_4_code (2 : Nat) (Option.none : Option Jvm.ClassFile.FieldType)) ∈ Tb := tb_t (tt_3 64 rfl) rfl
theorem t3_65 : (Jvm.Cond.methodLink "BlobStoreLaw" (103 : Nat) ({ cls := "BlobStoreLaw", name := "address", desc := "(LBlobStore;II[J)I" } : Jvm.MethodName)) ∈ Tb := tb_t (tt_3 65 rfl) rfl
theorem t3_66 : (Jvm.Cond.static ({ cls := "BlobStoreLaw", name := "address", desc := "(LBlobStore;II[J)I" } : Jvm.MethodName)) ∈ Tb := tb_t (tt_3 66 rfl) rfl
theorem t3_67 : (Jvm.Cond.codeWith ({ cls := "BlobStoreLaw", name := "address", desc := "(LBlobStore;II[J)I" } : Jvm.MethodName) method_10_code (5 : Nat) (Option.some Jvm.ClassFile.FieldType.int) [((0 : Nat), (10 : Nat), (13 : Nat), (47 : Nat))]) ∈ Tb := tb_t (tt_3 67 rfl) rfl
theorem t3_68 : (Jvm.Cond.classLink "BlobStoreLaw" (47 : Nat) "java/util/NoSuchElementException") ∈ Tb := tb_t (tt_3 68 rfl) rfl
theorem t3_69 : (Jvm.Cond.methodLink "BlobStoreLaw" (44 : Nat) ({ cls := "BlobStore", name := "address", desc := "(II)I" } : Jvm.MethodName)) ∈ Tb := tb_t (tt_3 69 rfl) rfl
theorem t3_70 : (Jvm.Cond.instanceMethod ({ cls := "BlobStore", name := "address", desc := "(II)I" } : Jvm.MethodName)) ∈ Tb := tb_t (tt_3 70 rfl) rfl
theorem t3_71 : (Jvm.Cond.selects "BlobStore" ({ cls := "BlobStore", name := "address", desc := "(II)I" } : Jvm.MethodName) ({ cls := "BlobStore", name := "address", desc := "(II)I" } : Jvm.MethodName)) ∈ Tb := tb_t (tt_3 71 rfl) rfl
theorem t3_72 : (Jvm.Cond.code ({ cls := "BlobStore", name := "address", desc := "(II)I" } : Jvm.MethodName) prog_1_method_13_code (3 : Nat) (Option.some Jvm.ClassFile.FieldType.int)) ∈ Tb := tb_t (tt_3 72 rfl) rfl
theorem t3_73 : (Jvm.Cond.classLink "BlobStore" (176 : Nat) "java/util/NoSuchElementException") ∈ Tb := tb_t (tt_3 73 rfl) rfl
theorem t3_74 : (Jvm.Cond.instantiable "java/util/NoSuchElementException" (6 : Nat)) ∈ Tb := tb_t (tt_3 74 rfl) rfl
theorem n3_75 : (Jvm.Cond.castable "java/util/NoSuchElementException" "java/util/NoSuchElementException") ∈ bNst := tn_t (tt_3 75 rfl) rfl
theorem t3_76 : (Jvm.Cond.selects "java/util/NoSuchElementException" ({ cls := "java/lang/Throwable", name := "fillInStackTrace", desc := "(I)Ljava/lang/Throwable;" } : Jvm.MethodName) ({ cls := "java/lang/Throwable", name := "fillInStackTrace", desc := "(I)Ljava/lang/Throwable;" } : Jvm.MethodName)) ∈ Tb := tb_t (tt_3 76 rfl) rfl
theorem t3_77 : (Jvm.Cond.lays "java/util/NoSuchElementException" "java/lang/Throwable" "cause" "Ljava/lang/Throwable;") ∈ Tb := tb_t (tt_3 77 rfl) rfl
theorem t3_78 : (Jvm.Cond.lays "java/util/NoSuchElementException" "java/lang/Throwable" "stackTrace" "[Ljava/lang/StackTraceElement;") ∈ Tb := tb_t (tt_3 78 rfl) rfl
theorem t3_79 : (Jvm.Cond.lays "java/util/NoSuchElementException" "java/lang/Throwable" "suppressedExceptions" "Ljava/util/List;") ∈ Tb := tb_t (tt_3 79 rfl) rfl
theorem t3_80 : (Jvm.Cond.lays "java/util/NoSuchElementException" "java/lang/Throwable" "detailMessage" "Ljava/lang/String;") ∈ Tb := tb_t (tt_3 80 rfl) rfl
theorem t3_81 : (Jvm.Cond.lays "java/util/NoSuchElementException" "java/lang/Throwable" "backtrace" "Ljava/lang/Object;") ∈ Tb := tb_t (tt_3 81 rfl) rfl
theorem u3_82 : (Jvm.Cond.stringRef "BlobStore" (178 : Nat) "no such chunk or word") ∈ tables_1 := tt_3 82 rfl
theorem t3_83 : (Jvm.Cond.methodLink "BlobStore" (180 : Nat) ({ cls := "java/util/NoSuchElementException", name := "<init>", desc := "(Ljava/lang/String;)V" } : Jvm.MethodName)) ∈ Tb := tb_t (tt_3 83 rfl) rfl
theorem t3_84 : (Jvm.Cond.instanceMethod ({ cls := "java/util/NoSuchElementException", name := "<init>", desc := "(Ljava/lang/String;)V" } : Jvm.MethodName)) ∈ Tb := tb_t (tt_3 84 rfl) rfl
theorem t3_85 : (Jvm.Cond.code ({ cls := "java/util/NoSuchElementException", name := "<init>", desc := "(Ljava/lang/String;)V" } : Jvm.MethodName) prog_21_method_4_code (2 : Nat) (Option.none : Option Jvm.ClassFile.FieldType)) ∈ Tb := tb_t (tt_3 85 rfl) rfl
theorem t3_86 : (Jvm.Cond.methodLink "java/util/NoSuchElementException" (13 : Nat) ({ cls := "java/lang/RuntimeException", name := "<init>", desc := "(Ljava/lang/String;)V" } : Jvm.MethodName)) ∈ Tb := tb_t (tt_3 86 rfl) rfl
theorem t3_87 : (Jvm.Cond.lays "java/util/NoSuchElementException" "java/lang/Throwable" "depth" "I") ∈ Tb := tb_t (tt_3 87 rfl) rfl
theorem t3_88 : (Jvm.Cond.superclass "java/util/NoSuchElementException" "java/lang/RuntimeException") ∈ Tb := tb_t (tt_3 88 rfl) rfl
theorem t3_89 : (Jvm.Cond.classLink "BlobStoreLaw" (50 : Nat) "BlobStoreModel") ∈ Tb := tb_t (tt_3 89 rfl) rfl
theorem t3_90 : (Jvm.Cond.instantiable "BlobStoreModel" (22 : Nat)) ∈ Tb := tb_t (tt_3 90 rfl) rfl
theorem t3_91 : (Jvm.Cond.methodLink "BlobStoreLaw" (52 : Nat) ({ cls := "BlobStoreModel", name := "<init>", desc := "()V" } : Jvm.MethodName)) ∈ Tb := tb_t (tt_3 91 rfl) rfl
theorem t3_92 : (Jvm.Cond.instanceMethod ({ cls := "BlobStoreModel", name := "<init>", desc := "()V" } : Jvm.MethodName)) ∈ Tb := tb_t (tt_3 92 rfl) rfl
theorem t3_93 : (Jvm.Cond.code ({ cls := "BlobStoreModel", name := "<init>", desc := "()V" } : Jvm.MethodName) prog_9_method_1_code (3 : Nat) (Option.none : Option Jvm.ClassFile.FieldType)) ∈ Tb := tb_t (tt_3 93 rfl) rfl
theorem t3_94 : (Jvm.Cond.methodLink "BlobStoreModel" (1 : Nat) ({ cls := "java/lang/Object", name := "<init>", desc := "()V" } : Jvm.MethodName)) ∈ Tb := tb_t (tt_3 94 rfl) rfl
theorem t3_95 : (Jvm.Cond.methodLink "BlobStoreModel" (67 : Nat) ({ cls := "BlobStoreModel", name := "isPrime", desc := "(I)Z" } : Jvm.MethodName)) ∈ Tb := tb_t (tt_3 95 rfl) rfl
theorem t3_96 : (Jvm.Cond.static ({ cls := "BlobStoreModel", name := "isPrime", desc := "(I)Z" } : Jvm.MethodName)) ∈ Tb := tb_t (tt_3 96 rfl) rfl
theorem t3_97 : (Jvm.Cond.code ({ cls := "BlobStoreModel", name := "isPrime", desc := "(I)Z" } : Jvm.MethodName) prog_9_method_5_code (2 : Nat) (Option.some Jvm.ClassFile.FieldType.boolean)) ∈ Tb := tb_t (tt_3 97 rfl) rfl
theorem t3_98 : (Jvm.Cond.methodLink "BlobStoreModel" (71 : Nat) ({ cls := "BlobStoreModel", name := "root", desc := "(II)I" } : Jvm.MethodName)) ∈ Tb := tb_t (tt_3 98 rfl) rfl
theorem u3_99 : (Jvm.Cond.privateMethod ({ cls := "BlobStoreModel", name := "root", desc := "(II)I" } : Jvm.MethodName)) ∈ tables_1 := tt_3 99 rfl
theorem t3_100 : (Jvm.Cond.instanceMethod ({ cls := "BlobStoreModel", name := "root", desc := "(II)I" } : Jvm.MethodName)) ∈ Tb := tb_t (tt_3 100 rfl) rfl
theorem t3_101 : (Jvm.Cond.code ({ cls := "BlobStoreModel", name := "root", desc := "(II)I" } : Jvm.MethodName) prog_9_method_6_code (6 : Nat) (Option.some Jvm.ClassFile.FieldType.int)) ∈ Tb := tb_t (tt_3 101 rfl) rfl
theorem t3_102 : (Jvm.Cond.methodLink "BlobStoreModel" (78 : Nat) ({ cls := "BlobStoreModel", name := "isAbove", desc := "(JII)Z" } : Jvm.MethodName)) ∈ Tb := tb_t (tt_3 102 rfl) rfl
theorem u3_103 : (Jvm.Cond.privateMethod ({ cls := "BlobStoreModel", name := "isAbove", desc := "(JII)Z" } : Jvm.MethodName)) ∈ tables_1 := tt_3 103 rfl
theorem t3_104 : (Jvm.Cond.instanceMethod ({ cls := "BlobStoreModel", name := "isAbove", desc := "(JII)Z" } : Jvm.MethodName)) ∈ Tb := tb_t (tt_3 104 rfl) rfl
theorem t3_105 : (Jvm.Cond.code ({ cls := "BlobStoreModel", name := "isAbove", desc := "(JII)Z" } : Jvm.MethodName) prog_9_method_7_code (15 : Nat) (Option.some Jvm.ClassFile.FieldType.boolean)) ∈ Tb := tb_t (tt_3 105 rfl) rfl
theorem t3_106 : (Jvm.Cond.constantLong "BlobStoreModel" (82 : Nat) (1048575 : Int64)) ∈ Tb := tb_t (tt_3 106 rfl) rfl
theorem t3_107 : (Jvm.Cond.fieldLink "BlobStoreModel" (75 : Nat) "BlobStoreModel" "thrown" "I") ∈ Tb := tb_t (tt_3 107 rfl) rfl
theorem t3_108 : (Jvm.Cond.fieldLink "BlobStoreModel" (7 : Nat) "BlobStoreModel" "sizes" "[I") ∈ Tb := tb_t (tt_3 108 rfl) rfl
theorem t3_109 : (Jvm.Cond.fieldLink "BlobStoreModel" (13 : Nat) "BlobStoreModel" "bytes" "[I") ∈ Tb := tb_t (tt_3 109 rfl) rfl
theorem t3_110 : (Jvm.Cond.fieldLink "BlobStoreModel" (16 : Nat) "BlobStoreModel" "open" "[Z") ∈ Tb := tb_t (tt_3 110 rfl) rfl
theorem t3_111 : (Jvm.Cond.fieldLink "BlobStoreModel" (20 : Nat) "BlobStoreModel" "sessionBucket" "[I") ∈ Tb := tb_t (tt_3 111 rfl) rfl
theorem t3_112 : (Jvm.Cond.fieldLink "BlobStoreModel" (23 : Nat) "BlobStoreModel" "sessionKey" "[I") ∈ Tb := tb_t (tt_3 112 rfl) rfl
theorem t3_113 : (Jvm.Cond.fieldLink "BlobStoreModel" (26 : Nat) "BlobStoreModel" "partSize" "[I") ∈ Tb := tb_t (tt_3 113 rfl) rfl
theorem t3_114 : (Jvm.Cond.fieldLink "BlobStoreModel" (29 : Nat) "BlobStoreModel" "partSlots" "[I") ∈ Tb := tb_t (tt_3 114 rfl) rfl
theorem t3_115 : (Jvm.Cond.fieldLink "BlobStoreModel" (135 : Nat) "BlobStoreModel" "versions" "I") ∈ Tb := tb_t (tt_3 115 rfl) rfl
theorem t3_116 : (Jvm.Cond.fieldLink "BlobStoreModel" (32 : Nat) "BlobStoreModel" "lives" "[Z") ∈ Tb := tb_t (tt_3 116 rfl) rfl
theorem t3_117 : (Jvm.Cond.fieldLink "BlobStoreModel" (35 : Nat) "BlobStoreModel" "versionBucket" "[I") ∈ Tb := tb_t (tt_3 117 rfl) rfl
theorem t3_118 : (Jvm.Cond.fieldLink "BlobStoreModel" (38 : Nat) "BlobStoreModel" "versionKey" "[I") ∈ Tb := tb_t (tt_3 118 rfl) rfl
theorem t3_119 : (Jvm.Cond.fieldLink "BlobStoreModel" (41 : Nat) "BlobStoreModel" "versionSize" "[I") ∈ Tb := tb_t (tt_3 119 rfl) rfl
theorem t3_120 : (Jvm.Cond.fieldLink "BlobStoreModel" (44 : Nat) "BlobStoreModel" "versionSlots" "[I") ∈ Tb := tb_t (tt_3 120 rfl) rfl
theorem t3_121 : (Jvm.Cond.fieldLink "BlobStoreModel" (91 : Nat) "BlobStoreModel" "writes" "I") ∈ Tb := tb_t (tt_3 121 rfl) rfl
theorem t3_122 : (Jvm.Cond.fieldLink "BlobStoreModel" (47 : Nat) "BlobStoreModel" "cut" "I") ∈ Tb := tb_t (tt_3 122 rfl) rfl
theorem t3_123 : (Jvm.Cond.fieldLink "BlobStoreModel" (87 : Nat) "BlobStoreModel" "down" "Z") ∈ Tb := tb_t (tt_3 123 rfl) rfl
theorem t3_124 : (Jvm.Cond.fieldLink "BlobStoreModel" (51 : Nat) "BlobStoreModel" "constants" "[I") ∈ Tb := tb_t (tt_3 124 rfl) rfl
theorem t3_125 : (Jvm.Cond.fieldLink "BlobStoreModel" (54 : Nat) "BlobStoreModel" "schedule" "[I") ∈ Tb := tb_t (tt_3 125 rfl) rfl
theorem t3_126 : (Jvm.Cond.fieldLink "BlobStoreModel" (57 : Nat) "BlobStoreModel" "hash" "[I") ∈ Tb := tb_t (tt_3 126 rfl) rfl
theorem t3_127 : (Jvm.Cond.fieldLink "BlobStoreModel" (60 : Nat) "BlobStoreModel" "row" "[I") ∈ Tb := tb_t (tt_3 127 rfl) rfl
theorem t3_128 : (Jvm.Cond.fieldLink "BlobStoreModel" (63 : Nat) "BlobStoreModel" "limbs" "[J") ∈ Tb := tb_t (tt_3 128 rfl) rfl
theorem t3_129 : (Jvm.Cond.lays "BlobStoreModel" "BlobStoreModel" "thrown" "I") ∈ Tb := tb_t (tt_3 129 rfl) rfl
theorem u3_130 : (Jvm.Cond.soleField "BlobStoreModel" "thrown") ∈ tables_1 := tt_3 130 rfl
theorem t3_131 : (Jvm.Cond.laysFinal "BlobStoreModel" "BlobStoreModel" "sizes" "[I") ∈ Tb := tb_t (tt_3 131 rfl) rfl
theorem u3_132 : (Jvm.Cond.soleField "BlobStoreModel" "sizes") ∈ tables_1 := tt_3 132 rfl
theorem t3_133 : (Jvm.Cond.laysFinal "BlobStoreModel" "BlobStoreModel" "bytes" "[I") ∈ Tb := tb_t (tt_3 133 rfl) rfl
theorem u3_134 : (Jvm.Cond.soleField "BlobStoreModel" "bytes") ∈ tables_1 := tt_3 134 rfl
theorem t3_135 : (Jvm.Cond.laysFinal "BlobStoreModel" "BlobStoreModel" "open" "[Z") ∈ Tb := tb_t (tt_3 135 rfl) rfl
theorem u3_136 : (Jvm.Cond.soleField "BlobStoreModel" "open") ∈ tables_1 := tt_3 136 rfl
theorem t3_137 : (Jvm.Cond.laysFinal "BlobStoreModel" "BlobStoreModel" "sessionBucket" "[I") ∈ Tb := tb_t (tt_3 137 rfl) rfl
theorem u3_138 : (Jvm.Cond.soleField "BlobStoreModel" "sessionBucket") ∈ tables_1 := tt_3 138 rfl
theorem t3_139 : (Jvm.Cond.laysFinal "BlobStoreModel" "BlobStoreModel" "sessionKey" "[I") ∈ Tb := tb_t (tt_3 139 rfl) rfl
theorem u3_140 : (Jvm.Cond.soleField "BlobStoreModel" "sessionKey") ∈ tables_1 := tt_3 140 rfl
theorem t3_141 : (Jvm.Cond.laysFinal "BlobStoreModel" "BlobStoreModel" "partSize" "[I") ∈ Tb := tb_t (tt_3 141 rfl) rfl
theorem u3_142 : (Jvm.Cond.soleField "BlobStoreModel" "partSize") ∈ tables_1 := tt_3 142 rfl
theorem t3_143 : (Jvm.Cond.laysFinal "BlobStoreModel" "BlobStoreModel" "partSlots" "[I") ∈ Tb := tb_t (tt_3 143 rfl) rfl
theorem u3_144 : (Jvm.Cond.soleField "BlobStoreModel" "partSlots") ∈ tables_1 := tt_3 144 rfl
theorem t3_145 : (Jvm.Cond.lays "BlobStoreModel" "BlobStoreModel" "versions" "I") ∈ Tb := tb_t (tt_3 145 rfl) rfl
theorem u3_146 : (Jvm.Cond.soleField "BlobStoreModel" "versions") ∈ tables_1 := tt_3 146 rfl
theorem t3_147 : (Jvm.Cond.laysFinal "BlobStoreModel" "BlobStoreModel" "lives" "[Z") ∈ Tb := tb_t (tt_3 147 rfl) rfl
theorem u3_148 : (Jvm.Cond.soleField "BlobStoreModel" "lives") ∈ tables_1 := tt_3 148 rfl
theorem t3_149 : (Jvm.Cond.laysFinal "BlobStoreModel" "BlobStoreModel" "versionBucket" "[I") ∈ Tb := tb_t (tt_3 149 rfl) rfl
theorem u3_150 : (Jvm.Cond.soleField "BlobStoreModel" "versionBucket") ∈ tables_1 := tt_3 150 rfl
theorem t3_151 : (Jvm.Cond.laysFinal "BlobStoreModel" "BlobStoreModel" "versionKey" "[I") ∈ Tb := tb_t (tt_3 151 rfl) rfl
theorem u3_152 : (Jvm.Cond.soleField "BlobStoreModel" "versionKey") ∈ tables_1 := tt_3 152 rfl
theorem t3_153 : (Jvm.Cond.laysFinal "BlobStoreModel" "BlobStoreModel" "versionSize" "[I") ∈ Tb := tb_t (tt_3 153 rfl) rfl
theorem u3_154 : (Jvm.Cond.soleField "BlobStoreModel" "versionSize") ∈ tables_1 := tt_3 154 rfl
theorem t3_155 : (Jvm.Cond.laysFinal "BlobStoreModel" "BlobStoreModel" "versionSlots" "[I") ∈ Tb := tb_t (tt_3 155 rfl) rfl
theorem u3_156 : (Jvm.Cond.soleField "BlobStoreModel" "versionSlots") ∈ tables_1 := tt_3 156 rfl
theorem t3_157 : (Jvm.Cond.lays "BlobStoreModel" "BlobStoreModel" "writes" "I") ∈ Tb := tb_t (tt_3 157 rfl) rfl
theorem u3_158 : (Jvm.Cond.soleField "BlobStoreModel" "writes") ∈ tables_1 := tt_3 158 rfl
theorem t3_159 : (Jvm.Cond.lays "BlobStoreModel" "BlobStoreModel" "cut" "I") ∈ Tb := tb_t (tt_3 159 rfl) rfl
theorem u3_160 : (Jvm.Cond.soleField "BlobStoreModel" "cut") ∈ tables_1 := tt_3 160 rfl
theorem t3_161 : (Jvm.Cond.lays "BlobStoreModel" "BlobStoreModel" "down" "Z") ∈ Tb := tb_t (tt_3 161 rfl) rfl
theorem u3_162 : (Jvm.Cond.soleField "BlobStoreModel" "down") ∈ tables_1 := tt_3 162 rfl
theorem t3_163 : (Jvm.Cond.laysFinal "BlobStoreModel" "BlobStoreModel" "constants" "[I") ∈ Tb := tb_t (tt_3 163 rfl) rfl
theorem u3_164 : (Jvm.Cond.soleField "BlobStoreModel" "constants") ∈ tables_1 := tt_3 164 rfl
theorem t3_165 : (Jvm.Cond.laysFinal "BlobStoreModel" "BlobStoreModel" "schedule" "[I") ∈ Tb := tb_t (tt_3 165 rfl) rfl
theorem u3_166 : (Jvm.Cond.soleField "BlobStoreModel" "schedule") ∈ tables_1 := tt_3 166 rfl
theorem t3_167 : (Jvm.Cond.laysFinal "BlobStoreModel" "BlobStoreModel" "hash" "[I") ∈ Tb := tb_t (tt_3 167 rfl) rfl
theorem u3_168 : (Jvm.Cond.soleField "BlobStoreModel" "hash") ∈ tables_1 := tt_3 168 rfl
theorem t3_169 : (Jvm.Cond.laysFinal "BlobStoreModel" "BlobStoreModel" "row" "[I") ∈ Tb := tb_t (tt_3 169 rfl) rfl
theorem u3_170 : (Jvm.Cond.soleField "BlobStoreModel" "row") ∈ tables_1 := tt_3 170 rfl
theorem t3_171 : (Jvm.Cond.laysFinal "BlobStoreModel" "BlobStoreModel" "limbs" "[J") ∈ Tb := tb_t (tt_3 171 rfl) rfl
theorem u3_172 : (Jvm.Cond.soleField "BlobStoreModel" "limbs") ∈ tables_1 := tt_3 172 rfl
theorem t3_173 : (Jvm.Cond.superclass "BlobStoreModel" "java/lang/Object") ∈ Tb := tb_t (tt_3 173 rfl) rfl
theorem t3_174 : (Jvm.Cond.arrayClass Jvm.ClassFile.FieldType.boolean) ∈ Tb := tb_t (tt_3 174 rfl) rfl
theorem t3_175 : (Jvm.Cond.arrayClass Jvm.ClassFile.FieldType.long) ∈ Tb := tb_t (tt_3 175 rfl) rfl
theorem t3_176 : (Jvm.Cond.methodLink "BlobStoreLaw" (83 : Nat) ({ cls := "BlobStoreModel", name := "thrown", desc := "()I" } : Jvm.MethodName)) ∈ Tb := tb_t (tt_3 176 rfl) rfl
theorem t3_177 : (Jvm.Cond.instanceMethod ({ cls := "BlobStoreModel", name := "thrown", desc := "()I" } : Jvm.MethodName)) ∈ Tb := tb_t (tt_3 177 rfl) rfl
theorem t3_178 : (Jvm.Cond.selects "BlobStoreModel" ({ cls := "BlobStoreModel", name := "thrown", desc := "()I" } : Jvm.MethodName) ({ cls := "BlobStoreModel", name := "thrown", desc := "()I" } : Jvm.MethodName)) ∈ Tb := tb_t (tt_3 178 rfl) rfl
theorem t3_179 : (Jvm.Cond.code ({ cls := "BlobStoreModel", name := "thrown", desc := "()I" } : Jvm.MethodName) prog_9_method_2_code (1 : Nat) (Option.some Jvm.ClassFile.FieldType.int)) ∈ Tb := tb_t (tt_3 179 rfl) rfl
theorem t3_180 : (Jvm.Cond.methodLink "BlobStoreLaw" (58 : Nat) ({ cls := "BlobStoreModel", name := "begin", desc := "(II)I" } : Jvm.MethodName)) ∈ Tb := tb_t (tt_3 180 rfl) rfl
theorem t3_181 : (Jvm.Cond.instanceMethod ({ cls := "BlobStoreModel", name := "begin", desc := "(II)I" } : Jvm.MethodName)) ∈ Tb := tb_t (tt_3 181 rfl) rfl
theorem t3_182 : (Jvm.Cond.selects "BlobStoreModel" ({ cls := "BlobStoreModel", name := "begin", desc := "(II)I" } : Jvm.MethodName) ({ cls := "BlobStoreModel", name := "begin", desc := "(II)I" } : Jvm.MethodName)) ∈ Tb := tb_t (tt_3 182 rfl) rfl
theorem t3_183 : (Jvm.Cond.code ({ cls := "BlobStoreModel", name := "begin", desc := "(II)I" } : Jvm.MethodName) prog_9_method_20_code (5 : Nat) (Option.some Jvm.ClassFile.FieldType.int)) ∈ Tb := tb_t (tt_3 183 rfl) rfl
theorem t3_184 : (Jvm.Cond.methodLink "BlobStoreModel" (109 : Nat) ({ cls := "BlobStoreModel", name := "in", desc := "(III)Z" } : Jvm.MethodName)) ∈ Tb := tb_t (tt_3 184 rfl) rfl
theorem t3_185 : (Jvm.Cond.static ({ cls := "BlobStoreModel", name := "in", desc := "(III)Z" } : Jvm.MethodName)) ∈ Tb := tb_t (tt_3 185 rfl) rfl
theorem t3_186 : (Jvm.Cond.code ({ cls := "BlobStoreModel", name := "in", desc := "(III)Z" } : Jvm.MethodName) prog_9_method_4_code (3 : Nat) (Option.some Jvm.ClassFile.FieldType.boolean)) ∈ Tb := tb_t (tt_3 186 rfl) rfl
theorem t3_187 : (Jvm.Cond.methodLink "BlobStoreModel" (112 : Nat) ({ cls := "BlobStoreModel", name := "says", desc := "(I)Z" } : Jvm.MethodName)) ∈ Tb := tb_t (tt_3 187 rfl) rfl
theorem u3_188 : (Jvm.Cond.privateMethod ({ cls := "BlobStoreModel", name := "says", desc := "(I)Z" } : Jvm.MethodName)) ∈ tables_1 := tt_3 188 rfl
theorem t3_189 : (Jvm.Cond.instanceMethod ({ cls := "BlobStoreModel", name := "says", desc := "(I)Z" } : Jvm.MethodName)) ∈ Tb := tb_t (tt_3 189 rfl) rfl
theorem t3_190 : (Jvm.Cond.code ({ cls := "BlobStoreModel", name := "says", desc := "(I)Z" } : Jvm.MethodName) prog_9_method_3_code (2 : Nat) (Option.some Jvm.ClassFile.FieldType.boolean)) ∈ Tb := tb_t (tt_3 190 rfl) rfl
theorem t3_191 : (Jvm.Cond.methodLink "BlobStoreModel" (115 : Nat) ({ cls := "BlobStoreModel", name := "writes", desc := "(I)Z" } : Jvm.MethodName)) ∈ Tb := tb_t (tt_3 191 rfl) rfl
theorem u3_192 : (Jvm.Cond.privateMethod ({ cls := "BlobStoreModel", name := "writes", desc := "(I)Z" } : Jvm.MethodName)) ∈ tables_1 := tt_3 192 rfl
theorem t3_193 : (Jvm.Cond.instanceMethod ({ cls := "BlobStoreModel", name := "writes", desc := "(I)Z" } : Jvm.MethodName)) ∈ Tb := tb_t (tt_3 193 rfl) rfl
theorem t3_194 : (Jvm.Cond.code ({ cls := "BlobStoreModel", name := "writes", desc := "(I)Z" } : Jvm.MethodName) prog_9_method_10_code (2 : Nat) (Option.some Jvm.ClassFile.FieldType.boolean)) ∈ Tb := tb_t (tt_3 194 rfl) rfl
theorem t3_195 : (Jvm.Cond.methodLink "BlobStoreLaw" (64 : Nat) ({ cls := "BlobStoreModel", name := "part", desc := "(IIIJJJ)I" } : Jvm.MethodName)) ∈ Tb := tb_t (tt_3 195 rfl) rfl
theorem t3_196 : (Jvm.Cond.instanceMethod ({ cls := "BlobStoreModel", name := "part", desc := "(IIIJJJ)I" } : Jvm.MethodName)) ∈ Tb := tb_t (tt_3 196 rfl) rfl
theorem t3_197 : (Jvm.Cond.selects "BlobStoreModel" ({ cls := "BlobStoreModel", name := "part", desc := "(IIIJJJ)I" } : Jvm.MethodName) ({ cls := "BlobStoreModel", name := "part", desc := "(IIIJJJ)I" } : Jvm.MethodName)) ∈ Tb := tb_t (tt_3 197 rfl) rfl
theorem t3_198 : (Jvm.Cond.code ({ cls := "BlobStoreModel", name := "part", desc := "(IIIJJJ)I" } : Jvm.MethodName) prog_9_method_21_code (15 : Nat) (Option.some Jvm.ClassFile.FieldType.int)) ∈ Tb := tb_t (tt_3 198 rfl) rfl
theorem t3_199 : (Jvm.Cond.methodLink "BlobStoreModel" (117 : Nat) ({ cls := "BlobStoreModel", name := "isOpen", desc := "(I)Z" } : Jvm.MethodName)) ∈ Tb := tb_t (tt_3 199 rfl) rfl
theorem u3_200 : (Jvm.Cond.privateMethod ({ cls := "BlobStoreModel", name := "isOpen", desc := "(I)Z" } : Jvm.MethodName)) ∈ tables_1 := tt_3 200 rfl
theorem t3_201 : (Jvm.Cond.instanceMethod ({ cls := "BlobStoreModel", name := "isOpen", desc := "(I)Z" } : Jvm.MethodName)) ∈ Tb := tb_t (tt_3 201 rfl) rfl
theorem t3_202 : (Jvm.Cond.code ({ cls := "BlobStoreModel", name := "isOpen", desc := "(I)Z" } : Jvm.MethodName) prog_9_method_19_code (2 : Nat) (Option.some Jvm.ClassFile.FieldType.boolean)) ∈ Tb := tb_t (tt_3 202 rfl) rfl
theorem t3_203 : (Jvm.Cond.methodLink "BlobStoreModel" (120 : Nat) ({ cls := "BlobStoreModel", name := "lay", desc := "(JJJ)V" } : Jvm.MethodName)) ∈ Tb := tb_t (tt_3 203 rfl) rfl
theorem u3_204 : (Jvm.Cond.privateMethod ({ cls := "BlobStoreModel", name := "lay", desc := "(JJJ)V" } : Jvm.MethodName)) ∈ tables_1 := tt_3 204 rfl
theorem t3_205 : (Jvm.Cond.instanceMethod ({ cls := "BlobStoreModel", name := "lay", desc := "(JJJ)V" } : Jvm.MethodName)) ∈ Tb := tb_t (tt_3 205 rfl) rfl
theorem t3_206 : (Jvm.Cond.code ({ cls := "BlobStoreModel", name := "lay", desc := "(JJJ)V" } : Jvm.MethodName) prog_9_method_18_code (8 : Nat) (Option.none : Option Jvm.ClassFile.FieldType)) ∈ Tb := tb_t (tt_3 206 rfl) rfl
theorem t3_207 : (Jvm.Cond.constantLong "BlobStoreModel" (107 : Nat) (255 : Int64)) ∈ Tb := tb_t (tt_3 207 rfl) rfl
theorem t3_208 : (Jvm.Cond.methodLink "BlobStoreModel" (124 : Nat) ({ cls := "BlobStoreModel", name := "missing", desc := "(I)I" } : Jvm.MethodName)) ∈ Tb := tb_t (tt_3 208 rfl) rfl
theorem u3_209 : (Jvm.Cond.privateMethod ({ cls := "BlobStoreModel", name := "missing", desc := "(I)I" } : Jvm.MethodName)) ∈ tables_1 := tt_3 209 rfl
theorem t3_210 : (Jvm.Cond.instanceMethod ({ cls := "BlobStoreModel", name := "missing", desc := "(I)I" } : Jvm.MethodName)) ∈ Tb := tb_t (tt_3 210 rfl) rfl
theorem t3_211 : (Jvm.Cond.code ({ cls := "BlobStoreModel", name := "missing", desc := "(I)I" } : Jvm.MethodName) prog_9_method_15_code (7 : Nat) (Option.some Jvm.ClassFile.FieldType.int)) ∈ Tb := tb_t (tt_3 211 rfl) rfl
theorem t3_212 : (Jvm.Cond.methodLink "BlobStoreModel" (98 : Nat) ({ cls := "BlobStoreModel", name := "chunkSize", desc := "(II)I" } : Jvm.MethodName)) ∈ Tb := tb_t (tt_3 212 rfl) rfl
theorem t3_213 : (Jvm.Cond.static ({ cls := "BlobStoreModel", name := "chunkSize", desc := "(II)I" } : Jvm.MethodName)) ∈ Tb := tb_t (tt_3 213 rfl) rfl
theorem t3_214 : (Jvm.Cond.code ({ cls := "BlobStoreModel", name := "chunkSize", desc := "(II)I" } : Jvm.MethodName) prog_9_method_13_code (2 : Nat) (Option.some Jvm.ClassFile.FieldType.int)) ∈ Tb := tb_t (tt_3 214 rfl) rfl
theorem t3_215 : (Jvm.Cond.methodLink "BlobStoreModel" (101 : Nat) ({ cls := "BlobStoreModel", name := "find", desc := "(II)I" } : Jvm.MethodName)) ∈ Tb := tb_t (tt_3 215 rfl) rfl
theorem u3_216 : (Jvm.Cond.privateMethod ({ cls := "BlobStoreModel", name := "find", desc := "(II)I" } : Jvm.MethodName)) ∈ tables_1 := tt_3 216 rfl
theorem t3_217 : (Jvm.Cond.instanceMethod ({ cls := "BlobStoreModel", name := "find", desc := "(II)I" } : Jvm.MethodName)) ∈ Tb := tb_t (tt_3 217 rfl) rfl
theorem t3_218 : (Jvm.Cond.code ({ cls := "BlobStoreModel", name := "find", desc := "(II)I" } : Jvm.MethodName) prog_9_method_12_code (4 : Nat) (Option.some Jvm.ClassFile.FieldType.int)) ∈ Tb := tb_t (tt_3 218 rfl) rfl
theorem t3_219 : (Jvm.Cond.methodLink "BlobStoreModel" (94 : Nat) ({ cls := "BlobStoreModel", name := "isThere", desc := "(III)Z" } : Jvm.MethodName)) ∈ Tb := tb_t (tt_3 219 rfl) rfl
theorem u3_220 : (Jvm.Cond.privateMethod ({ cls := "BlobStoreModel", name := "isThere", desc := "(III)Z" } : Jvm.MethodName)) ∈ tables_1 := tt_3 220 rfl
theorem t3_221 : (Jvm.Cond.instanceMethod ({ cls := "BlobStoreModel", name := "isThere", desc := "(III)Z" } : Jvm.MethodName)) ∈ Tb := tb_t (tt_3 221 rfl) rfl
theorem t3_222 : (Jvm.Cond.code ({ cls := "BlobStoreModel", name := "isThere", desc := "(III)Z" } : Jvm.MethodName) prog_9_method_11_code (5 : Nat) (Option.some Jvm.ClassFile.FieldType.boolean)) ∈ Tb := tb_t (tt_3 222 rfl) rfl
theorem t3_223 : (Jvm.Cond.methodLink "BlobStoreModel" (104 : Nat) ({ cls := "BlobStoreModel", name := "isAlike", desc := "(III)Z" } : Jvm.MethodName)) ∈ Tb := tb_t (tt_3 223 rfl) rfl
theorem u3_224 : (Jvm.Cond.privateMethod ({ cls := "BlobStoreModel", name := "isAlike", desc := "(III)Z" } : Jvm.MethodName)) ∈ tables_1 := tt_3 224 rfl
theorem t3_225 : (Jvm.Cond.instanceMethod ({ cls := "BlobStoreModel", name := "isAlike", desc := "(III)Z" } : Jvm.MethodName)) ∈ Tb := tb_t (tt_3 225 rfl) rfl
theorem t3_226 : (Jvm.Cond.code ({ cls := "BlobStoreModel", name := "isAlike", desc := "(III)Z" } : Jvm.MethodName) prog_9_method_14_code (5 : Nat) (Option.some Jvm.ClassFile.FieldType.boolean)) ∈ Tb := tb_t (tt_3 226 rfl) rfl
theorem t3_227 : (Jvm.Cond.methodLink "BlobStoreModel" (128 : Nat) ({ cls := "BlobStoreModel", name := "freeSlots", desc := "()I" } : Jvm.MethodName)) ∈ Tb := tb_t (tt_3 227 rfl) rfl
theorem u3_228 : (Jvm.Cond.privateMethod ({ cls := "BlobStoreModel", name := "freeSlots", desc := "()I" } : Jvm.MethodName)) ∈ tables_1 := tt_3 228 rfl
theorem t3_229 : (Jvm.Cond.instanceMethod ({ cls := "BlobStoreModel", name := "freeSlots", desc := "()I" } : Jvm.MethodName)) ∈ Tb := tb_t (tt_3 229 rfl) rfl
theorem t3_230 : (Jvm.Cond.code ({ cls := "BlobStoreModel", name := "freeSlots", desc := "()I" } : Jvm.MethodName) prog_9_method_16_code (3 : Nat) (Option.some Jvm.ClassFile.FieldType.int)) ∈ Tb := tb_t (tt_3 230 rfl) rfl
theorem t3_231 : (Jvm.Cond.methodLink "BlobStoreModel" (132 : Nat) ({ cls := "BlobStoreModel", name := "firstFree", desc := "()I" } : Jvm.MethodName)) ∈ Tb := tb_t (tt_3 231 rfl) rfl
theorem u3_232 : (Jvm.Cond.privateMethod ({ cls := "BlobStoreModel", name := "firstFree", desc := "()I" } : Jvm.MethodName)) ∈ tables_1 := tt_3 232 rfl
theorem t3_233 : (Jvm.Cond.instanceMethod ({ cls := "BlobStoreModel", name := "firstFree", desc := "()I" } : Jvm.MethodName)) ∈ Tb := tb_t (tt_3 233 rfl) rfl
theorem t3_234 : (Jvm.Cond.code ({ cls := "BlobStoreModel", name := "firstFree", desc := "()I" } : Jvm.MethodName) prog_9_method_17_code (2 : Nat) (Option.some Jvm.ClassFile.FieldType.int)) ∈ Tb := tb_t (tt_3 234 rfl) rfl
theorem t3_235 : (Jvm.Cond.methodLink "BlobStoreLaw" (68 : Nat) ({ cls := "BlobStoreModel", name := "complete", desc := "(I)I" } : Jvm.MethodName)) ∈ Tb := tb_t (tt_3 235 rfl) rfl
theorem t3_236 : (Jvm.Cond.instanceMethod ({ cls := "BlobStoreModel", name := "complete", desc := "(I)I" } : Jvm.MethodName)) ∈ Tb := tb_t (tt_3 236 rfl) rfl
theorem t3_237 : (Jvm.Cond.selects "BlobStoreModel" ({ cls := "BlobStoreModel", name := "complete", desc := "(I)I" } : Jvm.MethodName) ({ cls := "BlobStoreModel", name := "complete", desc := "(I)I" } : Jvm.MethodName)) ∈ Tb := tb_t (tt_3 237 rfl) rfl
theorem t3_238 : (Jvm.Cond.code ({ cls := "BlobStoreModel", name := "complete", desc := "(I)I" } : Jvm.MethodName) prog_9_method_22_code (5 : Nat) (Option.some Jvm.ClassFile.FieldType.int)) ∈ Tb := tb_t (tt_3 238 rfl) rfl
theorem t3_239 : (Jvm.Cond.methodLink "BlobStoreLaw" (72 : Nat) ({ cls := "BlobStoreModel", name := "abort", desc := "(I)V" } : Jvm.MethodName)) ∈ Tb := tb_t (tt_3 239 rfl) rfl
theorem t4_0 : (Jvm.Cond.instanceMethod ({ cls := "BlobStoreModel", name := "abort", desc := "(I)V" } : Jvm.MethodName)) ∈ Tb := tb_t (tt_4 0 rfl) rfl
theorem t4_1 : (Jvm.Cond.selects "BlobStoreModel" ({ cls := "BlobStoreModel", name := "abort", desc := "(I)V" } : Jvm.MethodName) ({ cls := "BlobStoreModel", name := "abort", desc := "(I)V" } : Jvm.MethodName)) ∈ Tb := tb_t (tt_4 1 rfl) rfl
theorem t4_2 : (Jvm.Cond.code ({ cls := "BlobStoreModel", name := "abort", desc := "(I)V" } : Jvm.MethodName) prog_9_method_23_code (2 : Nat) (Option.none : Option Jvm.ClassFile.FieldType)) ∈ Tb := tb_t (tt_4 2 rfl) rfl
theorem t4_3 : (Jvm.Cond.methodLink "BlobStoreLaw" (75 : Nat) ({ cls := "BlobStoreModel", name := "delete", desc := "(I)Z" } : Jvm.MethodName)) ∈ Tb := tb_t (tt_4 3 rfl) rfl
theorem t4_4 : (Jvm.Cond.instanceMethod ({ cls := "BlobStoreModel", name := "delete", desc := "(I)Z" } : Jvm.MethodName)) ∈ Tb := tb_t (tt_4 4 rfl) rfl
theorem t4_5 : (Jvm.Cond.selects "BlobStoreModel" ({ cls := "BlobStoreModel", name := "delete", desc := "(I)Z" } : Jvm.MethodName) ({ cls := "BlobStoreModel", name := "delete", desc := "(I)Z" } : Jvm.MethodName)) ∈ Tb := tb_t (tt_4 5 rfl) rfl
theorem t4_6 : (Jvm.Cond.code ({ cls := "BlobStoreModel", name := "delete", desc := "(I)Z" } : Jvm.MethodName) prog_9_method_25_code (2 : Nat) (Option.some Jvm.ClassFile.FieldType.boolean)) ∈ Tb := tb_t (tt_4 6 rfl) rfl
theorem t4_7 : (Jvm.Cond.methodLink "BlobStoreModel" (138 : Nat) ({ cls := "BlobStoreModel", name := "isLiving", desc := "(I)Z" } : Jvm.MethodName)) ∈ Tb := tb_t (tt_4 7 rfl) rfl
theorem u4_8 : (Jvm.Cond.privateMethod ({ cls := "BlobStoreModel", name := "isLiving", desc := "(I)Z" } : Jvm.MethodName)) ∈ tables_1 := tt_4 8 rfl
theorem t4_9 : (Jvm.Cond.instanceMethod ({ cls := "BlobStoreModel", name := "isLiving", desc := "(I)Z" } : Jvm.MethodName)) ∈ Tb := tb_t (tt_4 9 rfl) rfl
theorem t4_10 : (Jvm.Cond.code ({ cls := "BlobStoreModel", name := "isLiving", desc := "(I)Z" } : Jvm.MethodName) prog_9_method_24_code (2 : Nat) (Option.some Jvm.ClassFile.FieldType.boolean)) ∈ Tb := tb_t (tt_4 10 rfl) rfl
theorem t4_11 : (Jvm.Cond.methodLink "BlobStoreLaw" (79 : Nat) ({ cls := "BlobStoreModel", name := "collect", desc := "()I" } : Jvm.MethodName)) ∈ Tb := tb_t (tt_4 11 rfl) rfl
theorem t4_12 : (Jvm.Cond.instanceMethod ({ cls := "BlobStoreModel", name := "collect", desc := "()I" } : Jvm.MethodName)) ∈ Tb := tb_t (tt_4 12 rfl) rfl
theorem t4_13 : (Jvm.Cond.selects "BlobStoreModel" ({ cls := "BlobStoreModel", name := "collect", desc := "()I" } : Jvm.MethodName) ({ cls := "BlobStoreModel", name := "collect", desc := "()I" } : Jvm.MethodName)) ∈ Tb := tb_t (tt_4 13 rfl) rfl
theorem t4_14 : (Jvm.Cond.code ({ cls := "BlobStoreModel", name := "collect", desc := "()I" } : Jvm.MethodName) prog_9_method_28_code (3 : Nat) (Option.some Jvm.ClassFile.FieldType.int)) ∈ Tb := tb_t (tt_4 14 rfl) rfl
theorem t4_15 : (Jvm.Cond.methodLink "BlobStoreModel" (144 : Nat) ({ cls := "BlobStoreModel", name := "need", desc := "(I)I" } : Jvm.MethodName)) ∈ Tb := tb_t (tt_4 15 rfl) rfl
theorem u4_16 : (Jvm.Cond.privateMethod ({ cls := "BlobStoreModel", name := "need", desc := "(I)I" } : Jvm.MethodName)) ∈ tables_1 := tt_4 16 rfl
theorem t4_17 : (Jvm.Cond.instanceMethod ({ cls := "BlobStoreModel", name := "need", desc := "(I)I" } : Jvm.MethodName)) ∈ Tb := tb_t (tt_4 17 rfl) rfl
theorem t4_18 : (Jvm.Cond.code ({ cls := "BlobStoreModel", name := "need", desc := "(I)I" } : Jvm.MethodName) prog_9_method_27_code (5 : Nat) (Option.some Jvm.ClassFile.FieldType.int)) ∈ Tb := tb_t (tt_4 18 rfl) rfl
theorem t4_19 : (Jvm.Cond.methodLink "BlobStoreModel" (141 : Nat) ({ cls := "BlobStoreModel", name := "slotAt", desc := "(II)I" } : Jvm.MethodName)) ∈ Tb := tb_t (tt_4 19 rfl) rfl
theorem u4_20 : (Jvm.Cond.privateMethod ({ cls := "BlobStoreModel", name := "slotAt", desc := "(II)I" } : Jvm.MethodName)) ∈ tables_1 := tt_4 20 rfl
theorem t4_21 : (Jvm.Cond.instanceMethod ({ cls := "BlobStoreModel", name := "slotAt", desc := "(II)I" } : Jvm.MethodName)) ∈ Tb := tb_t (tt_4 21 rfl) rfl
theorem t4_22 : (Jvm.Cond.code ({ cls := "BlobStoreModel", name := "slotAt", desc := "(II)I" } : Jvm.MethodName) prog_9_method_26_code (3 : Nat) (Option.some Jvm.ClassFile.FieldType.int)) ∈ Tb := tb_t (tt_4 22 rfl) rfl
theorem t4_23 : (Jvm.Cond.methodLink "BlobStoreLaw" (82 : Nat) ({ cls := "BlobStoreModel", name := "cutAfter", desc := "(I)V" } : Jvm.MethodName)) ∈ Tb := tb_t (tt_4 23 rfl) rfl
theorem t4_24 : (Jvm.Cond.instanceMethod ({ cls := "BlobStoreModel", name := "cutAfter", desc := "(I)V" } : Jvm.MethodName)) ∈ Tb := tb_t (tt_4 24 rfl) rfl
theorem t4_25 : (Jvm.Cond.selects "BlobStoreModel" ({ cls := "BlobStoreModel", name := "cutAfter", desc := "(I)V" } : Jvm.MethodName) ({ cls := "BlobStoreModel", name := "cutAfter", desc := "(I)V" } : Jvm.MethodName)) ∈ Tb := tb_t (tt_4 25 rfl) rfl
theorem t4_26 : (Jvm.Cond.code ({ cls := "BlobStoreModel", name := "cutAfter", desc := "(I)V" } : Jvm.MethodName) prog_9_method_29_code (2 : Nat) (Option.none : Option Jvm.ClassFile.FieldType)) ∈ Tb := tb_t (tt_4 26 rfl) rfl
theorem t4_27 : (Jvm.Cond.methodLink "BlobStoreLaw" (90 : Nat) ({ cls := "BlobStoreModel", name := "recover", desc := "()Z" } : Jvm.MethodName)) ∈ Tb := tb_t (tt_4 27 rfl) rfl
theorem t4_28 : (Jvm.Cond.instanceMethod ({ cls := "BlobStoreModel", name := "recover", desc := "()Z" } : Jvm.MethodName)) ∈ Tb := tb_t (tt_4 28 rfl) rfl
theorem t4_29 : (Jvm.Cond.selects "BlobStoreModel" ({ cls := "BlobStoreModel", name := "recover", desc := "()Z" } : Jvm.MethodName) ({ cls := "BlobStoreModel", name := "recover", desc := "()Z" } : Jvm.MethodName)) ∈ Tb := tb_t (tt_4 29 rfl) rfl
theorem t4_30 : (Jvm.Cond.code ({ cls := "BlobStoreModel", name := "recover", desc := "()Z" } : Jvm.MethodName) prog_9_method_30_code (2 : Nat) (Option.some Jvm.ClassFile.FieldType.boolean)) ∈ Tb := tb_t (tt_4 30 rfl) rfl
theorem t4_31 : (Jvm.Cond.methodLink "BlobStoreLaw" (94 : Nat) ({ cls := "BlobStoreModel", name := "latest", desc := "(II)I" } : Jvm.MethodName)) ∈ Tb := tb_t (tt_4 31 rfl) rfl
theorem t4_32 : (Jvm.Cond.instanceMethod ({ cls := "BlobStoreModel", name := "latest", desc := "(II)I" } : Jvm.MethodName)) ∈ Tb := tb_t (tt_4 32 rfl) rfl
theorem t4_33 : (Jvm.Cond.selects "BlobStoreModel" ({ cls := "BlobStoreModel", name := "latest", desc := "(II)I" } : Jvm.MethodName) ({ cls := "BlobStoreModel", name := "latest", desc := "(II)I" } : Jvm.MethodName)) ∈ Tb := tb_t (tt_4 33 rfl) rfl
theorem t4_34 : (Jvm.Cond.code ({ cls := "BlobStoreModel", name := "latest", desc := "(II)I" } : Jvm.MethodName) prog_9_method_31_code (4 : Nat) (Option.some Jvm.ClassFile.FieldType.int)) ∈ Tb := tb_t (tt_4 34 rfl) rfl
theorem t4_35 : (Jvm.Cond.methodLink "BlobStoreLaw" (98 : Nat) ({ cls := "BlobStoreModel", name := "size", desc := "(I)I" } : Jvm.MethodName)) ∈ Tb := tb_t (tt_4 35 rfl) rfl
theorem t4_36 : (Jvm.Cond.instanceMethod ({ cls := "BlobStoreModel", name := "size", desc := "(I)I" } : Jvm.MethodName)) ∈ Tb := tb_t (tt_4 36 rfl) rfl
theorem t4_37 : (Jvm.Cond.selects "BlobStoreModel" ({ cls := "BlobStoreModel", name := "size", desc := "(I)I" } : Jvm.MethodName) ({ cls := "BlobStoreModel", name := "size", desc := "(I)I" } : Jvm.MethodName)) ∈ Tb := tb_t (tt_4 37 rfl) rfl
theorem t4_38 : (Jvm.Cond.code ({ cls := "BlobStoreModel", name := "size", desc := "(I)I" } : Jvm.MethodName) prog_9_method_32_code (4 : Nat) (Option.some Jvm.ClassFile.FieldType.int)) ∈ Tb := tb_t (tt_4 38 rfl) rfl
theorem t4_39 : (Jvm.Cond.methodLink "BlobStoreLaw" (102 : Nat) ({ cls := "BlobStoreModel", name := "byteAt", desc := "(II)I" } : Jvm.MethodName)) ∈ Tb := tb_t (tt_4 39 rfl) rfl
theorem t4_40 : (Jvm.Cond.instanceMethod ({ cls := "BlobStoreModel", name := "byteAt", desc := "(II)I" } : Jvm.MethodName)) ∈ Tb := tb_t (tt_4 40 rfl) rfl
theorem t4_41 : (Jvm.Cond.selects "BlobStoreModel" ({ cls := "BlobStoreModel", name := "byteAt", desc := "(II)I" } : Jvm.MethodName) ({ cls := "BlobStoreModel", name := "byteAt", desc := "(II)I" } : Jvm.MethodName)) ∈ Tb := tb_t (tt_4 41 rfl) rfl
theorem t4_42 : (Jvm.Cond.code ({ cls := "BlobStoreModel", name := "byteAt", desc := "(II)I" } : Jvm.MethodName) prog_9_method_33_code (6 : Nat) (Option.some Jvm.ClassFile.FieldType.int)) ∈ Tb := tb_t (tt_4 42 rfl) rfl
theorem t4_43 : (Jvm.Cond.methodLink "BlobStoreLaw" (105 : Nat) ({ cls := "BlobStoreModel", name := "address", desc := "(II)I" } : Jvm.MethodName)) ∈ Tb := tb_t (tt_4 43 rfl) rfl
theorem t4_44 : (Jvm.Cond.instanceMethod ({ cls := "BlobStoreModel", name := "address", desc := "(II)I" } : Jvm.MethodName)) ∈ Tb := tb_t (tt_4 44 rfl) rfl
theorem t4_45 : (Jvm.Cond.selects "BlobStoreModel" ({ cls := "BlobStoreModel", name := "address", desc := "(II)I" } : Jvm.MethodName) ({ cls := "BlobStoreModel", name := "address", desc := "(II)I" } : Jvm.MethodName)) ∈ Tb := tb_t (tt_4 45 rfl) rfl
theorem t4_46 : (Jvm.Cond.code ({ cls := "BlobStoreModel", name := "address", desc := "(II)I" } : Jvm.MethodName) prog_9_method_35_code (3 : Nat) (Option.some Jvm.ClassFile.FieldType.int)) ∈ Tb := tb_t (tt_4 46 rfl) rfl
theorem t4_47 : (Jvm.Cond.methodLink "BlobStoreModel" (147 : Nat) ({ cls := "BlobStoreModel", name := "hasChunk", desc := "(I)Z" } : Jvm.MethodName)) ∈ Tb := tb_t (tt_4 47 rfl) rfl
theorem u4_48 : (Jvm.Cond.privateMethod ({ cls := "BlobStoreModel", name := "hasChunk", desc := "(I)Z" } : Jvm.MethodName)) ∈ tables_1 := tt_4 48 rfl
theorem t4_49 : (Jvm.Cond.instanceMethod ({ cls := "BlobStoreModel", name := "hasChunk", desc := "(I)Z" } : Jvm.MethodName)) ∈ Tb := tb_t (tt_4 49 rfl) rfl
theorem t4_50 : (Jvm.Cond.code ({ cls := "BlobStoreModel", name := "hasChunk", desc := "(I)Z" } : Jvm.MethodName) prog_9_method_34_code (2 : Nat) (Option.some Jvm.ClassFile.FieldType.boolean)) ∈ Tb := tb_t (tt_4 50 rfl) rfl
theorem t4_51 : (Jvm.Cond.methodLink "BlobStoreModel" (150 : Nat) ({ cls := "BlobStoreModel", name := "addressOf", desc := "(I)V" } : Jvm.MethodName)) ∈ Tb := tb_t (tt_4 51 rfl) rfl
theorem u4_52 : (Jvm.Cond.privateMethod ({ cls := "BlobStoreModel", name := "addressOf", desc := "(I)V" } : Jvm.MethodName)) ∈ tables_1 := tt_4 52 rfl
theorem t4_53 : (Jvm.Cond.instanceMethod ({ cls := "BlobStoreModel", name := "addressOf", desc := "(I)V" } : Jvm.MethodName)) ∈ Tb := tb_t (tt_4 53 rfl) rfl
theorem t4_54 : (Jvm.Cond.code ({ cls := "BlobStoreModel", name := "addressOf", desc := "(I)V" } : Jvm.MethodName) prog_9_method_9_code (9 : Nat) (Option.none : Option Jvm.ClassFile.FieldType)) ∈ Tb := tb_t (tt_4 54 rfl) rfl
theorem t4_55 : (Jvm.Cond.methodLink "BlobStoreModel" (84 : Nat) ({ cls := "BlobStoreModel", name := "turn", desc := "(II)I" } : Jvm.MethodName)) ∈ Tb := tb_t (tt_4 55 rfl) rfl
theorem t4_56 : (Jvm.Cond.static ({ cls := "BlobStoreModel", name := "turn", desc := "(II)I" } : Jvm.MethodName)) ∈ Tb := tb_t (tt_4 56 rfl) rfl
theorem t4_57 : (Jvm.Cond.code ({ cls := "BlobStoreModel", name := "turn", desc := "(II)I" } : Jvm.MethodName) prog_9_method_8_code (2 : Nat) (Option.some Jvm.ClassFile.FieldType.int)) ∈ Tb := tb_t (tt_4 57 rfl) rfl
theorem t4_58 : (Jvm.Cond.methodLink "BlobStoreLaw" (109 : Nat) ({ cls := "BlobStoreModel", name := "needed", desc := "(I)I" } : Jvm.MethodName)) ∈ Tb := tb_t (tt_4 58 rfl) rfl
theorem t4_59 : (Jvm.Cond.instanceMethod ({ cls := "BlobStoreModel", name := "needed", desc := "(I)I" } : Jvm.MethodName)) ∈ Tb := tb_t (tt_4 59 rfl) rfl
theorem t4_60 : (Jvm.Cond.selects "BlobStoreModel" ({ cls := "BlobStoreModel", name := "needed", desc := "(I)I" } : Jvm.MethodName) ({ cls := "BlobStoreModel", name := "needed", desc := "(I)I" } : Jvm.MethodName)) ∈ Tb := tb_t (tt_4 60 rfl) rfl
theorem t4_61 : (Jvm.Cond.code ({ cls := "BlobStoreModel", name := "needed", desc := "(I)I" } : Jvm.MethodName) prog_9_method_36_code (2 : Nat) (Option.some Jvm.ClassFile.FieldType.int)) ∈ Tb := tb_t (tt_4 61 rfl) rfl
theorem t4_62 : (Jvm.Cond.methodLink "BlobStoreLaw" (114 : Nat) ({ cls := "BlobStoreModel", name := "slotOf", desc := "(IJ)I" } : Jvm.MethodName)) ∈ Tb := tb_t (tt_4 62 rfl) rfl
theorem t4_63 : (Jvm.Cond.instanceMethod ({ cls := "BlobStoreModel", name := "slotOf", desc := "(IJ)I" } : Jvm.MethodName)) ∈ Tb := tb_t (tt_4 63 rfl) rfl
theorem t4_64 : (Jvm.Cond.selects "BlobStoreModel" ({ cls := "BlobStoreModel", name := "slotOf", desc := "(IJ)I" } : Jvm.MethodName) ({ cls := "BlobStoreModel", name := "slotOf", desc := "(IJ)I" } : Jvm.MethodName)) ∈ Tb := tb_t (tt_4 64 rfl) rfl
theorem t4_65 : (Jvm.Cond.code ({ cls := "BlobStoreModel", name := "slotOf", desc := "(IJ)I" } : Jvm.MethodName) prog_9_method_37_code (4 : Nat) (Option.some Jvm.ClassFile.FieldType.int)) ∈ Tb := tb_t (tt_4 65 rfl) rfl
theorem t4_66 : (Jvm.Cond.methodLink "BlobStoreLaw" (118 : Nat) ({ cls := "BlobStoreModel", name := "state", desc := "(I)I" } : Jvm.MethodName)) ∈ Tb := tb_t (tt_4 66 rfl) rfl
theorem t4_67 : (Jvm.Cond.instanceMethod ({ cls := "BlobStoreModel", name := "state", desc := "(I)I" } : Jvm.MethodName)) ∈ Tb := tb_t (tt_4 67 rfl) rfl
theorem t4_68 : (Jvm.Cond.selects "BlobStoreModel" ({ cls := "BlobStoreModel", name := "state", desc := "(I)I" } : Jvm.MethodName) ({ cls := "BlobStoreModel", name := "state", desc := "(I)I" } : Jvm.MethodName)) ∈ Tb := tb_t (tt_4 68 rfl) rfl
theorem t4_69 : (Jvm.Cond.code ({ cls := "BlobStoreModel", name := "state", desc := "(I)I" } : Jvm.MethodName) prog_9_method_38_code (4 : Nat) (Option.some Jvm.ClassFile.FieldType.int)) ∈ Tb := tb_t (tt_4 69 rfl) rfl
theorem t4_70 : (Jvm.Cond.constantLong "BlobStoreLaw" (59 : Nat) (4294967295 : Int64)) ∈ Tb := tb_t (tt_4 70 rfl) rfl
theorem u4_71 : (Jvm.Cond.sameMethod "java/lang/Throwable" "java/lang/Throwable" "fillInStackTrace" "(I)Ljava/lang/Throwable;") ∈ tables_1 := tt_4 71 rfl
theorem s_0 : Cond.selects "BlobStore$Power" ⟨"BlobStore$Power", "turnOn", "()Z"⟩ ⟨"BlobStore$Power", "turnOn", "()Z"⟩ ∈ Tb := tb_s (q := (⟨"BlobStore$Power", "turnOn", "()Z"⟩, 3)) (by decide +kernel) rfl
theorem s_1 : Cond.selects "BlobStore" ⟨"BlobStore", "livingVersion", "(I)LBlobStore$Version;"⟩ ⟨"BlobStore", "livingVersion", "(I)LBlobStore$Version;"⟩ ∈ Tb := tb_s (q := (⟨"BlobStore", "livingVersion", "(I)LBlobStore$Version;"⟩, 10)) (by decide +kernel) rfl
theorem s_2 : Cond.selects "BlobStore$Chunk" ⟨"BlobStore$Chunk", "byteOf", "(I)I"⟩ ⟨"BlobStore$Chunk", "byteOf", "(I)I"⟩ ∈ Tb := tb_s (q := (⟨"BlobStore$Chunk", "byteOf", "(I)I"⟩, 3)) (by decide +kernel) rfl
theorem s_3 : Cond.selects "BlobStore" ⟨"BlobStore", "hasChunk", "(I)Z"⟩ ⟨"BlobStore", "hasChunk", "(I)Z"⟩ ∈ Tb := tb_s (q := (⟨"BlobStore", "hasChunk", "(I)Z"⟩, 10)) (by decide +kernel) rfl
theorem s_4 : Cond.selects "BlobStore$Chunk" ⟨"BlobStore$Chunk", "isFree", "()Z"⟩ ⟨"BlobStore$Chunk", "isFree", "()Z"⟩ ∈ Tb := tb_s (q := (⟨"BlobStore$Chunk", "isFree", "()Z"⟩, 3)) (by decide +kernel) rfl
theorem s_5 : Cond.selects "BlobStore" ⟨"BlobStore", "countNeeds", "()V"⟩ ⟨"BlobStore", "countNeeds", "()V"⟩ ∈ Tb := tb_s (q := (⟨"BlobStore", "countNeeds", "()V"⟩, 10)) (by decide +kernel) rfl
theorem s_6 : Cond.selects "BlobStore$Session" ⟨"BlobStore$Session", "countInto", "([I)V"⟩ ⟨"BlobStore$Session", "countInto", "([I)V"⟩ ∈ Tb := tb_s (q := (⟨"BlobStore$Session", "countInto", "([I)V"⟩, 4)) (by decide +kernel) rfl
theorem s_7 : Cond.selects "BlobStore$Row" ⟨"BlobStore$Row", "countInto", "([I)V"⟩ ⟨"BlobStore$Row", "countInto", "([I)V"⟩ ∈ Tb := tb_s (q := (⟨"BlobStore$Row", "countInto", "([I)V"⟩, 2)) (by decide +kernel) rfl
theorem s_8 : Cond.selects "BlobStore$Chunk" ⟨"BlobStore$Chunk", "fill", "(IJLBlobStore$Sha256;)V"⟩ ⟨"BlobStore$Chunk", "fill", "(IJLBlobStore$Sha256;)V"⟩ ∈ Tb := tb_s (q := (⟨"BlobStore$Chunk", "fill", "(IJLBlobStore$Sha256;)V"⟩, 3)) (by decide +kernel) rfl
theorem s_9 : Cond.selects "BlobStore$Sha256" ⟨"BlobStore$Sha256", "digest", "(IJ[I)V"⟩ ⟨"BlobStore$Sha256", "digest", "(IJ[I)V"⟩ ∈ Tb := tb_s (q := (⟨"BlobStore$Sha256", "digest", "(IJ[I)V"⟩, 1)) (by decide +kernel) rfl
theorem s_10 : Cond.selects "BlobStore$Sha256" ⟨"BlobStore$Sha256", "padBlock", "(IJ)V"⟩ ⟨"BlobStore$Sha256", "padBlock", "(IJ)V"⟩ ∈ Tb := tb_s (q := (⟨"BlobStore$Sha256", "padBlock", "(IJ)V"⟩, 1)) (by decide +kernel) rfl
theorem s_11 : Cond.selects "BlobStore$Sha256" ⟨"BlobStore$Sha256", "expandBlock", "()V"⟩ ⟨"BlobStore$Sha256", "expandBlock", "()V"⟩ ∈ Tb := tb_s (q := (⟨"BlobStore$Sha256", "expandBlock", "()V"⟩, 1)) (by decide +kernel) rfl
theorem s_12 : Cond.selects "BlobStore$Sha256" ⟨"BlobStore$Sha256", "mixBlock", "([I)V"⟩ ⟨"BlobStore$Sha256", "mixBlock", "([I)V"⟩ ∈ Tb := tb_s (q := (⟨"BlobStore$Sha256", "mixBlock", "([I)V"⟩, 1)) (by decide +kernel) rfl
theorem s_13 : Cond.selects "BlobStore" ⟨"BlobStore", "slotWith", "(LBlobStore$Chunk;)I"⟩ ⟨"BlobStore", "slotWith", "(LBlobStore$Chunk;)I"⟩ ∈ Tb := tb_s (q := (⟨"BlobStore", "slotWith", "(LBlobStore$Chunk;)I"⟩, 10)) (by decide +kernel) rfl
theorem s_14 : Cond.selects "BlobStore$Chunk" ⟨"BlobStore$Chunk", "isLike", "(LBlobStore$Chunk;)Z"⟩ ⟨"BlobStore$Chunk", "isLike", "(LBlobStore$Chunk;)Z"⟩ ∈ Tb := tb_s (q := (⟨"BlobStore$Chunk", "isLike", "(LBlobStore$Chunk;)Z"⟩, 3)) (by decide +kernel) rfl
theorem s_15 : Cond.selects "BlobStore" ⟨"BlobStore", "countChunks", "()I"⟩ ⟨"BlobStore", "countChunks", "()I"⟩ ∈ Tb := tb_s (q := (⟨"BlobStore", "countChunks", "()I"⟩, 10)) (by decide +kernel) rfl
theorem s_16 : Cond.selects "BlobStore" ⟨"BlobStore", "countOpenSessions", "()I"⟩ ⟨"BlobStore", "countOpenSessions", "()I"⟩ ∈ Tb := tb_s (q := (⟨"BlobStore", "countOpenSessions", "()I"⟩, 10)) (by decide +kernel) rfl
theorem s_17 : Cond.selects "BlobStore" ⟨"BlobStore", "countLivingVersions", "()I"⟩ ⟨"BlobStore", "countLivingVersions", "()I"⟩ ∈ Tb := tb_s (q := (⟨"BlobStore", "countLivingVersions", "()I"⟩, 10)) (by decide +kernel) rfl
theorem s_18 : Cond.selects "BlobStore$Power" ⟨"BlobStore$Power", "requireOn", "()V"⟩ ⟨"BlobStore$Power", "requireOn", "()V"⟩ ∈ Tb := tb_s (q := (⟨"BlobStore$Power", "requireOn", "()V"⟩, 3)) (by decide +kernel) rfl
theorem s_19 : Cond.selects "java/lang/Throwable" ⟨"java/lang/Throwable", "fillInStackTrace", "(I)Ljava/lang/Throwable;"⟩ ⟨"java/lang/Throwable", "fillInStackTrace", "(I)Ljava/lang/Throwable;"⟩ ∈ Tb := tb_s (q := (⟨"java/lang/Throwable", "fillInStackTrace", "(I)Ljava/lang/Throwable;"⟩, 6)) (by decide +kernel) rfl
theorem s_20 : Cond.selects "BlobStore" ⟨"BlobStore", "leastClosedSession", "()I"⟩ ⟨"BlobStore", "leastClosedSession", "()I"⟩ ∈ Tb := tb_s (q := (⟨"BlobStore", "leastClosedSession", "()I"⟩, 10)) (by decide +kernel) rfl
theorem s_21 : Cond.selects "BlobStore$Power" ⟨"BlobStore$Power", "spendWrite", "()V"⟩ ⟨"BlobStore$Power", "spendWrite", "()V"⟩ ∈ Tb := tb_s (q := (⟨"BlobStore$Power", "spendWrite", "()V"⟩, 3)) (by decide +kernel) rfl
theorem s_22 : Cond.selects "BlobStore$Session" ⟨"BlobStore$Session", "start", "(II)V"⟩ ⟨"BlobStore$Session", "start", "(II)V"⟩ ∈ Tb := tb_s (q := (⟨"BlobStore$Session", "start", "(II)V"⟩, 4)) (by decide +kernel) rfl
theorem s_23 : Cond.selects "BlobStore" ⟨"BlobStore", "openSession", "(I)LBlobStore$Session;"⟩ ⟨"BlobStore", "openSession", "(I)LBlobStore$Session;"⟩ ∈ Tb := tb_s (q := (⟨"BlobStore", "openSession", "(I)LBlobStore$Session;"⟩, 10)) (by decide +kernel) rfl
theorem s_24 : Cond.selects "BlobStore" ⟨"BlobStore", "cutIntoChunks", "(IJJJ)I"⟩ ⟨"BlobStore", "cutIntoChunks", "(IJJJ)I"⟩ ∈ Tb := tb_s (q := (⟨"BlobStore", "cutIntoChunks", "(IJJJ)I"⟩, 10)) (by decide +kernel) rfl
theorem s_25 : Cond.selects "BlobStore" ⟨"BlobStore", "planSlots", "(I)V"⟩ ⟨"BlobStore", "planSlots", "(I)V"⟩ ∈ Tb := tb_s (q := (⟨"BlobStore", "planSlots", "(I)V"⟩, 10)) (by decide +kernel) rfl
theorem s_26 : Cond.selects "BlobStore" ⟨"BlobStore", "plannedSlot", "(I)I"⟩ ⟨"BlobStore", "plannedSlot", "(I)I"⟩ ∈ Tb := tb_s (q := (⟨"BlobStore", "plannedSlot", "(I)I"⟩, 10)) (by decide +kernel) rfl
theorem s_27 : Cond.selects "BlobStore" ⟨"BlobStore", "leastFreeSlot", "(I)I"⟩ ⟨"BlobStore", "leastFreeSlot", "(I)I"⟩ ∈ Tb := tb_s (q := (⟨"BlobStore", "leastFreeSlot", "(I)I"⟩, 10)) (by decide +kernel) rfl
theorem s_28 : Cond.selects "BlobStore$Row" ⟨"BlobStore$Row", "add", "(I)V"⟩ ⟨"BlobStore$Row", "add", "(I)V"⟩ ∈ Tb := tb_s (q := (⟨"BlobStore$Row", "add", "(I)V"⟩, 2)) (by decide +kernel) rfl
theorem s_29 : Cond.selects "BlobStore" ⟨"BlobStore", "writeChunks", "(I)I"⟩ ⟨"BlobStore", "writeChunks", "(I)I"⟩ ∈ Tb := tb_s (q := (⟨"BlobStore", "writeChunks", "(I)I"⟩, 10)) (by decide +kernel) rfl
theorem s_30 : Cond.selects "BlobStore$Chunk" ⟨"BlobStore$Chunk", "copyFrom", "(LBlobStore$Chunk;)V"⟩ ⟨"BlobStore$Chunk", "copyFrom", "(LBlobStore$Chunk;)V"⟩ ∈ Tb := tb_s (q := (⟨"BlobStore$Chunk", "copyFrom", "(LBlobStore$Chunk;)V"⟩, 3)) (by decide +kernel) rfl
theorem s_31 : Cond.selects "BlobStore$Row" ⟨"BlobStore$Row", "copyFrom", "(LBlobStore$Row;)V"⟩ ⟨"BlobStore$Row", "copyFrom", "(LBlobStore$Row;)V"⟩ ∈ Tb := tb_s (q := (⟨"BlobStore$Row", "copyFrom", "(LBlobStore$Row;)V"⟩, 2)) (by decide +kernel) rfl
theorem s_32 : Cond.selects "BlobStore$Row" ⟨"BlobStore$Row", "addAll", "(LBlobStore$Row;)V"⟩ ⟨"BlobStore$Row", "addAll", "(LBlobStore$Row;)V"⟩ ∈ Tb := tb_s (q := (⟨"BlobStore$Row", "addAll", "(LBlobStore$Row;)V"⟩, 2)) (by decide +kernel) rfl
theorem s_33 : Cond.selects "BlobStore$Version" ⟨"BlobStore$Version", "comeFrom", "(LBlobStore$Session;)V"⟩ ⟨"BlobStore$Version", "comeFrom", "(LBlobStore$Session;)V"⟩ ∈ Tb := tb_s (q := (⟨"BlobStore$Version", "comeFrom", "(LBlobStore$Session;)V"⟩, 4)) (by decide +kernel) rfl
theorem s_34 : Cond.selects "BlobStore$Chunk" ⟨"BlobStore$Chunk", "free", "()V"⟩ ⟨"BlobStore$Chunk", "free", "()V"⟩ ∈ Tb := tb_s (q := (⟨"BlobStore$Chunk", "free", "()V"⟩, 3)) (by decide +kernel) rfl
theorem s_35 : Cond.selects "BlobStore$Power" ⟨"BlobStore$Power", "tellCut", "(I)V"⟩ ⟨"BlobStore$Power", "tellCut", "(I)V"⟩ ∈ Tb := tb_s (q := (⟨"BlobStore$Power", "tellCut", "(I)V"⟩, 3)) (by decide +kernel) rfl
theorem s_36 : Cond.selects "BlobStoreModel" ⟨"BlobStoreModel", "root", "(II)I"⟩ ⟨"BlobStoreModel", "root", "(II)I"⟩ ∈ Tb := tb_s (q := (⟨"BlobStoreModel", "root", "(II)I"⟩, 22)) (by decide +kernel) rfl
theorem s_37 : Cond.selects "BlobStoreModel" ⟨"BlobStoreModel", "isAbove", "(JII)Z"⟩ ⟨"BlobStoreModel", "isAbove", "(JII)Z"⟩ ∈ Tb := tb_s (q := (⟨"BlobStoreModel", "isAbove", "(JII)Z"⟩, 22)) (by decide +kernel) rfl
theorem s_38 : Cond.selects "BlobStoreModel" ⟨"BlobStoreModel", "says", "(I)Z"⟩ ⟨"BlobStoreModel", "says", "(I)Z"⟩ ∈ Tb := tb_s (q := (⟨"BlobStoreModel", "says", "(I)Z"⟩, 22)) (by decide +kernel) rfl
theorem s_39 : Cond.selects "BlobStoreModel" ⟨"BlobStoreModel", "writes", "(I)Z"⟩ ⟨"BlobStoreModel", "writes", "(I)Z"⟩ ∈ Tb := tb_s (q := (⟨"BlobStoreModel", "writes", "(I)Z"⟩, 22)) (by decide +kernel) rfl
theorem s_40 : Cond.selects "BlobStoreModel" ⟨"BlobStoreModel", "isOpen", "(I)Z"⟩ ⟨"BlobStoreModel", "isOpen", "(I)Z"⟩ ∈ Tb := tb_s (q := (⟨"BlobStoreModel", "isOpen", "(I)Z"⟩, 22)) (by decide +kernel) rfl
theorem s_41 : Cond.selects "BlobStoreModel" ⟨"BlobStoreModel", "lay", "(JJJ)V"⟩ ⟨"BlobStoreModel", "lay", "(JJJ)V"⟩ ∈ Tb := tb_s (q := (⟨"BlobStoreModel", "lay", "(JJJ)V"⟩, 22)) (by decide +kernel) rfl
theorem s_42 : Cond.selects "BlobStoreModel" ⟨"BlobStoreModel", "missing", "(I)I"⟩ ⟨"BlobStoreModel", "missing", "(I)I"⟩ ∈ Tb := tb_s (q := (⟨"BlobStoreModel", "missing", "(I)I"⟩, 22)) (by decide +kernel) rfl
theorem s_43 : Cond.selects "BlobStoreModel" ⟨"BlobStoreModel", "find", "(II)I"⟩ ⟨"BlobStoreModel", "find", "(II)I"⟩ ∈ Tb := tb_s (q := (⟨"BlobStoreModel", "find", "(II)I"⟩, 22)) (by decide +kernel) rfl
theorem s_44 : Cond.selects "BlobStoreModel" ⟨"BlobStoreModel", "isThere", "(III)Z"⟩ ⟨"BlobStoreModel", "isThere", "(III)Z"⟩ ∈ Tb := tb_s (q := (⟨"BlobStoreModel", "isThere", "(III)Z"⟩, 22)) (by decide +kernel) rfl
theorem s_45 : Cond.selects "BlobStoreModel" ⟨"BlobStoreModel", "isAlike", "(III)Z"⟩ ⟨"BlobStoreModel", "isAlike", "(III)Z"⟩ ∈ Tb := tb_s (q := (⟨"BlobStoreModel", "isAlike", "(III)Z"⟩, 22)) (by decide +kernel) rfl
theorem s_46 : Cond.selects "BlobStoreModel" ⟨"BlobStoreModel", "freeSlots", "()I"⟩ ⟨"BlobStoreModel", "freeSlots", "()I"⟩ ∈ Tb := tb_s (q := (⟨"BlobStoreModel", "freeSlots", "()I"⟩, 22)) (by decide +kernel) rfl
theorem s_47 : Cond.selects "BlobStoreModel" ⟨"BlobStoreModel", "firstFree", "()I"⟩ ⟨"BlobStoreModel", "firstFree", "()I"⟩ ∈ Tb := tb_s (q := (⟨"BlobStoreModel", "firstFree", "()I"⟩, 22)) (by decide +kernel) rfl
theorem s_48 : Cond.selects "BlobStoreModel" ⟨"BlobStoreModel", "isLiving", "(I)Z"⟩ ⟨"BlobStoreModel", "isLiving", "(I)Z"⟩ ∈ Tb := tb_s (q := (⟨"BlobStoreModel", "isLiving", "(I)Z"⟩, 22)) (by decide +kernel) rfl
theorem s_49 : Cond.selects "BlobStoreModel" ⟨"BlobStoreModel", "need", "(I)I"⟩ ⟨"BlobStoreModel", "need", "(I)I"⟩ ∈ Tb := tb_s (q := (⟨"BlobStoreModel", "need", "(I)I"⟩, 22)) (by decide +kernel) rfl
theorem s_50 : Cond.selects "BlobStoreModel" ⟨"BlobStoreModel", "slotAt", "(II)I"⟩ ⟨"BlobStoreModel", "slotAt", "(II)I"⟩ ∈ Tb := tb_s (q := (⟨"BlobStoreModel", "slotAt", "(II)I"⟩, 22)) (by decide +kernel) rfl
theorem s_51 : Cond.selects "BlobStoreModel" ⟨"BlobStoreModel", "hasChunk", "(I)Z"⟩ ⟨"BlobStoreModel", "hasChunk", "(I)Z"⟩ ∈ Tb := tb_s (q := (⟨"BlobStoreModel", "hasChunk", "(I)Z"⟩, 22)) (by decide +kernel) rfl
theorem s_52 : Cond.selects "BlobStoreModel" ⟨"BlobStoreModel", "addressOf", "(I)V"⟩ ⟨"BlobStoreModel", "addressOf", "(I)V"⟩ ∈ Tb := tb_s (q := (⟨"BlobStoreModel", "addressOf", "(I)V"⟩, 22)) (by decide +kernel) rfl
