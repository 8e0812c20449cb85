theorem in_t1 {w : Cond} (h : w ∈ tables_1_1) : w ∈ lw_tbl := List.mem_append_right _ (show w ∈ tables_1 from List.mem_append_left _ h)
theorem in_t2 {w : Cond} (h : w ∈ tables_1_2) : w ∈ lw_tbl := List.mem_append_right _ (show w ∈ tables_1 from List.mem_append_right _ (List.mem_append_left _ h))
theorem in_t3 {w : Cond} (h : w ∈ tables_1_3) : w ∈ lw_tbl := List.mem_append_right _ (show w ∈ tables_1 from List.mem_append_right _ (List.mem_append_right _ (List.mem_append_left _ h)))
theorem in_t4 {w : Cond} (h : w ∈ tables_1_4) : w ∈ lw_tbl := List.mem_append_right _ (show w ∈ tables_1 from List.mem_append_right _ (List.mem_append_right _ (List.mem_append_right _ (List.mem_append_left _ h))))
theorem in_t5 {w : Cond} (h : w ∈ tables_1_5) : w ∈ lw_tbl := List.mem_append_right _ (show w ∈ tables_1 from List.mem_append_right _ (List.mem_append_right _ (List.mem_append_right _ (List.mem_append_right _ (List.mem_append_left _ h)))))
theorem in_t6 {w : Cond} (h : w ∈ tables_1_6) : w ∈ lw_tbl := List.mem_append_right _ (show w ∈ tables_1 from List.mem_append_right _ (List.mem_append_right _ (List.mem_append_right _ (List.mem_append_right _ (List.mem_append_right _ (h))))))
set_option maxRecDepth 20000 in
theorem t_0 : (Jvm.Cond.initialized "LineStoreLaw") ∈ lw_tbl := in_t1 (List.mem_of_getElem? (i := 0) rfl)
set_option maxRecDepth 20000 in
theorem t_1 : (Jvm.Cond.initialized "LineStore") ∈ lw_tbl := in_t1 (List.mem_of_getElem? (i := 1) rfl)
set_option maxRecDepth 20000 in
theorem t_2 : (Jvm.Cond.initialized "LineStore$Tape") ∈ lw_tbl := in_t1 (List.mem_of_getElem? (i := 2) rfl)
set_option maxRecDepth 20000 in
theorem t_3 : (Jvm.Cond.initialized "LineStore$Laws") ∈ lw_tbl := in_t1 (List.mem_of_getElem? (i := 3) rfl)
set_option maxRecDepth 20000 in
theorem t_4 : (Jvm.Cond.initialized "LineStore$Ones") ∈ lw_tbl := in_t1 (List.mem_of_getElem? (i := 4) rfl)
set_option maxRecDepth 20000 in
theorem t_5 : (Jvm.Cond.initialized "LineStore$Ends") ∈ lw_tbl := in_t1 (List.mem_of_getElem? (i := 5) rfl)
set_option maxRecDepth 20000 in
theorem t_6 : (Jvm.Cond.initialized "LineStore$Lines") ∈ lw_tbl := in_t1 (List.mem_of_getElem? (i := 6) rfl)
set_option maxRecDepth 20000 in
theorem t_7 : (Jvm.Cond.initialized "java/util/AbstractCollection") ∈ lw_tbl := in_t1 (List.mem_of_getElem? (i := 7) rfl)
set_option maxRecDepth 20000 in
theorem t_8 : (Jvm.Cond.initialized "java/util/AbstractList") ∈ lw_tbl := in_t1 (List.mem_of_getElem? (i := 8) rfl)
set_option maxRecDepth 20000 in
theorem t_9 : (Jvm.Cond.initialized "java/util/ArrayList") ∈ lw_tbl := in_t1 (List.mem_of_getElem? (i := 9) rfl)
set_option maxRecDepth 20000 in
theorem t_10 : (Jvm.Cond.initialized "LineStore$Reader") ∈ lw_tbl := in_t1 (List.mem_of_getElem? (i := 10) rfl)
set_option maxRecDepth 20000 in
theorem t_11 : (Jvm.Cond.initialized "LineStore$Matcher") ∈ lw_tbl := in_t1 (List.mem_of_getElem? (i := 11) rfl)
set_option maxRecDepth 20000 in
theorem t_12 : (Jvm.Cond.initialized "LineStore$Question") ∈ lw_tbl := in_t1 (List.mem_of_getElem? (i := 12) rfl)
set_option maxRecDepth 20000 in
theorem t_13 : (Jvm.Cond.initialized "LineStoreModel") ∈ lw_tbl := in_t1 (List.mem_of_getElem? (i := 13) rfl)
set_option maxRecDepth 20000 in
theorem t_14 : (Jvm.Cond.initialized "java/lang/Math") ∈ lw_tbl := in_t1 (List.mem_of_getElem? (i := 14) rfl)
set_option maxRecDepth 20000 in
theorem t_15 : (Jvm.Cond.initialized "java/lang/Throwable") ∈ lw_tbl := in_t1 (List.mem_of_getElem? (i := 15) rfl)
set_option maxRecDepth 20000 in
theorem t_16 : (Jvm.Cond.initialized "java/lang/Exception") ∈ lw_tbl := in_t1 (List.mem_of_getElem? (i := 16) rfl)
set_option maxRecDepth 20000 in
theorem t_17 : (Jvm.Cond.initialized "java/lang/RuntimeException") ∈ lw_tbl := in_t1 (List.mem_of_getElem? (i := 17) rfl)
set_option maxRecDepth 20000 in
theorem t_18 : (Jvm.Cond.initialized "java/lang/IndexOutOfBoundsException") ∈ lw_tbl := in_t1 (List.mem_of_getElem? (i := 18) rfl)
set_option maxRecDepth 20000 in
theorem t_19 : (Jvm.Cond.initialized "java/lang/IllegalArgumentException") ∈ lw_tbl := in_t1 (List.mem_of_getElem? (i := 19) rfl)
set_option maxRecDepth 20000 in
theorem t_20 : (Jvm.Cond.initialized "java/lang/UnsupportedOperationException") ∈ lw_tbl := in_t1 (List.mem_of_getElem? (i := 20) rfl)
set_option maxRecDepth 20000 in
theorem t_21 : (Jvm.Cond.initialized "LineStore$Line") ∈ lw_tbl := in_t1 (List.mem_of_getElem? (i := 21) rfl)
set_option maxRecDepth 20000 in
theorem t_22 : (Jvm.Cond.initialized "java/lang/System") ∈ lw_tbl := in_t1 (List.mem_of_getElem? (i := 22) rfl)
set_option maxRecDepth 20000 in
theorem t_23 : (Jvm.Cond.initialized "java/util/Objects") ∈ lw_tbl := in_t1 (List.mem_of_getElem? (i := 23) rfl)
set_option maxRecDepth 20000 in
theorem t_24 : (Jvm.Cond.initialized "jdk/internal/util/Preconditions") ∈ lw_tbl := in_t1 (List.mem_of_getElem? (i := 24) rfl)
set_option maxRecDepth 20000 in
theorem t_25 : (Jvm.Cond.initialized "jdk/internal/util/ArraysSupport") ∈ lw_tbl := in_t1 (List.mem_of_getElem? (i := 25) rfl)
set_option maxRecDepth 20000 in
theorem t_26 : (Jvm.Cond.initialized "java/util/Arrays") ∈ lw_tbl := in_t1 (List.mem_of_getElem? (i := 26) rfl)
set_option maxRecDepth 20000 in
theorem t_27 : (Jvm.Cond.initialized "java/util/NoSuchElementException") ∈ lw_tbl := in_t1 (List.mem_of_getElem? (i := 27) rfl)
set_option maxRecDepth 20000 in
theorem t_28 : (Jvm.Cond.initialized "java/lang/String") ∈ lw_tbl := in_t1 (List.mem_of_getElem? (i := 28) rfl)
set_option maxRecDepth 20000 in
theorem t_29 : (Jvm.Cond.initialized "java/lang/StringLatin1") ∈ lw_tbl := in_t1 (List.mem_of_getElem? (i := 29) rfl)
set_option maxRecDepth 20000 in
theorem t_30 : (Jvm.Cond.initialized "java/lang/StringUTF16") ∈ lw_tbl := in_t1 (List.mem_of_getElem? (i := 30) rfl)
set_option maxRecDepth 20000 in
theorem t_31 : (Jvm.Cond.initialized "java/lang/Long") ∈ lw_tbl := in_t1 (List.mem_of_getElem? (i := 31) rfl)
set_option maxRecDepth 20000 in
theorem t_32 : (Jvm.Cond.initialized "java/lang/Integer") ∈ lw_tbl := in_t1 (List.mem_of_getElem? (i := 32) rfl)
set_option maxRecDepth 20000 in
theorem t_33 : (Jvm.Cond.classLink "LineStoreLaw" (8 : Nat) "LineStore") ∈ lw_tbl := in_t1 (List.mem_of_getElem? (i := 33) rfl)
set_option maxRecDepth 20000 in
theorem t_34 : (Jvm.Cond.instantiable "LineStore" (10 : Nat)) ∈ lw_tbl := in_t1 (List.mem_of_getElem? (i := 34) rfl)
set_option maxRecDepth 20000 in
theorem t_35 : (Jvm.Cond.methodLink "LineStoreLaw" (66 : Nat) ({ cls := "LineStore", name := "<init>", desc := "()V" } : Jvm.MethodName)) ∈ lw_tbl := in_t1 (List.mem_of_getElem? (i := 35) rfl)
set_option maxRecDepth 20000 in
theorem t_36 : (Jvm.Cond.instanceMethod ({ cls := "LineStore", name := "<init>", desc := "()V" } : Jvm.MethodName)) ∈ lw_tbl := in_t1 (List.mem_of_getElem? (i := 36) rfl)
set_option maxRecDepth 20000 in
theorem t_37 : (Jvm.Cond.code ({ cls := "LineStore", name := "<init>", desc := "()V" } : Jvm.MethodName) prog_1_method_1_code (1 : Nat) (Option.none : Option Jvm.ClassFile.FieldType)) ∈ lw_tbl := in_t1 (List.mem_of_getElem? (i := 37) rfl)
set_option maxRecDepth 20000 in
theorem t_38 : (Jvm.Cond.methodLink "LineStore" (3 : Nat) ({ cls := "java/lang/Object", name := "<init>", desc := "()V" } : Jvm.MethodName)) ∈ lw_tbl := in_t1 (List.mem_of_getElem? (i := 38) rfl)
set_option maxRecDepth 20000 in
theorem t_39 : (Jvm.Cond.instanceMethod ({ cls := "java/lang/Object", name := "<init>", desc := "()V" } : Jvm.MethodName)) ∈ lw_tbl := in_t1 (List.mem_of_getElem? (i := 39) rfl)
set_option maxRecDepth 20000 in
theorem t_40 : (Jvm.Cond.code ({ cls := "java/lang/Object", name := "<init>", desc := "()V" } : Jvm.MethodName) object_method_1_code (1 : Nat) (Option.none : Option Jvm.ClassFile.FieldType)) ∈ lw_tbl := in_t1 (List.mem_of_getElem? (i := 40) rfl)
set_option maxRecDepth 20000 in
theorem t_41 : (Jvm.Cond.classLink "LineStore" (9 : Nat) "LineStore$Tape") ∈ lw_tbl := in_t1 (List.mem_of_getElem? (i := 41) rfl)
set_option maxRecDepth 20000 in
theorem t_42 : (Jvm.Cond.instantiable "LineStore$Tape" (2 : Nat)) ∈ lw_tbl := in_t1 (List.mem_of_getElem? (i := 42) rfl)
set_option maxRecDepth 20000 in
theorem t_43 : (Jvm.Cond.methodLinkNest "LineStore" (11 : Nat) ({ cls := "LineStore$Tape", name := "<init>", desc := "()V" } : Jvm.MethodName) "LineStore") ∈ lw_tbl := in_t1 (List.mem_of_getElem? (i := 43) rfl)
set_option maxRecDepth 20000 in
theorem t_44 : (Jvm.Cond.instanceMethod ({ cls := "LineStore$Tape", name := "<init>", desc := "()V" } : Jvm.MethodName)) ∈ lw_tbl := in_t1 (List.mem_of_getElem? (i := 44) rfl)
set_option maxRecDepth 20000 in
theorem t_45 : (Jvm.Cond.code ({ cls := "LineStore$Tape", name := "<init>", desc := "()V" } : Jvm.MethodName) prog_10_method_1_code (1 : Nat) (Option.none : Option Jvm.ClassFile.FieldType)) ∈ lw_tbl := in_t1 (List.mem_of_getElem? (i := 45) rfl)
set_option maxRecDepth 20000 in
theorem t_46 : (Jvm.Cond.methodLink "LineStore$Tape" (3 : Nat) ({ cls := "java/lang/Object", name := "<init>", desc := "()V" } : Jvm.MethodName)) ∈ lw_tbl := in_t1 (List.mem_of_getElem? (i := 46) rfl)
set_option maxRecDepth 20000 in
theorem t_47 : (Jvm.Cond.fieldLink "LineStore$Tape" (9 : Nat) "LineStore$Tape" "bytes" "[I") ∈ lw_tbl := in_t1 (List.mem_of_getElem? (i := 47) rfl)
set_option maxRecDepth 20000 in
theorem t_48 : (Jvm.Cond.fieldLink "LineStore$Tape" (15 : Nat) "LineStore$Tape" "length" "I") ∈ lw_tbl := in_t1 (List.mem_of_getElem? (i := 48) rfl)
set_option maxRecDepth 20000 in
theorem t_49 : (Jvm.Cond.laysFinal "LineStore$Tape" "LineStore$Tape" "bytes" "[I") ∈ lw_tbl := in_t1 (List.mem_of_getElem? (i := 49) rfl)
set_option maxRecDepth 20000 in
theorem t_50 : (Jvm.Cond.soleField "LineStore$Tape" "bytes") ∈ lw_tbl := in_t1 (List.mem_of_getElem? (i := 50) rfl)
set_option maxRecDepth 20000 in
theorem t_51 : (Jvm.Cond.lays "LineStore$Tape" "LineStore$Tape" "length" "I") ∈ lw_tbl := in_t1 (List.mem_of_getElem? (i := 51) rfl)
set_option maxRecDepth 20000 in
theorem t_52 : (Jvm.Cond.soleField "LineStore$Tape" "length") ∈ lw_tbl := in_t1 (List.mem_of_getElem? (i := 52) rfl)
set_option maxRecDepth 20000 in
theorem t_53 : (Jvm.Cond.superclass "LineStore$Tape" "java/lang/Object") ∈ lw_tbl := in_t1 (List.mem_of_getElem? (i := 53) rfl)
set_option maxRecDepth 20000 in
theorem t_54 : (Jvm.Cond.arrayClass Jvm.ClassFile.FieldType.int) ∈ lw_tbl := in_t1 (List.mem_of_getElem? (i := 54) rfl)
set_option maxRecDepth 20000 in
theorem t_55 : (Jvm.Cond.classLink "LineStore" (16 : Nat) "LineStore$Laws") ∈ lw_tbl := in_t1 (List.mem_of_getElem? (i := 55) rfl)
set_option maxRecDepth 20000 in
theorem t_56 : (Jvm.Cond.instantiable "LineStore$Laws" (4 : Nat)) ∈ lw_tbl := in_t1 (List.mem_of_getElem? (i := 56) rfl)
set_option maxRecDepth 20000 in
theorem t_57 : (Jvm.Cond.methodLink "LineStore" (18 : Nat) ({ cls := "LineStore$Laws", name := "<init>", desc := "()V" } : Jvm.MethodName)) ∈ lw_tbl := in_t1 (List.mem_of_getElem? (i := 57) rfl)
set_option maxRecDepth 20000 in
theorem t_58 : (Jvm.Cond.instanceMethod ({ cls := "LineStore$Laws", name := "<init>", desc := "()V" } : Jvm.MethodName)) ∈ lw_tbl := in_t1 (List.mem_of_getElem? (i := 58) rfl)
set_option maxRecDepth 20000 in
theorem t_59 : (Jvm.Cond.code ({ cls := "LineStore$Laws", name := "<init>", desc := "()V" } : Jvm.MethodName) prog_3_method_1_code (2 : Nat) (Option.none : Option Jvm.ClassFile.FieldType)) ∈ lw_tbl := in_t1 (List.mem_of_getElem? (i := 59) rfl)
set_option maxRecDepth 20000 in
theorem t_60 : (Jvm.Cond.methodLink "LineStore$Laws" (3 : Nat) ({ cls := "java/lang/Object", name := "<init>", desc := "()V" } : Jvm.MethodName)) ∈ lw_tbl := in_t1 (List.mem_of_getElem? (i := 60) rfl)
set_option maxRecDepth 20000 in
theorem t_61 : (Jvm.Cond.fieldLink "LineStore$Laws" (9 : Nat) "LineStore$Laws" "least" "[I") ∈ lw_tbl := in_t1 (List.mem_of_getElem? (i := 61) rfl)
set_option maxRecDepth 20000 in
theorem t_62 : (Jvm.Cond.fieldLink "LineStore$Laws" (15 : Nat) "LineStore$Laws" "most" "[I") ∈ lw_tbl := in_t1 (List.mem_of_getElem? (i := 62) rfl)
set_option maxRecDepth 20000 in
theorem t_63 : (Jvm.Cond.fieldLink "LineStore$Laws" (18 : Nat) "LineStore$Laws" "aloneMost" "[I") ∈ lw_tbl := in_t1 (List.mem_of_getElem? (i := 63) rfl)
set_option maxRecDepth 20000 in
theorem t_64 : (Jvm.Cond.fieldLink "LineStore$Laws" (21 : Nat) "LineStore$Laws" "holding" "[Z") ∈ lw_tbl := in_t1 (List.mem_of_getElem? (i := 64) rfl)
set_option maxRecDepth 20000 in
theorem t_65 : (Jvm.Cond.laysFinal "LineStore$Laws" "LineStore$Laws" "least" "[I") ∈ lw_tbl := in_t1 (List.mem_of_getElem? (i := 65) rfl)
set_option maxRecDepth 20000 in
theorem t_66 : (Jvm.Cond.soleField "LineStore$Laws" "least") ∈ lw_tbl := in_t1 (List.mem_of_getElem? (i := 66) rfl)
set_option maxRecDepth 20000 in
theorem t_67 : (Jvm.Cond.laysFinal "LineStore$Laws" "LineStore$Laws" "most" "[I") ∈ lw_tbl := in_t1 (List.mem_of_getElem? (i := 67) rfl)
set_option maxRecDepth 20000 in
theorem t_68 : (Jvm.Cond.soleField "LineStore$Laws" "most") ∈ lw_tbl := in_t1 (List.mem_of_getElem? (i := 68) rfl)
set_option maxRecDepth 20000 in
theorem t_69 : (Jvm.Cond.laysFinal "LineStore$Laws" "LineStore$Laws" "aloneMost" "[I") ∈ lw_tbl := in_t1 (List.mem_of_getElem? (i := 69) rfl)
set_option maxRecDepth 20000 in
theorem t_70 : (Jvm.Cond.soleField "LineStore$Laws" "aloneMost") ∈ lw_tbl := in_t1 (List.mem_of_getElem? (i := 70) rfl)
set_option maxRecDepth 20000 in
theorem t_71 : (Jvm.Cond.laysFinal "LineStore$Laws" "LineStore$Laws" "holding" "[Z") ∈ lw_tbl := in_t1 (List.mem_of_getElem? (i := 71) rfl)
set_option maxRecDepth 20000 in
theorem t_72 : (Jvm.Cond.soleField "LineStore$Laws" "holding") ∈ lw_tbl := in_t1 (List.mem_of_getElem? (i := 72) rfl)
set_option maxRecDepth 20000 in
theorem t_73 : (Jvm.Cond.superclass "LineStore$Laws" "java/lang/Object") ∈ lw_tbl := in_t1 (List.mem_of_getElem? (i := 73) rfl)
set_option maxRecDepth 20000 in
theorem t_74 : (Jvm.Cond.arrayClass Jvm.ClassFile.FieldType.boolean) ∈ lw_tbl := in_t1 (List.mem_of_getElem? (i := 74) rfl)
set_option maxRecDepth 20000 in
theorem t_75 : (Jvm.Cond.classLink "LineStore" (23 : Nat) "LineStore$Ones") ∈ lw_tbl := in_t1 (List.mem_of_getElem? (i := 75) rfl)
set_option maxRecDepth 20000 in
theorem t_76 : (Jvm.Cond.instantiable "LineStore$Ones" (4 : Nat)) ∈ lw_tbl := in_t1 (List.mem_of_getElem? (i := 76) rfl)
set_option maxRecDepth 20000 in
theorem t_77 : (Jvm.Cond.methodLink "LineStore" (25 : Nat) ({ cls := "LineStore$Ones", name := "<init>", desc := "()V" } : Jvm.MethodName)) ∈ lw_tbl := in_t1 (List.mem_of_getElem? (i := 77) rfl)
set_option maxRecDepth 20000 in
theorem t_78 : (Jvm.Cond.instanceMethod ({ cls := "LineStore$Ones", name := "<init>", desc := "()V" } : Jvm.MethodName)) ∈ lw_tbl := in_t1 (List.mem_of_getElem? (i := 78) rfl)
set_option maxRecDepth 20000 in
theorem t_79 : (Jvm.Cond.code ({ cls := "LineStore$Ones", name := "<init>", desc := "()V" } : Jvm.MethodName) prog_7_method_1_code (2 : Nat) (Option.none : Option Jvm.ClassFile.FieldType)) ∈ lw_tbl := in_t1 (List.mem_of_getElem? (i := 79) rfl)
set_option maxRecDepth 20000 in
theorem t_80 : (Jvm.Cond.methodLink "LineStore$Ones" (3 : Nat) ({ cls := "java/lang/Object", name := "<init>", desc := "()V" } : Jvm.MethodName)) ∈ lw_tbl := in_t1 (List.mem_of_getElem? (i := 80) rfl)
set_option maxRecDepth 20000 in
theorem t_81 : (Jvm.Cond.fieldLink "LineStore$Ones" (9 : Nat) "LineStore$Ones" "hungOn" "[I") ∈ lw_tbl := in_t1 (List.mem_of_getElem? (i := 81) rfl)
set_option maxRecDepth 20000 in
theorem t_82 : (Jvm.Cond.fieldLink "LineStore$Ones" (15 : Nat) "LineStore$Ones" "least" "[I") ∈ lw_tbl := in_t1 (List.mem_of_getElem? (i := 82) rfl)
set_option maxRecDepth 20000 in
theorem t_83 : (Jvm.Cond.fieldLink "LineStore$Ones" (18 : Nat) "LineStore$Ones" "joined" "[I") ∈ lw_tbl := in_t1 (List.mem_of_getElem? (i := 83) rfl)
set_option maxRecDepth 20000 in
theorem t_84 : (Jvm.Cond.fieldLink "LineStore$Ones" (21 : Nat) "LineStore$Ones" "joins" "I") ∈ lw_tbl := in_t1 (List.mem_of_getElem? (i := 84) rfl)
set_option maxRecDepth 20000 in
theorem t_85 : (Jvm.Cond.laysFinal "LineStore$Ones" "LineStore$Ones" "hungOn" "[I") ∈ lw_tbl := in_t1 (List.mem_of_getElem? (i := 85) rfl)
set_option maxRecDepth 20000 in
theorem t_86 : (Jvm.Cond.soleField "LineStore$Ones" "hungOn") ∈ lw_tbl := in_t1 (List.mem_of_getElem? (i := 86) rfl)
set_option maxRecDepth 20000 in
theorem t_87 : (Jvm.Cond.laysFinal "LineStore$Ones" "LineStore$Ones" "least" "[I") ∈ lw_tbl := in_t1 (List.mem_of_getElem? (i := 87) rfl)
set_option maxRecDepth 20000 in
theorem t_88 : (Jvm.Cond.soleField "LineStore$Ones" "least") ∈ lw_tbl := in_t1 (List.mem_of_getElem? (i := 88) rfl)
set_option maxRecDepth 20000 in
theorem t_89 : (Jvm.Cond.laysFinal "LineStore$Ones" "LineStore$Ones" "joined" "[I") ∈ lw_tbl := in_t1 (List.mem_of_getElem? (i := 89) rfl)
set_option maxRecDepth 20000 in
theorem t_90 : (Jvm.Cond.soleField "LineStore$Ones" "joined") ∈ lw_tbl := in_t1 (List.mem_of_getElem? (i := 90) rfl)
set_option maxRecDepth 20000 in
theorem t_91 : (Jvm.Cond.lays "LineStore$Ones" "LineStore$Ones" "joins" "I") ∈ lw_tbl := in_t1 (List.mem_of_getElem? (i := 91) rfl)
set_option maxRecDepth 20000 in
theorem t_92 : (Jvm.Cond.soleField "LineStore$Ones" "joins") ∈ lw_tbl := in_t1 (List.mem_of_getElem? (i := 92) rfl)
set_option maxRecDepth 20000 in
theorem t_93 : (Jvm.Cond.superclass "LineStore$Ones" "java/lang/Object") ∈ lw_tbl := in_t1 (List.mem_of_getElem? (i := 93) rfl)
set_option maxRecDepth 20000 in
theorem t_94 : (Jvm.Cond.classLink "LineStore" (30 : Nat) "LineStore$Ends") ∈ lw_tbl := in_t1 (List.mem_of_getElem? (i := 94) rfl)
set_option maxRecDepth 20000 in
theorem t_95 : (Jvm.Cond.instantiable "LineStore$Ends" (4 : Nat)) ∈ lw_tbl := in_t1 (List.mem_of_getElem? (i := 95) rfl)
set_option maxRecDepth 20000 in
theorem t_96 : (Jvm.Cond.methodLinkNest "LineStore" (32 : Nat) ({ cls := "LineStore$Ends", name := "<init>", desc := "()V" } : Jvm.MethodName) "LineStore") ∈ lw_tbl := in_t1 (List.mem_of_getElem? (i := 96) rfl)
set_option maxRecDepth 20000 in
theorem t_97 : (Jvm.Cond.instanceMethod ({ cls := "LineStore$Ends", name := "<init>", desc := "()V" } : Jvm.MethodName)) ∈ lw_tbl := in_t1 (List.mem_of_getElem? (i := 97) rfl)
set_option maxRecDepth 20000 in
theorem t_98 : (Jvm.Cond.code ({ cls := "LineStore$Ends", name := "<init>", desc := "()V" } : Jvm.MethodName) prog_2_method_1_code (1 : Nat) (Option.none : Option Jvm.ClassFile.FieldType)) ∈ lw_tbl := in_t1 (List.mem_of_getElem? (i := 98) rfl)
set_option maxRecDepth 20000 in
theorem t_99 : (Jvm.Cond.methodLink "LineStore$Ends" (3 : Nat) ({ cls := "java/lang/Object", name := "<init>", desc := "()V" } : Jvm.MethodName)) ∈ lw_tbl := in_t1 (List.mem_of_getElem? (i := 99) rfl)
set_option maxRecDepth 20000 in
theorem t_100 : (Jvm.Cond.fieldLink "LineStore$Ends" (9 : Nat) "LineStore$Ends" "roles" "[I") ∈ lw_tbl := in_t1 (List.mem_of_getElem? (i := 100) rfl)
set_option maxRecDepth 20000 in
theorem t_101 : (Jvm.Cond.fieldLink "LineStore$Ends" (15 : Nat) "LineStore$Ends" "things" "[I") ∈ lw_tbl := in_t1 (List.mem_of_getElem? (i := 101) rfl)
set_option maxRecDepth 20000 in
theorem t_102 : (Jvm.Cond.fieldLink "LineStore$Ends" (18 : Nat) "LineStore$Ends" "onLines" "[I") ∈ lw_tbl := in_t1 (List.mem_of_getElem? (i := 102) rfl)
set_option maxRecDepth 20000 in
theorem t_103 : (Jvm.Cond.fieldLink "LineStore$Ends" (21 : Nat) "LineStore$Ends" "size" "I") ∈ lw_tbl := in_t1 (List.mem_of_getElem? (i := 103) rfl)
set_option maxRecDepth 20000 in
theorem t_104 : (Jvm.Cond.laysFinal "LineStore$Ends" "LineStore$Ends" "roles" "[I") ∈ lw_tbl := in_t1 (List.mem_of_getElem? (i := 104) rfl)
set_option maxRecDepth 20000 in
theorem t_105 : (Jvm.Cond.soleField "LineStore$Ends" "roles") ∈ lw_tbl := in_t1 (List.mem_of_getElem? (i := 105) rfl)
set_option maxRecDepth 20000 in
theorem t_106 : (Jvm.Cond.laysFinal "LineStore$Ends" "LineStore$Ends" "things" "[I") ∈ lw_tbl := in_t1 (List.mem_of_getElem? (i := 106) rfl)
set_option maxRecDepth 20000 in
theorem t_107 : (Jvm.Cond.soleField "LineStore$Ends" "things") ∈ lw_tbl := in_t1 (List.mem_of_getElem? (i := 107) rfl)
set_option maxRecDepth 20000 in
theorem t_108 : (Jvm.Cond.laysFinal "LineStore$Ends" "LineStore$Ends" "onLines" "[I") ∈ lw_tbl := in_t1 (List.mem_of_getElem? (i := 108) rfl)
set_option maxRecDepth 20000 in
theorem t_109 : (Jvm.Cond.soleField "LineStore$Ends" "onLines") ∈ lw_tbl := in_t1 (List.mem_of_getElem? (i := 109) rfl)
set_option maxRecDepth 20000 in
theorem t_110 : (Jvm.Cond.lays "LineStore$Ends" "LineStore$Ends" "size" "I") ∈ lw_tbl := in_t1 (List.mem_of_getElem? (i := 110) rfl)
set_option maxRecDepth 20000 in
theorem t_111 : (Jvm.Cond.soleField "LineStore$Ends" "size") ∈ lw_tbl := in_t1 (List.mem_of_getElem? (i := 111) rfl)
set_option maxRecDepth 20000 in
theorem t_112 : (Jvm.Cond.superclass "LineStore$Ends" "java/lang/Object") ∈ lw_tbl := in_t1 (List.mem_of_getElem? (i := 112) rfl)
set_option maxRecDepth 20000 in
theorem t_113 : (Jvm.Cond.classLink "LineStore" (37 : Nat) "LineStore$Lines") ∈ lw_tbl := in_t1 (List.mem_of_getElem? (i := 113) rfl)
set_option maxRecDepth 20000 in
theorem t_114 : (Jvm.Cond.instantiable "LineStore$Lines" (4 : Nat)) ∈ lw_tbl := in_t1 (List.mem_of_getElem? (i := 114) rfl)
set_option maxRecDepth 20000 in
theorem t_115 : (Jvm.Cond.methodLinkNest "LineStore" (39 : Nat) ({ cls := "LineStore$Lines", name := "<init>", desc := "()V" } : Jvm.MethodName) "LineStore") ∈ lw_tbl := in_t1 (List.mem_of_getElem? (i := 115) rfl)
set_option maxRecDepth 20000 in
theorem t_116 : (Jvm.Cond.instanceMethod ({ cls := "LineStore$Lines", name := "<init>", desc := "()V" } : Jvm.MethodName)) ∈ lw_tbl := in_t1 (List.mem_of_getElem? (i := 116) rfl)
set_option maxRecDepth 20000 in
theorem t_117 : (Jvm.Cond.code ({ cls := "LineStore$Lines", name := "<init>", desc := "()V" } : Jvm.MethodName) prog_5_method_1_code (1 : Nat) (Option.none : Option Jvm.ClassFile.FieldType)) ∈ lw_tbl := in_t1 (List.mem_of_getElem? (i := 117) rfl)
set_option maxRecDepth 20000 in
theorem t_118 : (Jvm.Cond.methodLink "LineStore$Lines" (3 : Nat) ({ cls := "java/lang/Object", name := "<init>", desc := "()V" } : Jvm.MethodName)) ∈ lw_tbl := in_t1 (List.mem_of_getElem? (i := 118) rfl)
set_option maxRecDepth 20000 in
theorem t_119 : (Jvm.Cond.classLink "LineStore$Lines" (9 : Nat) "java/util/ArrayList") ∈ lw_tbl := in_t1 (List.mem_of_getElem? (i := 119) rfl)
set_option maxRecDepth 20000 in
theorem t_120 : (Jvm.Cond.instantiable "java/util/ArrayList" (3 : Nat)) ∈ lw_tbl := in_t1 (List.mem_of_getElem? (i := 120) rfl)
set_option maxRecDepth 20000 in
theorem t_121 : (Jvm.Cond.methodLink "LineStore$Lines" (11 : Nat) ({ cls := "java/util/ArrayList", name := "<init>", desc := "()V" } : Jvm.MethodName)) ∈ lw_tbl := in_t1 (List.mem_of_getElem? (i := 121) rfl)
set_option maxRecDepth 20000 in
theorem t_122 : (Jvm.Cond.instanceMethod ({ cls := "java/util/ArrayList", name := "<init>", desc := "()V" } : Jvm.MethodName)) ∈ lw_tbl := in_t1 (List.mem_of_getElem? (i := 122) rfl)
set_option maxRecDepth 20000 in
theorem t_123 : (Jvm.Cond.code ({ cls := "java/util/ArrayList", name := "<init>", desc := "()V" } : Jvm.MethodName) prog_31_method_2_code (1 : Nat) (Option.none : Option Jvm.ClassFile.FieldType)) ∈ lw_tbl := in_t1 (List.mem_of_getElem? (i := 123) rfl)
set_option maxRecDepth 20000 in
theorem t_124 : (Jvm.Cond.methodLink "java/util/ArrayList" (1 : Nat) ({ cls := "java/util/AbstractList", name := "<init>", desc := "()V" } : Jvm.MethodName)) ∈ lw_tbl := in_t1 (List.mem_of_getElem? (i := 124) rfl)
set_option maxRecDepth 20000 in
theorem t_125 : (Jvm.Cond.instanceMethod ({ cls := "java/util/AbstractList", name := "<init>", desc := "()V" } : Jvm.MethodName)) ∈ lw_tbl := in_t1 (List.mem_of_getElem? (i := 125) rfl)
set_option maxRecDepth 20000 in
theorem t_126 : (Jvm.Cond.code ({ cls := "java/util/AbstractList", name := "<init>", desc := "()V" } : Jvm.MethodName) prog_30_method_1_code (1 : Nat) (Option.none : Option Jvm.ClassFile.FieldType)) ∈ lw_tbl := in_t1 (List.mem_of_getElem? (i := 126) rfl)
set_option maxRecDepth 20000 in
theorem t_127 : (Jvm.Cond.methodLink "java/util/AbstractList" (1 : Nat) ({ cls := "java/util/AbstractCollection", name := "<init>", desc := "()V" } : Jvm.MethodName)) ∈ lw_tbl := in_t1 (List.mem_of_getElem? (i := 127) rfl)
set_option maxRecDepth 20000 in
theorem t_128 : (Jvm.Cond.instanceMethod ({ cls := "java/util/AbstractCollection", name := "<init>", desc := "()V" } : Jvm.MethodName)) ∈ lw_tbl := in_t1 (List.mem_of_getElem? (i := 128) rfl)
set_option maxRecDepth 20000 in
theorem t_129 : (Jvm.Cond.code ({ cls := "java/util/AbstractCollection", name := "<init>", desc := "()V" } : Jvm.MethodName) prog_29_method_1_code (1 : Nat) (Option.none : Option Jvm.ClassFile.FieldType)) ∈ lw_tbl := in_t1 (List.mem_of_getElem? (i := 129) rfl)
set_option maxRecDepth 20000 in
theorem t_130 : (Jvm.Cond.methodLink "java/util/AbstractCollection" (1 : Nat) ({ cls := "java/lang/Object", name := "<init>", desc := "()V" } : Jvm.MethodName)) ∈ lw_tbl := in_t1 (List.mem_of_getElem? (i := 130) rfl)
set_option maxRecDepth 20000 in
theorem t_131 : (Jvm.Cond.fieldLink "java/util/ArrayList" (39 : Nat) "java/util/ArrayList" "DEFAULTCAPACITY_EMPTY_ELEMENTDATA" "[Ljava/lang/Object;") ∈ lw_tbl := in_t1 (List.mem_of_getElem? (i := 131) rfl)
set_option maxRecDepth 20000 in
theorem t_132 : (Jvm.Cond.laysStatic "java/util/ArrayList" "DEFAULTCAPACITY_EMPTY_ELEMENTDATA" "[Ljava/lang/Object;") ∈ lw_tbl := in_t1 (List.mem_of_getElem? (i := 132) rfl)
set_option maxRecDepth 20000 in
theorem t_133 : (Jvm.Cond.fieldLink "java/util/ArrayList" (9 : Nat) "java/util/ArrayList" "elementData" "[Ljava/lang/Object;") ∈ lw_tbl := in_t1 (List.mem_of_getElem? (i := 133) rfl)
set_option maxRecDepth 20000 in
theorem t_134 : (Jvm.Cond.fieldLink "java/util/ArrayList" (48 : Nat) "java/util/ArrayList" "size" "I") ∈ lw_tbl := in_t1 (List.mem_of_getElem? (i := 134) rfl)
set_option maxRecDepth 20000 in
theorem t_135 : (Jvm.Cond.fieldLink "java/util/AbstractList" (7 : Nat) "java/util/AbstractList" "modCount" "I") ∈ lw_tbl := in_t1 (List.mem_of_getElem? (i := 135) rfl)
set_option maxRecDepth 20000 in
theorem t_136 : (Jvm.Cond.fieldLink "java/util/ArrayList" (63 : Nat) "java/util/ArrayList" "modCount" "I") ∈ lw_tbl := in_t1 (List.mem_of_getElem? (i := 136) rfl)
set_option maxRecDepth 20000 in
theorem t_137 : (Jvm.Cond.sameField "java/util/ArrayList" "java/util/AbstractList" "modCount" "I") ∈ lw_tbl := in_t1 (List.mem_of_getElem? (i := 137) rfl)
set_option maxRecDepth 20000 in
theorem t_138 : (Jvm.Cond.lays "java/util/ArrayList" "java/util/ArrayList" "elementData" "[Ljava/lang/Object;") ∈ lw_tbl := in_t1 (List.mem_of_getElem? (i := 138) rfl)
set_option maxRecDepth 20000 in
theorem t_139 : (Jvm.Cond.soleField "java/util/ArrayList" "elementData") ∈ lw_tbl := in_t1 (List.mem_of_getElem? (i := 139) rfl)
set_option maxRecDepth 20000 in
theorem t_140 : (Jvm.Cond.lays "java/util/ArrayList" "java/util/ArrayList" "size" "I") ∈ lw_tbl := in_t1 (List.mem_of_getElem? (i := 140) rfl)
set_option maxRecDepth 20000 in
theorem t_141 : (Jvm.Cond.soleField "java/util/ArrayList" "size") ∈ lw_tbl := in_t1 (List.mem_of_getElem? (i := 141) rfl)
set_option maxRecDepth 20000 in
theorem t_142 : (Jvm.Cond.lays "java/util/ArrayList" "java/util/AbstractList" "modCount" "I") ∈ lw_tbl := in_t1 (List.mem_of_getElem? (i := 142) rfl)
set_option maxRecDepth 20000 in
theorem t_143 : (Jvm.Cond.soleField "java/util/AbstractList" "modCount") ∈ lw_tbl := in_t1 (List.mem_of_getElem? (i := 143) rfl)
set_option maxRecDepth 20000 in
theorem t_144 : (Jvm.Cond.superclass "java/util/ArrayList" "java/util/AbstractList") ∈ lw_tbl := in_t1 (List.mem_of_getElem? (i := 144) rfl)
set_option maxRecDepth 20000 in
theorem t_145 : (Jvm.Cond.fieldLink "LineStore$Lines" (12 : Nat) "LineStore$Lines" "list" "Ljava/util/ArrayList;") ∈ lw_tbl := in_t1 (List.mem_of_getElem? (i := 145) rfl)
set_option maxRecDepth 20000 in
theorem t_146 : (Jvm.Cond.fieldLink "LineStore$Lines" (18 : Nat) "LineStore$Lines" "marked" "[Z") ∈ lw_tbl := in_t1 (List.mem_of_getElem? (i := 146) rfl)
set_option maxRecDepth 20000 in
theorem t_147 : (Jvm.Cond.fieldLink "LineStore$Lines" (22 : Nat) "LineStore$Lines" "firsts" "[I") ∈ lw_tbl := in_t1 (List.mem_of_getElem? (i := 147) rfl)
set_option maxRecDepth 20000 in
theorem t_148 : (Jvm.Cond.fieldLink "LineStore$Lines" (26 : Nat) "LineStore$Lines" "lasts" "[I") ∈ lw_tbl := in_t1 (List.mem_of_getElem? (i := 148) rfl)
set_option maxRecDepth 20000 in
theorem t_149 : (Jvm.Cond.laysFinal "LineStore$Lines" "LineStore$Lines" "list" "Ljava/util/ArrayList;") ∈ lw_tbl := in_t1 (List.mem_of_getElem? (i := 149) rfl)
set_option maxRecDepth 20000 in
theorem t_150 : (Jvm.Cond.soleField "LineStore$Lines" "list") ∈ lw_tbl := in_t1 (List.mem_of_getElem? (i := 150) rfl)
set_option maxRecDepth 20000 in
theorem t_151 : (Jvm.Cond.laysFinal "LineStore$Lines" "LineStore$Lines" "marked" "[Z") ∈ lw_tbl := in_t1 (List.mem_of_getElem? (i := 151) rfl)
set_option maxRecDepth 20000 in
theorem t_152 : (Jvm.Cond.soleField "LineStore$Lines" "marked") ∈ lw_tbl := in_t1 (List.mem_of_getElem? (i := 152) rfl)
set_option maxRecDepth 20000 in
theorem t_153 : (Jvm.Cond.laysFinal "LineStore$Lines" "LineStore$Lines" "firsts" "[I") ∈ lw_tbl := in_t1 (List.mem_of_getElem? (i := 153) rfl)
set_option maxRecDepth 20000 in
theorem t_154 : (Jvm.Cond.soleField "LineStore$Lines" "firsts") ∈ lw_tbl := in_t1 (List.mem_of_getElem? (i := 154) rfl)
set_option maxRecDepth 20000 in
theorem t_155 : (Jvm.Cond.laysFinal "LineStore$Lines" "LineStore$Lines" "lasts" "[I") ∈ lw_tbl := in_t1 (List.mem_of_getElem? (i := 155) rfl)
set_option maxRecDepth 20000 in
theorem t_156 : (Jvm.Cond.soleField "LineStore$Lines" "lasts") ∈ lw_tbl := in_t1 (List.mem_of_getElem? (i := 156) rfl)
set_option maxRecDepth 20000 in
theorem t_157 : (Jvm.Cond.superclass "LineStore$Lines" "java/lang/Object") ∈ lw_tbl := in_t1 (List.mem_of_getElem? (i := 157) rfl)
set_option maxRecDepth 20000 in
theorem t_158 : (Jvm.Cond.classLink "LineStore" (44 : Nat) "LineStore$Reader") ∈ lw_tbl := in_t1 (List.mem_of_getElem? (i := 158) rfl)
set_option maxRecDepth 20000 in
theorem t_159 : (Jvm.Cond.instantiable "LineStore$Reader" (4 : Nat)) ∈ lw_tbl := in_t1 (List.mem_of_getElem? (i := 159) rfl)
set_option maxRecDepth 20000 in
theorem t_160 : (Jvm.Cond.methodLinkNest "LineStore" (46 : Nat) ({ cls := "LineStore$Reader", name := "<init>", desc := "()V" } : Jvm.MethodName) "LineStore") ∈ lw_tbl := in_t1 (List.mem_of_getElem? (i := 160) rfl)
set_option maxRecDepth 20000 in
theorem t_161 : (Jvm.Cond.instanceMethod ({ cls := "LineStore$Reader", name := "<init>", desc := "()V" } : Jvm.MethodName)) ∈ lw_tbl := in_t1 (List.mem_of_getElem? (i := 161) rfl)
set_option maxRecDepth 20000 in
theorem t_162 : (Jvm.Cond.code ({ cls := "LineStore$Reader", name := "<init>", desc := "()V" } : Jvm.MethodName) prog_9_method_1_code (1 : Nat) (Option.none : Option Jvm.ClassFile.FieldType)) ∈ lw_tbl := in_t1 (List.mem_of_getElem? (i := 162) rfl)
set_option maxRecDepth 20000 in
theorem t_163 : (Jvm.Cond.methodLink "LineStore$Reader" (3 : Nat) ({ cls := "java/lang/Object", name := "<init>", desc := "()V" } : Jvm.MethodName)) ∈ lw_tbl := in_t1 (List.mem_of_getElem? (i := 163) rfl)
set_option maxRecDepth 20000 in
theorem t_164 : (Jvm.Cond.fieldLink "LineStore$Reader" (15 : Nat) "LineStore$Reader" "at" "I") ∈ lw_tbl := in_t1 (List.mem_of_getElem? (i := 164) rfl)
set_option maxRecDepth 20000 in
theorem t_165 : (Jvm.Cond.fieldLink "LineStore$Reader" (9 : Nat) "LineStore$Reader" "begin" "I") ∈ lw_tbl := in_t1 (List.mem_of_getElem? (i := 165) rfl)
set_option maxRecDepth 20000 in
theorem t_166 : (Jvm.Cond.fieldLink "LineStore$Reader" (31 : Nat) "LineStore$Reader" "token" "I") ∈ lw_tbl := in_t1 (List.mem_of_getElem? (i := 166) rfl)
set_option maxRecDepth 20000 in
theorem t_167 : (Jvm.Cond.fieldLink "LineStore$Reader" (38 : Nat) "LineStore$Reader" "value" "I") ∈ lw_tbl := in_t1 (List.mem_of_getElem? (i := 167) rfl)
set_option maxRecDepth 20000 in
theorem t_168 : (Jvm.Cond.lays "LineStore$Reader" "LineStore$Reader" "at" "I") ∈ lw_tbl := in_t1 (List.mem_of_getElem? (i := 168) rfl)
set_option maxRecDepth 20000 in
theorem t_169 : (Jvm.Cond.soleField "LineStore$Reader" "at") ∈ lw_tbl := in_t1 (List.mem_of_getElem? (i := 169) rfl)
set_option maxRecDepth 20000 in
theorem t_170 : (Jvm.Cond.lays "LineStore$Reader" "LineStore$Reader" "begin" "I") ∈ lw_tbl := in_t1 (List.mem_of_getElem? (i := 170) rfl)
set_option maxRecDepth 20000 in
theorem t_171 : (Jvm.Cond.soleField "LineStore$Reader" "begin") ∈ lw_tbl := in_t1 (List.mem_of_getElem? (i := 171) rfl)
set_option maxRecDepth 20000 in
theorem t_172 : (Jvm.Cond.lays "LineStore$Reader" "LineStore$Reader" "token" "I") ∈ lw_tbl := in_t1 (List.mem_of_getElem? (i := 172) rfl)
set_option maxRecDepth 20000 in
theorem t_173 : (Jvm.Cond.soleField "LineStore$Reader" "token") ∈ lw_tbl := in_t1 (List.mem_of_getElem? (i := 173) rfl)
set_option maxRecDepth 20000 in
theorem t_174 : (Jvm.Cond.lays "LineStore$Reader" "LineStore$Reader" "value" "I") ∈ lw_tbl := in_t1 (List.mem_of_getElem? (i := 174) rfl)
set_option maxRecDepth 20000 in
theorem t_175 : (Jvm.Cond.soleField "LineStore$Reader" "value") ∈ lw_tbl := in_t1 (List.mem_of_getElem? (i := 175) rfl)
set_option maxRecDepth 20000 in
theorem t_176 : (Jvm.Cond.superclass "LineStore$Reader" "java/lang/Object") ∈ lw_tbl := in_t1 (List.mem_of_getElem? (i := 176) rfl)
set_option maxRecDepth 20000 in
theorem t_177 : (Jvm.Cond.classLink "LineStore" (51 : Nat) "LineStore$Matcher") ∈ lw_tbl := in_t1 (List.mem_of_getElem? (i := 177) rfl)
set_option maxRecDepth 20000 in
theorem t_178 : (Jvm.Cond.instantiable "LineStore$Matcher" (7 : Nat)) ∈ lw_tbl := in_t1 (List.mem_of_getElem? (i := 178) rfl)
set_option maxRecDepth 20000 in
theorem t_179 : (Jvm.Cond.methodLinkNest "LineStore" (53 : Nat) ({ cls := "LineStore$Matcher", name := "<init>", desc := "()V" } : Jvm.MethodName) "LineStore") ∈ lw_tbl := in_t1 (List.mem_of_getElem? (i := 179) rfl)
set_option maxRecDepth 20000 in
theorem t_180 : (Jvm.Cond.instanceMethod ({ cls := "LineStore$Matcher", name := "<init>", desc := "()V" } : Jvm.MethodName)) ∈ lw_tbl := in_t1 (List.mem_of_getElem? (i := 180) rfl)
set_option maxRecDepth 20000 in
theorem t_181 : (Jvm.Cond.code ({ cls := "LineStore$Matcher", name := "<init>", desc := "()V" } : Jvm.MethodName) prog_6_method_1_code (1 : Nat) (Option.none : Option Jvm.ClassFile.FieldType)) ∈ lw_tbl := in_t1 (List.mem_of_getElem? (i := 181) rfl)
set_option maxRecDepth 20000 in
theorem t_182 : (Jvm.Cond.methodLink "LineStore$Matcher" (3 : Nat) ({ cls := "java/lang/Object", name := "<init>", desc := "()V" } : Jvm.MethodName)) ∈ lw_tbl := in_t1 (List.mem_of_getElem? (i := 182) rfl)
set_option maxRecDepth 20000 in
theorem t_183 : (Jvm.Cond.classLink "LineStore$Matcher" (28 : Nat) "LineStore$Question") ∈ lw_tbl := in_t1 (List.mem_of_getElem? (i := 183) rfl)
set_option maxRecDepth 20000 in
theorem t_184 : (Jvm.Cond.instantiable "LineStore$Question" (8 : Nat)) ∈ lw_tbl := in_t1 (List.mem_of_getElem? (i := 184) rfl)
set_option maxRecDepth 20000 in
theorem t_185 : (Jvm.Cond.methodLinkNest "LineStore$Matcher" (30 : Nat) ({ cls := "LineStore$Question", name := "<init>", desc := "()V" } : Jvm.MethodName) "LineStore") ∈ lw_tbl := in_t1 (List.mem_of_getElem? (i := 185) rfl)
set_option maxRecDepth 20000 in
theorem t_186 : (Jvm.Cond.instanceMethod ({ cls := "LineStore$Question", name := "<init>", desc := "()V" } : Jvm.MethodName)) ∈ lw_tbl := in_t1 (List.mem_of_getElem? (i := 186) rfl)
set_option maxRecDepth 20000 in
theorem t_187 : (Jvm.Cond.code ({ cls := "LineStore$Question", name := "<init>", desc := "()V" } : Jvm.MethodName) prog_8_method_1_code (1 : Nat) (Option.none : Option Jvm.ClassFile.FieldType)) ∈ lw_tbl := in_t1 (List.mem_of_getElem? (i := 187) rfl)
set_option maxRecDepth 20000 in
theorem t_188 : (Jvm.Cond.methodLink "LineStore$Question" (3 : Nat) ({ cls := "java/lang/Object", name := "<init>", desc := "()V" } : Jvm.MethodName)) ∈ lw_tbl := in_t1 (List.mem_of_getElem? (i := 188) rfl)
set_option maxRecDepth 20000 in
theorem t_189 : (Jvm.Cond.fieldLink "LineStore$Question" (9 : Nat) "LineStore$Question" "kinds" "[I") ∈ lw_tbl := in_t1 (List.mem_of_getElem? (i := 189) rfl)
set_option maxRecDepth 20000 in
theorem t_190 : (Jvm.Cond.fieldLink "LineStore$Question" (15 : Nat) "LineStore$Question" "nots" "[Z") ∈ lw_tbl := in_t1 (List.mem_of_getElem? (i := 190) rfl)
set_option maxRecDepth 20000 in
theorem t_191 : (Jvm.Cond.fieldLink "LineStore$Question" (19 : Nat) "LineStore$Question" "parts" "[I") ∈ lw_tbl := in_t1 (List.mem_of_getElem? (i := 191) rfl)
set_option maxRecDepth 20000 in
theorem t_192 : (Jvm.Cond.fieldLink "LineStore$Question" (22 : Nat) "LineStore$Question" "atomVariables" "[I") ∈ lw_tbl := in_t1 (List.mem_of_getElem? (i := 192) rfl)
set_option maxRecDepth 20000 in
theorem t_193 : (Jvm.Cond.fieldLink "LineStore$Question" (25 : Nat) "LineStore$Question" "roles" "[I") ∈ lw_tbl := in_t1 (List.mem_of_getElem? (i := 193) rfl)
set_option maxRecDepth 20000 in
theorem t_194 : (Jvm.Cond.fieldLink "LineStore$Question" (28 : Nat) "LineStore$Question" "terms" "[I") ∈ lw_tbl := in_t1 (List.mem_of_getElem? (i := 194) rfl)
set_option maxRecDepth 20000 in
theorem t_195 : (Jvm.Cond.fieldLink "LineStore$Question" (31 : Nat) "LineStore$Question" "atoms" "I") ∈ lw_tbl := in_t1 (List.mem_of_getElem? (i := 195) rfl)
set_option maxRecDepth 20000 in
theorem t_196 : (Jvm.Cond.fieldLink "LineStore$Question" (35 : Nat) "LineStore$Question" "usedVariables" "I") ∈ lw_tbl := in_t1 (List.mem_of_getElem? (i := 196) rfl)
set_option maxRecDepth 20000 in
theorem t_197 : (Jvm.Cond.laysFinal "LineStore$Question" "LineStore$Question" "kinds" "[I") ∈ lw_tbl := in_t1 (List.mem_of_getElem? (i := 197) rfl)
set_option maxRecDepth 20000 in
theorem t_198 : (Jvm.Cond.soleField "LineStore$Question" "kinds") ∈ lw_tbl := in_t1 (List.mem_of_getElem? (i := 198) rfl)
set_option maxRecDepth 20000 in
theorem t_199 : (Jvm.Cond.laysFinal "LineStore$Question" "LineStore$Question" "nots" "[Z") ∈ lw_tbl := in_t1 (List.mem_of_getElem? (i := 199) rfl)
set_option maxRecDepth 20000 in
theorem t_200 : (Jvm.Cond.soleField "LineStore$Question" "nots") ∈ lw_tbl := in_t1 (List.mem_of_getElem? (i := 200) rfl)
set_option maxRecDepth 20000 in
theorem t_201 : (Jvm.Cond.laysFinal "LineStore$Question" "LineStore$Question" "parts" "[I") ∈ lw_tbl := in_t1 (List.mem_of_getElem? (i := 201) rfl)
set_option maxRecDepth 20000 in
theorem t_202 : (Jvm.Cond.soleField "LineStore$Question" "parts") ∈ lw_tbl := in_t1 (List.mem_of_getElem? (i := 202) rfl)
set_option maxRecDepth 20000 in
theorem t_203 : (Jvm.Cond.laysFinal "LineStore$Question" "LineStore$Question" "atomVariables" "[I") ∈ lw_tbl := in_t1 (List.mem_of_getElem? (i := 203) rfl)
set_option maxRecDepth 20000 in
theorem t_204 : (Jvm.Cond.soleField "LineStore$Question" "atomVariables") ∈ lw_tbl := in_t1 (List.mem_of_getElem? (i := 204) rfl)
set_option maxRecDepth 20000 in
theorem t_205 : (Jvm.Cond.laysFinal "LineStore$Question" "LineStore$Question" "roles" "[I") ∈ lw_tbl := in_t1 (List.mem_of_getElem? (i := 205) rfl)
set_option maxRecDepth 20000 in
theorem t_206 : (Jvm.Cond.soleField "LineStore$Question" "roles") ∈ lw_tbl := in_t1 (List.mem_of_getElem? (i := 206) rfl)
set_option maxRecDepth 20000 in
theorem t_207 : (Jvm.Cond.laysFinal "LineStore$Question" "LineStore$Question" "terms" "[I") ∈ lw_tbl := in_t1 (List.mem_of_getElem? (i := 207) rfl)
set_option maxRecDepth 20000 in
theorem t_208 : (Jvm.Cond.soleField "LineStore$Question" "terms") ∈ lw_tbl := in_t1 (List.mem_of_getElem? (i := 208) rfl)
set_option maxRecDepth 20000 in
theorem t_209 : (Jvm.Cond.lays "LineStore$Question" "LineStore$Question" "atoms" "I") ∈ lw_tbl := in_t1 (List.mem_of_getElem? (i := 209) rfl)
set_option maxRecDepth 20000 in
theorem t_210 : (Jvm.Cond.soleField "LineStore$Question" "atoms") ∈ lw_tbl := in_t1 (List.mem_of_getElem? (i := 210) rfl)
set_option maxRecDepth 20000 in
theorem t_211 : (Jvm.Cond.lays "LineStore$Question" "LineStore$Question" "usedVariables" "I") ∈ lw_tbl := in_t1 (List.mem_of_getElem? (i := 211) rfl)
set_option maxRecDepth 20000 in
theorem t_212 : (Jvm.Cond.soleField "LineStore$Question" "usedVariables") ∈ lw_tbl := in_t1 (List.mem_of_getElem? (i := 212) rfl)
set_option maxRecDepth 20000 in
theorem t_213 : (Jvm.Cond.superclass "LineStore$Question" "java/lang/Object") ∈ lw_tbl := in_t1 (List.mem_of_getElem? (i := 213) rfl)
set_option maxRecDepth 20000 in
theorem t_214 : (Jvm.Cond.arrayClass Jvm.ClassFile.FieldType.long) ∈ lw_tbl := in_t1 (List.mem_of_getElem? (i := 214) rfl)
set_option maxRecDepth 20000 in
theorem t_215 : (Jvm.Cond.fieldLink "LineStore$Matcher" (9 : Nat) "LineStore$Matcher" "sets" "[J") ∈ lw_tbl := in_t1 (List.mem_of_getElem? (i := 215) rfl)
set_option maxRecDepth 20000 in
theorem t_216 : (Jvm.Cond.fieldLink "LineStore$Matcher" (15 : Nat) "LineStore$Matcher" "fits" "[I") ∈ lw_tbl := in_t1 (List.mem_of_getElem? (i := 216) rfl)
set_option maxRecDepth 20000 in
theorem t_217 : (Jvm.Cond.fieldLink "LineStore$Matcher" (19 : Nat) "LineStore$Matcher" "rows" "[J") ∈ lw_tbl := in_t1 (List.mem_of_getElem? (i := 217) rfl)
set_option maxRecDepth 20000 in
theorem t_218 : (Jvm.Cond.fieldLink "LineStore$Matcher" (22 : Nat) "LineStore$Matcher" "domains" "[J") ∈ lw_tbl := in_t1 (List.mem_of_getElem? (i := 218) rfl)
set_option maxRecDepth 20000 in
theorem t_219 : (Jvm.Cond.fieldLink "LineStore$Matcher" (25 : Nat) "LineStore$Matcher" "reached" "[I") ∈ lw_tbl := in_t1 (List.mem_of_getElem? (i := 219) rfl)
set_option maxRecDepth 20000 in
theorem t_220 : (Jvm.Cond.fieldLink "LineStore$Matcher" (31 : Nat) "LineStore$Matcher" "about" "LLineStore$Question;") ∈ lw_tbl := in_t1 (List.mem_of_getElem? (i := 220) rfl)
set_option maxRecDepth 20000 in
theorem t_221 : (Jvm.Cond.fieldLink "LineStore$Matcher" (77 : Nat) "LineStore$Matcher" "passed" "I") ∈ lw_tbl := in_t1 (List.mem_of_getElem? (i := 221) rfl)
set_option maxRecDepth 20000 in
theorem t_222 : (Jvm.Cond.laysFinal "LineStore$Matcher" "LineStore$Matcher" "sets" "[J") ∈ lw_tbl := in_t1 (List.mem_of_getElem? (i := 222) rfl)
set_option maxRecDepth 20000 in
theorem t_223 : (Jvm.Cond.soleField "LineStore$Matcher" "sets") ∈ lw_tbl := in_t1 (List.mem_of_getElem? (i := 223) rfl)
set_option maxRecDepth 20000 in
theorem t_224 : (Jvm.Cond.laysFinal "LineStore$Matcher" "LineStore$Matcher" "fits" "[I") ∈ lw_tbl := in_t1 (List.mem_of_getElem? (i := 224) rfl)
set_option maxRecDepth 20000 in
theorem t_225 : (Jvm.Cond.soleField "LineStore$Matcher" "fits") ∈ lw_tbl := in_t1 (List.mem_of_getElem? (i := 225) rfl)
set_option maxRecDepth 20000 in
theorem t_226 : (Jvm.Cond.laysFinal "LineStore$Matcher" "LineStore$Matcher" "rows" "[J") ∈ lw_tbl := in_t1 (List.mem_of_getElem? (i := 226) rfl)
set_option maxRecDepth 20000 in
theorem t_227 : (Jvm.Cond.soleField "LineStore$Matcher" "rows") ∈ lw_tbl := in_t1 (List.mem_of_getElem? (i := 227) rfl)
set_option maxRecDepth 20000 in
theorem t_228 : (Jvm.Cond.laysFinal "LineStore$Matcher" "LineStore$Matcher" "domains" "[J") ∈ lw_tbl := in_t1 (List.mem_of_getElem? (i := 228) rfl)
set_option maxRecDepth 20000 in
theorem t_229 : (Jvm.Cond.soleField "LineStore$Matcher" "domains") ∈ lw_tbl := in_t1 (List.mem_of_getElem? (i := 229) rfl)
set_option maxRecDepth 20000 in
theorem t_230 : (Jvm.Cond.laysFinal "LineStore$Matcher" "LineStore$Matcher" "reached" "[I") ∈ lw_tbl := in_t1 (List.mem_of_getElem? (i := 230) rfl)
set_option maxRecDepth 20000 in
theorem t_231 : (Jvm.Cond.soleField "LineStore$Matcher" "reached") ∈ lw_tbl := in_t1 (List.mem_of_getElem? (i := 231) rfl)
set_option maxRecDepth 20000 in
theorem t_232 : (Jvm.Cond.lays "LineStore$Matcher" "LineStore$Matcher" "about" "LLineStore$Question;") ∈ lw_tbl := in_t1 (List.mem_of_getElem? (i := 232) rfl)
set_option maxRecDepth 20000 in
theorem t_233 : (Jvm.Cond.soleField "LineStore$Matcher" "about") ∈ lw_tbl := in_t1 (List.mem_of_getElem? (i := 233) rfl)
set_option maxRecDepth 20000 in
theorem t_234 : (Jvm.Cond.lays "LineStore$Matcher" "LineStore$Matcher" "passed" "I") ∈ lw_tbl := in_t1 (List.mem_of_getElem? (i := 234) rfl)
set_option maxRecDepth 20000 in
theorem t_235 : (Jvm.Cond.soleField "LineStore$Matcher" "passed") ∈ lw_tbl := in_t1 (List.mem_of_getElem? (i := 235) rfl)
set_option maxRecDepth 20000 in
theorem t_236 : (Jvm.Cond.superclass "LineStore$Matcher" "java/lang/Object") ∈ lw_tbl := in_t1 (List.mem_of_getElem? (i := 236) rfl)
set_option maxRecDepth 20000 in
theorem t_237 : (Jvm.Cond.classLink "LineStore" (58 : Nat) "LineStore$Question") ∈ lw_tbl := in_t1 (List.mem_of_getElem? (i := 237) rfl)
set_option maxRecDepth 20000 in
theorem t_238 : (Jvm.Cond.methodLinkNest "LineStore" (60 : Nat) ({ cls := "LineStore$Question", name := "<init>", desc := "()V" } : Jvm.MethodName) "LineStore") ∈ lw_tbl := in_t1 (List.mem_of_getElem? (i := 238) rfl)
set_option maxRecDepth 20000 in
theorem t_239 : (Jvm.Cond.fieldLink "LineStore" (12 : Nat) "LineStore" "tape" "LLineStore$Tape;") ∈ lw_tbl := in_t1 (List.mem_of_getElem? (i := 239) rfl)
set_option maxRecDepth 20000 in
theorem t_240 : (Jvm.Cond.fieldLink "LineStore" (19 : Nat) "LineStore" "laws" "LLineStore$Laws;") ∈ lw_tbl := in_t2 (List.mem_of_getElem? (i := 0) rfl)
set_option maxRecDepth 20000 in
theorem t_241 : (Jvm.Cond.fieldLink "LineStore" (26 : Nat) "LineStore" "ones" "LLineStore$Ones;") ∈ lw_tbl := in_t2 (List.mem_of_getElem? (i := 1) rfl)
set_option maxRecDepth 20000 in
theorem t_242 : (Jvm.Cond.fieldLink "LineStore" (33 : Nat) "LineStore" "drafted" "LLineStore$Ends;") ∈ lw_tbl := in_t2 (List.mem_of_getElem? (i := 2) rfl)
set_option maxRecDepth 20000 in
theorem t_243 : (Jvm.Cond.fieldLink "LineStore" (40 : Nat) "LineStore" "lines" "LLineStore$Lines;") ∈ lw_tbl := in_t2 (List.mem_of_getElem? (i := 3) rfl)
set_option maxRecDepth 20000 in
theorem t_244 : (Jvm.Cond.fieldLink "LineStore" (47 : Nat) "LineStore" "reader" "LLineStore$Reader;") ∈ lw_tbl := in_t2 (List.mem_of_getElem? (i := 4) rfl)
set_option maxRecDepth 20000 in
theorem t_245 : (Jvm.Cond.fieldLink "LineStore" (54 : Nat) "LineStore" "matcher" "LLineStore$Matcher;") ∈ lw_tbl := in_t2 (List.mem_of_getElem? (i := 5) rfl)
set_option maxRecDepth 20000 in
theorem t_246 : (Jvm.Cond.fieldLink "LineStore" (61 : Nat) "LineStore" "asked" "LLineStore$Question;") ∈ lw_tbl := in_t2 (List.mem_of_getElem? (i := 6) rfl)
set_option maxRecDepth 20000 in
theorem t_247 : (Jvm.Cond.fieldLink "LineStore" (65 : Nat) "LineStore" "spare" "LLineStore$Question;") ∈ lw_tbl := in_t2 (List.mem_of_getElem? (i := 7) rfl)
set_option maxRecDepth 20000 in
theorem t_248 : (Jvm.Cond.fieldLink "LineStore" (68 : Nat) "LineStore" "firstWrong" "I") ∈ lw_tbl := in_t2 (List.mem_of_getElem? (i := 8) rfl)
set_option maxRecDepth 20000 in
theorem t_249 : (Jvm.Cond.laysFinal "LineStore" "LineStore" "tape" "LLineStore$Tape;") ∈ lw_tbl := in_t2 (List.mem_of_getElem? (i := 9) rfl)
set_option maxRecDepth 20000 in
theorem t_250 : (Jvm.Cond.soleField "LineStore" "tape") ∈ lw_tbl := in_t2 (List.mem_of_getElem? (i := 10) rfl)
set_option maxRecDepth 20000 in
theorem t_251 : (Jvm.Cond.laysFinal "LineStore" "LineStore" "laws" "LLineStore$Laws;") ∈ lw_tbl := in_t2 (List.mem_of_getElem? (i := 11) rfl)
set_option maxRecDepth 20000 in
theorem t_252 : (Jvm.Cond.soleField "LineStore" "laws") ∈ lw_tbl := in_t2 (List.mem_of_getElem? (i := 12) rfl)
set_option maxRecDepth 20000 in
theorem t_253 : (Jvm.Cond.laysFinal "LineStore" "LineStore" "ones" "LLineStore$Ones;") ∈ lw_tbl := in_t2 (List.mem_of_getElem? (i := 13) rfl)
set_option maxRecDepth 20000 in
theorem t_254 : (Jvm.Cond.soleField "LineStore" "ones") ∈ lw_tbl := in_t2 (List.mem_of_getElem? (i := 14) rfl)
set_option maxRecDepth 20000 in
theorem t_255 : (Jvm.Cond.laysFinal "LineStore" "LineStore" "drafted" "LLineStore$Ends;") ∈ lw_tbl := in_t2 (List.mem_of_getElem? (i := 15) rfl)
set_option maxRecDepth 20000 in
theorem t_256 : (Jvm.Cond.soleField "LineStore" "drafted") ∈ lw_tbl := in_t2 (List.mem_of_getElem? (i := 16) rfl)
set_option maxRecDepth 20000 in
theorem t_257 : (Jvm.Cond.laysFinal "LineStore" "LineStore" "lines" "LLineStore$Lines;") ∈ lw_tbl := in_t2 (List.mem_of_getElem? (i := 17) rfl)
set_option maxRecDepth 20000 in
theorem t_258 : (Jvm.Cond.soleField "LineStore" "lines") ∈ lw_tbl := in_t2 (List.mem_of_getElem? (i := 18) rfl)
set_option maxRecDepth 20000 in
theorem t_259 : (Jvm.Cond.laysFinal "LineStore" "LineStore" "reader" "LLineStore$Reader;") ∈ lw_tbl := in_t2 (List.mem_of_getElem? (i := 19) rfl)
set_option maxRecDepth 20000 in
theorem t_260 : (Jvm.Cond.soleField "LineStore" "reader") ∈ lw_tbl := in_t2 (List.mem_of_getElem? (i := 20) rfl)
set_option maxRecDepth 20000 in
theorem t_261 : (Jvm.Cond.laysFinal "LineStore" "LineStore" "matcher" "LLineStore$Matcher;") ∈ lw_tbl := in_t2 (List.mem_of_getElem? (i := 21) rfl)
set_option maxRecDepth 20000 in
theorem t_262 : (Jvm.Cond.soleField "LineStore" "matcher") ∈ lw_tbl := in_t2 (List.mem_of_getElem? (i := 22) rfl)
set_option maxRecDepth 20000 in
theorem t_263 : (Jvm.Cond.lays "LineStore" "LineStore" "asked" "LLineStore$Question;") ∈ lw_tbl := in_t2 (List.mem_of_getElem? (i := 23) rfl)
set_option maxRecDepth 20000 in
theorem t_264 : (Jvm.Cond.soleField "LineStore" "asked") ∈ lw_tbl := in_t2 (List.mem_of_getElem? (i := 24) rfl)
set_option maxRecDepth 20000 in
theorem t_265 : (Jvm.Cond.lays "LineStore" "LineStore" "spare" "LLineStore$Question;") ∈ lw_tbl := in_t2 (List.mem_of_getElem? (i := 25) rfl)
set_option maxRecDepth 20000 in
theorem t_266 : (Jvm.Cond.soleField "LineStore" "spare") ∈ lw_tbl := in_t2 (List.mem_of_getElem? (i := 26) rfl)
set_option maxRecDepth 20000 in
theorem t_267 : (Jvm.Cond.lays "LineStore" "LineStore" "firstWrong" "I") ∈ lw_tbl := in_t2 (List.mem_of_getElem? (i := 27) rfl)
set_option maxRecDepth 20000 in
theorem t_268 : (Jvm.Cond.soleField "LineStore" "firstWrong") ∈ lw_tbl := in_t2 (List.mem_of_getElem? (i := 28) rfl)
set_option maxRecDepth 20000 in
theorem t_269 : (Jvm.Cond.superclass "LineStore" "java/lang/Object") ∈ lw_tbl := in_t2 (List.mem_of_getElem? (i := 29) rfl)
set_option maxRecDepth 20000 in
theorem t_270 : (Jvm.Cond.methodLink "LineStoreLaw" (70 : Nat) ({ cls := "LineStore", name := "feed", desc := "(IIIII)I" } : Jvm.MethodName)) ∈ lw_tbl := in_t2 (List.mem_of_getElem? (i := 30) rfl)
set_option maxRecDepth 20000 in
theorem t_271 : (Jvm.Cond.instanceMethod ({ cls := "LineStore", name := "feed", desc := "(IIIII)I" } : Jvm.MethodName)) ∈ lw_tbl := in_t2 (List.mem_of_getElem? (i := 31) rfl)
set_option maxRecDepth 20000 in
theorem t_272 : (Jvm.Cond.selects "LineStore" ({ cls := "LineStore", name := "feed", desc := "(IIIII)I" } : Jvm.MethodName) ({ cls := "LineStore", name := "feed", desc := "(IIIII)I" } : Jvm.MethodName)) ∈ lw_tbl := in_t2 (List.mem_of_getElem? (i := 32) rfl)
set_option maxRecDepth 20000 in
theorem t_273 : (Jvm.Cond.code ({ cls := "LineStore", name := "feed", desc := "(IIIII)I" } : Jvm.MethodName) prog_1_method_2_code (6 : Nat) (Option.some Jvm.ClassFile.FieldType.int)) ∈ lw_tbl := in_t2 (List.mem_of_getElem? (i := 33) rfl)
set_option maxRecDepth 20000 in
theorem t_274 : (Jvm.Cond.methodLink "LineStore" (72 : Nat) ({ cls := "LineStore$Tape", name := "hasRoom", desc := "(I)Z" } : Jvm.MethodName)) ∈ lw_tbl := in_t2 (List.mem_of_getElem? (i := 34) rfl)
set_option maxRecDepth 20000 in
theorem t_275 : (Jvm.Cond.instanceMethod ({ cls := "LineStore$Tape", name := "hasRoom", desc := "(I)Z" } : Jvm.MethodName)) ∈ lw_tbl := in_t2 (List.mem_of_getElem? (i := 35) rfl)
set_option maxRecDepth 20000 in
theorem t_276 : (Jvm.Cond.selects "LineStore$Tape" ({ cls := "LineStore$Tape", name := "hasRoom", desc := "(I)Z" } : Jvm.MethodName) ({ cls := "LineStore$Tape", name := "hasRoom", desc := "(I)Z" } : Jvm.MethodName)) ∈ lw_tbl := in_t2 (List.mem_of_getElem? (i := 36) rfl)
set_option maxRecDepth 20000 in
theorem t_277 : (Jvm.Cond.code ({ cls := "LineStore$Tape", name := "hasRoom", desc := "(I)Z" } : Jvm.MethodName) prog_10_method_2_code (2 : Nat) (Option.some Jvm.ClassFile.FieldType.boolean)) ∈ lw_tbl := in_t2 (List.mem_of_getElem? (i := 37) rfl)
set_option maxRecDepth 20000 in
theorem t_278 : (Jvm.Cond.methodLink "LineStore" (76 : Nat) ({ cls := "LineStore$Tape", name := "add", desc := "(I)V" } : Jvm.MethodName)) ∈ lw_tbl := in_t2 (List.mem_of_getElem? (i := 38) rfl)
set_option maxRecDepth 20000 in
theorem t_279 : (Jvm.Cond.instanceMethod ({ cls := "LineStore$Tape", name := "add", desc := "(I)V" } : Jvm.MethodName)) ∈ lw_tbl := in_t2 (List.mem_of_getElem? (i := 39) rfl)
set_option maxRecDepth 20000 in
theorem t_280 : (Jvm.Cond.selects "LineStore$Tape" ({ cls := "LineStore$Tape", name := "add", desc := "(I)V" } : Jvm.MethodName) ({ cls := "LineStore$Tape", name := "add", desc := "(I)V" } : Jvm.MethodName)) ∈ lw_tbl := in_t2 (List.mem_of_getElem? (i := 40) rfl)
set_option maxRecDepth 20000 in
theorem t_281 : (Jvm.Cond.code ({ cls := "LineStore$Tape", name := "add", desc := "(I)V" } : Jvm.MethodName) prog_10_method_3_code (3 : Nat) (Option.none : Option Jvm.ClassFile.FieldType)) ∈ lw_tbl := in_t2 (List.mem_of_getElem? (i := 41) rfl)
set_option maxRecDepth 20000 in
theorem t_282 : (Jvm.Cond.methodLink "LineStore$Tape" (19 : Nat) ({ cls := "LineStore$Tape", name := "hasRoom", desc := "(I)Z" } : Jvm.MethodName)) ∈ lw_tbl := in_t2 (List.mem_of_getElem? (i := 42) rfl)
set_option maxRecDepth 20000 in
theorem t_283 : (Jvm.Cond.methodLink "LineStore" (80 : Nat) ({ cls := "LineStore$Tape", name := "length", desc := "()I" } : Jvm.MethodName)) ∈ lw_tbl := in_t2 (List.mem_of_getElem? (i := 43) rfl)
set_option maxRecDepth 20000 in
theorem t_284 : (Jvm.Cond.instanceMethod ({ cls := "LineStore$Tape", name := "length", desc := "()I" } : Jvm.MethodName)) ∈ lw_tbl := in_t2 (List.mem_of_getElem? (i := 44) rfl)
set_option maxRecDepth 20000 in
theorem t_285 : (Jvm.Cond.selects "LineStore$Tape" ({ cls := "LineStore$Tape", name := "length", desc := "()I" } : Jvm.MethodName) ({ cls := "LineStore$Tape", name := "length", desc := "()I" } : Jvm.MethodName)) ∈ lw_tbl := in_t2 (List.mem_of_getElem? (i := 45) rfl)
set_option maxRecDepth 20000 in
theorem t_286 : (Jvm.Cond.code ({ cls := "LineStore$Tape", name := "length", desc := "()I" } : Jvm.MethodName) prog_10_method_6_code (1 : Nat) (Option.some Jvm.ClassFile.FieldType.int)) ∈ lw_tbl := in_t2 (List.mem_of_getElem? (i := 46) rfl)
set_option maxRecDepth 20000 in
theorem t_287 : (Jvm.Cond.methodLink "LineStoreLaw" (75 : Nat) ({ cls := "LineStore", name := "end", desc := "(I)Z" } : Jvm.MethodName)) ∈ lw_tbl := in_t2 (List.mem_of_getElem? (i := 47) rfl)
set_option maxRecDepth 20000 in
theorem t_288 : (Jvm.Cond.instanceMethod ({ cls := "LineStore", name := "end", desc := "(I)Z" } : Jvm.MethodName)) ∈ lw_tbl := in_t2 (List.mem_of_getElem? (i := 48) rfl)
set_option maxRecDepth 20000 in
theorem t_289 : (Jvm.Cond.selects "LineStore" ({ cls := "LineStore", name := "end", desc := "(I)Z" } : Jvm.MethodName) ({ cls := "LineStore", name := "end", desc := "(I)Z" } : Jvm.MethodName)) ∈ lw_tbl := in_t2 (List.mem_of_getElem? (i := 49) rfl)
set_option maxRecDepth 20000 in
theorem t_290 : (Jvm.Cond.code ({ cls := "LineStore", name := "end", desc := "(I)Z" } : Jvm.MethodName) prog_1_method_3_code (2 : Nat) (Option.some Jvm.ClassFile.FieldType.boolean)) ∈ lw_tbl := in_t2 (List.mem_of_getElem? (i := 50) rfl)
set_option maxRecDepth 20000 in
theorem t_291 : (Jvm.Cond.methodLink "LineStore" (84 : Nat) ({ cls := "LineStore$Tape", name := "cut", desc := "(I)Z" } : Jvm.MethodName)) ∈ lw_tbl := in_t2 (List.mem_of_getElem? (i := 51) rfl)
set_option maxRecDepth 20000 in
theorem t_292 : (Jvm.Cond.instanceMethod ({ cls := "LineStore$Tape", name := "cut", desc := "(I)Z" } : Jvm.MethodName)) ∈ lw_tbl := in_t2 (List.mem_of_getElem? (i := 52) rfl)
set_option maxRecDepth 20000 in
theorem t_293 : (Jvm.Cond.selects "LineStore$Tape" ({ cls := "LineStore$Tape", name := "cut", desc := "(I)Z" } : Jvm.MethodName) ({ cls := "LineStore$Tape", name := "cut", desc := "(I)Z" } : Jvm.MethodName)) ∈ lw_tbl := in_t2 (List.mem_of_getElem? (i := 53) rfl)
set_option maxRecDepth 20000 in
theorem t_294 : (Jvm.Cond.code ({ cls := "LineStore$Tape", name := "cut", desc := "(I)Z" } : Jvm.MethodName) prog_10_method_4_code (2 : Nat) (Option.some Jvm.ClassFile.FieldType.boolean)) ∈ lw_tbl := in_t2 (List.mem_of_getElem? (i := 54) rfl)
set_option maxRecDepth 20000 in
theorem t_295 : (Jvm.Cond.methodLink "LineStoreLaw" (112 : Nat) ({ cls := "LineStore", name := "part", desc := "()Z" } : Jvm.MethodName)) ∈ lw_tbl := in_t2 (List.mem_of_getElem? (i := 55) rfl)
set_option maxRecDepth 20000 in
theorem t_296 : (Jvm.Cond.instanceMethod ({ cls := "LineStore", name := "part", desc := "()Z" } : Jvm.MethodName)) ∈ lw_tbl := in_t2 (List.mem_of_getElem? (i := 56) rfl)
set_option maxRecDepth 20000 in
theorem t_297 : (Jvm.Cond.selects "LineStore" ({ cls := "LineStore", name := "part", desc := "()Z" } : Jvm.MethodName) ({ cls := "LineStore", name := "part", desc := "()Z" } : Jvm.MethodName)) ∈ lw_tbl := in_t2 (List.mem_of_getElem? (i := 57) rfl)
set_option maxRecDepth 20000 in
theorem t_298 : (Jvm.Cond.code ({ cls := "LineStore", name := "part", desc := "()Z" } : Jvm.MethodName) prog_1_method_11_code (1 : Nat) (Option.some Jvm.ClassFile.FieldType.boolean)) ∈ lw_tbl := in_t2 (List.mem_of_getElem? (i := 58) rfl)
set_option maxRecDepth 20000 in
theorem t_299 : (Jvm.Cond.methodLink "LineStore" (162 : Nat) ({ cls := "LineStore$Ones", name := "undo", desc := "()Z" } : Jvm.MethodName)) ∈ lw_tbl := in_t2 (List.mem_of_getElem? (i := 59) rfl)
set_option maxRecDepth 20000 in
theorem t_300 : (Jvm.Cond.instanceMethod ({ cls := "LineStore$Ones", name := "undo", desc := "()Z" } : Jvm.MethodName)) ∈ lw_tbl := in_t2 (List.mem_of_getElem? (i := 60) rfl)
set_option maxRecDepth 20000 in
theorem t_301 : (Jvm.Cond.selects "LineStore$Ones" ({ cls := "LineStore$Ones", name := "undo", desc := "()Z" } : Jvm.MethodName) ({ cls := "LineStore$Ones", name := "undo", desc := "()Z" } : Jvm.MethodName)) ∈ lw_tbl := in_t2 (List.mem_of_getElem? (i := 61) rfl)
set_option maxRecDepth 20000 in
theorem t_302 : (Jvm.Cond.code ({ cls := "LineStore$Ones", name := "undo", desc := "()Z" } : Jvm.MethodName) prog_7_method_5_code (1 : Nat) (Option.some Jvm.ClassFile.FieldType.boolean)) ∈ lw_tbl := in_t2 (List.mem_of_getElem? (i := 62) rfl)
set_option maxRecDepth 20000 in
theorem t_303 : (Jvm.Cond.methodLink "LineStore$Ones" (34 : Nat) ({ cls := "LineStore$Ones", name := "renewLeast", desc := "()V" } : Jvm.MethodName)) ∈ lw_tbl := in_t2 (List.mem_of_getElem? (i := 63) rfl)
set_option maxRecDepth 20000 in
theorem t_304 : (Jvm.Cond.privateMethod ({ cls := "LineStore$Ones", name := "renewLeast", desc := "()V" } : Jvm.MethodName)) ∈ lw_tbl := in_t2 (List.mem_of_getElem? (i := 64) rfl)
set_option maxRecDepth 20000 in
theorem t_305 : (Jvm.Cond.instanceMethod ({ cls := "LineStore$Ones", name := "renewLeast", desc := "()V" } : Jvm.MethodName)) ∈ lw_tbl := in_t2 (List.mem_of_getElem? (i := 65) rfl)
set_option maxRecDepth 20000 in
theorem t_306 : (Jvm.Cond.code ({ cls := "LineStore$Ones", name := "renewLeast", desc := "()V" } : Jvm.MethodName) prog_7_method_6_code (3 : Nat) (Option.none : Option Jvm.ClassFile.FieldType)) ∈ lw_tbl := in_t2 (List.mem_of_getElem? (i := 66) rfl)
set_option maxRecDepth 20000 in
theorem t_307 : (Jvm.Cond.methodLink "LineStoreLaw" (131 : Nat) ({ cls := "LineStore", name := "fault", desc := "()I" } : Jvm.MethodName)) ∈ lw_tbl := in_t2 (List.mem_of_getElem? (i := 67) rfl)
set_option maxRecDepth 20000 in
theorem t_308 : (Jvm.Cond.instanceMethod ({ cls := "LineStore", name := "fault", desc := "()I" } : Jvm.MethodName)) ∈ lw_tbl := in_t2 (List.mem_of_getElem? (i := 68) rfl)
set_option maxRecDepth 20000 in
theorem t_309 : (Jvm.Cond.selects "LineStore" ({ cls := "LineStore", name := "fault", desc := "()I" } : Jvm.MethodName) ({ cls := "LineStore", name := "fault", desc := "()I" } : Jvm.MethodName)) ∈ lw_tbl := in_t2 (List.mem_of_getElem? (i := 69) rfl)
set_option maxRecDepth 20000 in
theorem t_310 : (Jvm.Cond.code ({ cls := "LineStore", name := "fault", desc := "()I" } : Jvm.MethodName) prog_1_method_16_code (1 : Nat) (Option.some Jvm.ClassFile.FieldType.int)) ∈ lw_tbl := in_t2 (List.mem_of_getElem? (i := 70) rfl)
set_option maxRecDepth 20000 in
theorem t_311 : (Jvm.Cond.methodLink "LineStoreLaw" (135 : Nat) ({ cls := "LineStore", name := "answers", desc := "(I)I" } : Jvm.MethodName)) ∈ lw_tbl := in_t2 (List.mem_of_getElem? (i := 71) rfl)
set_option maxRecDepth 20000 in
theorem t_312 : (Jvm.Cond.instanceMethod ({ cls := "LineStore", name := "answers", desc := "(I)I" } : Jvm.MethodName)) ∈ lw_tbl := in_t2 (List.mem_of_getElem? (i := 72) rfl)
set_option maxRecDepth 20000 in
theorem t_313 : (Jvm.Cond.selects "LineStore" ({ cls := "LineStore", name := "answers", desc := "(I)I" } : Jvm.MethodName) ({ cls := "LineStore", name := "answers", desc := "(I)I" } : Jvm.MethodName)) ∈ lw_tbl := in_t2 (List.mem_of_getElem? (i := 73) rfl)
set_option maxRecDepth 20000 in
theorem t_314 : (Jvm.Cond.code ({ cls := "LineStore", name := "answers", desc := "(I)I" } : Jvm.MethodName) prog_1_method_17_code (2 : Nat) (Option.some Jvm.ClassFile.FieldType.int)) ∈ lw_tbl := in_t2 (List.mem_of_getElem? (i := 74) rfl)
set_option maxRecDepth 20000 in
theorem t_315 : (Jvm.Cond.methodLink "LineStore" (217 : Nat) ({ cls := "LineStore$Question", name := "atoms", desc := "()I" } : Jvm.MethodName)) ∈ lw_tbl := in_t2 (List.mem_of_getElem? (i := 75) rfl)
set_option maxRecDepth 20000 in
theorem t_316 : (Jvm.Cond.instanceMethod ({ cls := "LineStore$Question", name := "atoms", desc := "()I" } : Jvm.MethodName)) ∈ lw_tbl := in_t2 (List.mem_of_getElem? (i := 76) rfl)
set_option maxRecDepth 20000 in
theorem t_317 : (Jvm.Cond.selects "LineStore$Question" ({ cls := "LineStore$Question", name := "atoms", desc := "()I" } : Jvm.MethodName) ({ cls := "LineStore$Question", name := "atoms", desc := "()I" } : Jvm.MethodName)) ∈ lw_tbl := in_t2 (List.mem_of_getElem? (i := 77) rfl)
set_option maxRecDepth 20000 in
theorem t_318 : (Jvm.Cond.code ({ cls := "LineStore$Question", name := "atoms", desc := "()I" } : Jvm.MethodName) prog_8_method_5_code (1 : Nat) (Option.some Jvm.ClassFile.FieldType.int)) ∈ lw_tbl := in_t2 (List.mem_of_getElem? (i := 78) rfl)
set_option maxRecDepth 20000 in
theorem t_319 : (Jvm.Cond.methodLink "LineStore" (220 : Nat) ({ cls := "LineStore$Matcher", name := "prepare", desc := "(LLineStore$Question;LLineStore$Lines;LLineStore$Ones;I)V" } : Jvm.MethodName)) ∈ lw_tbl := in_t2 (List.mem_of_getElem? (i := 79) rfl)
set_option maxRecDepth 20000 in
theorem t_320 : (Jvm.Cond.instanceMethod ({ cls := "LineStore$Matcher", name := "prepare", desc := "(LLineStore$Question;LLineStore$Lines;LLineStore$Ones;I)V" } : Jvm.MethodName)) ∈ lw_tbl := in_t2 (List.mem_of_getElem? (i := 80) rfl)
set_option maxRecDepth 20000 in
theorem t_321 : (Jvm.Cond.selects "LineStore$Matcher" ({ cls := "LineStore$Matcher", name := "prepare", desc := "(LLineStore$Question;LLineStore$Lines;LLineStore$Ones;I)V" } : Jvm.MethodName) ({ cls := "LineStore$Matcher", name := "prepare", desc := "(LLineStore$Question;LLineStore$Lines;LLineStore$Ones;I)V" } : Jvm.MethodName)) ∈ lw_tbl := in_t2 (List.mem_of_getElem? (i := 81) rfl)
set_option maxRecDepth 20000 in
theorem t_322 : (Jvm.Cond.code ({ cls := "LineStore$Matcher", name := "prepare", desc := "(LLineStore$Question;LLineStore$Lines;LLineStore$Ones;I)V" } : Jvm.MethodName) prog_6_method_2_code (8 : Nat) (Option.none : Option Jvm.ClassFile.FieldType)) ∈ lw_tbl := in_t2 (List.mem_of_getElem? (i := 82) rfl)
set_option maxRecDepth 20000 in
theorem t_323 : (Jvm.Cond.methodLink "LineStore$Matcher" (35 : Nat) ({ cls := "LineStore$Question", name := "atoms", desc := "()I" } : Jvm.MethodName)) ∈ lw_tbl := in_t2 (List.mem_of_getElem? (i := 83) rfl)
set_option maxRecDepth 20000 in
theorem t_324 : (Jvm.Cond.methodLink "LineStore$Matcher" (39 : Nat) ({ cls := "LineStore$Lines", name := "size", desc := "()I" } : Jvm.MethodName)) ∈ lw_tbl := in_t2 (List.mem_of_getElem? (i := 84) rfl)
set_option maxRecDepth 20000 in
theorem t_325 : (Jvm.Cond.instanceMethod ({ cls := "LineStore$Lines", name := "size", desc := "()I" } : Jvm.MethodName)) ∈ lw_tbl := in_t2 (List.mem_of_getElem? (i := 85) rfl)
set_option maxRecDepth 20000 in
theorem t_326 : (Jvm.Cond.selects "LineStore$Lines" ({ cls := "LineStore$Lines", name := "size", desc := "()I" } : Jvm.MethodName) ({ cls := "LineStore$Lines", name := "size", desc := "()I" } : Jvm.MethodName)) ∈ lw_tbl := in_t2 (List.mem_of_getElem? (i := 86) rfl)
set_option maxRecDepth 20000 in
theorem t_327 : (Jvm.Cond.code ({ cls := "LineStore$Lines", name := "size", desc := "()I" } : Jvm.MethodName) prog_5_method_2_code (1 : Nat) (Option.some Jvm.ClassFile.FieldType.int)) ∈ lw_tbl := in_t2 (List.mem_of_getElem? (i := 87) rfl)
set_option maxRecDepth 20000 in
theorem t_328 : (Jvm.Cond.methodLink "LineStore$Lines" (29 : Nat) ({ cls := "java/util/ArrayList", name := "size", desc := "()I" } : Jvm.MethodName)) ∈ lw_tbl := in_t2 (List.mem_of_getElem? (i := 88) rfl)
set_option maxRecDepth 20000 in
theorem t_329 : (Jvm.Cond.instanceMethod ({ cls := "java/util/ArrayList", name := "size", desc := "()I" } : Jvm.MethodName)) ∈ lw_tbl := in_t2 (List.mem_of_getElem? (i := 89) rfl)
set_option maxRecDepth 20000 in
theorem t_330 : (Jvm.Cond.selects "java/util/ArrayList" ({ cls := "java/util/ArrayList", name := "size", desc := "()I" } : Jvm.MethodName) ({ cls := "java/util/ArrayList", name := "size", desc := "()I" } : Jvm.MethodName)) ∈ lw_tbl := in_t2 (List.mem_of_getElem? (i := 90) rfl)
set_option maxRecDepth 20000 in
theorem t_331 : (Jvm.Cond.code ({ cls := "java/util/ArrayList", name := "size", desc := "()I" } : Jvm.MethodName) prog_31_method_8_code (1 : Nat) (Option.some Jvm.ClassFile.FieldType.int)) ∈ lw_tbl := in_t2 (List.mem_of_getElem? (i := 91) rfl)
set_option maxRecDepth 20000 in
theorem t_332 : (Jvm.Cond.methodLink "LineStore$Matcher" (44 : Nat) ({ cls := "LineStore$Lines", name := "get", desc := "(I)LLineStore$Line;" } : Jvm.MethodName)) ∈ lw_tbl := in_t2 (List.mem_of_getElem? (i := 92) rfl)
set_option maxRecDepth 20000 in
theorem t_333 : (Jvm.Cond.instanceMethod ({ cls := "LineStore$Lines", name := "get", desc := "(I)LLineStore$Line;" } : Jvm.MethodName)) ∈ lw_tbl := in_t2 (List.mem_of_getElem? (i := 93) rfl)
set_option maxRecDepth 20000 in
theorem t_334 : (Jvm.Cond.selects "LineStore$Lines" ({ cls := "LineStore$Lines", name := "get", desc := "(I)LLineStore$Line;" } : Jvm.MethodName) ({ cls := "LineStore$Lines", name := "get", desc := "(I)LLineStore$Line;" } : Jvm.MethodName)) ∈ lw_tbl := in_t2 (List.mem_of_getElem? (i := 94) rfl)
set_option maxRecDepth 20000 in
theorem t_335 : (Jvm.Cond.code ({ cls := "LineStore$Lines", name := "get", desc := "(I)LLineStore$Line;" } : Jvm.MethodName) prog_5_method_3_code (2 : Nat) (Option.some (Jvm.ClassFile.FieldType.object "LineStore$Line"))) ∈ lw_tbl := in_t2 (List.mem_of_getElem? (i := 95) rfl)
set_option maxRecDepth 20000 in
theorem t_336 : (Jvm.Cond.methodLink "LineStore$Lines" (33 : Nat) ({ cls := "java/util/ArrayList", name := "get", desc := "(I)Ljava/lang/Object;" } : Jvm.MethodName)) ∈ lw_tbl := in_t2 (List.mem_of_getElem? (i := 96) rfl)
set_option maxRecDepth 20000 in
theorem t_337 : (Jvm.Cond.instanceMethod ({ cls := "java/util/ArrayList", name := "get", desc := "(I)Ljava/lang/Object;" } : Jvm.MethodName)) ∈ lw_tbl := in_t2 (List.mem_of_getElem? (i := 97) rfl)
set_option maxRecDepth 20000 in
theorem t_338 : (Jvm.Cond.selects "java/util/ArrayList" ({ cls := "java/util/ArrayList", name := "get", desc := "(I)Ljava/lang/Object;" } : Jvm.MethodName) ({ cls := "java/util/ArrayList", name := "get", desc := "(I)Ljava/lang/Object;" } : Jvm.MethodName)) ∈ lw_tbl := in_t2 (List.mem_of_getElem? (i := 98) rfl)
set_option maxRecDepth 20000 in
theorem t_339 : (Jvm.Cond.code ({ cls := "java/util/ArrayList", name := "get", desc := "(I)Ljava/lang/Object;" } : Jvm.MethodName) prog_31_method_20_code (2 : Nat) (Option.some (Jvm.ClassFile.FieldType.object "java/lang/Object"))) ∈ lw_tbl := in_t2 (List.mem_of_getElem? (i := 99) rfl)
set_option maxRecDepth 20000 in
theorem t_340 : (Jvm.Cond.methodLink "java/util/ArrayList" (118 : Nat) ({ cls := "java/util/Objects", name := "checkIndex", desc := "(II)I" } : Jvm.MethodName)) ∈ lw_tbl := in_t2 (List.mem_of_getElem? (i := 100) rfl)
set_option maxRecDepth 20000 in
theorem t_341 : (Jvm.Cond.static ({ cls := "java/util/Objects", name := "checkIndex", desc := "(II)I" } : Jvm.MethodName)) ∈ lw_tbl := in_t2 (List.mem_of_getElem? (i := 101) rfl)
set_option maxRecDepth 20000 in
theorem t_342 : (Jvm.Cond.code ({ cls := "java/util/Objects", name := "checkIndex", desc := "(II)I" } : Jvm.MethodName) prog_36_method_17_code (2 : Nat) (Option.some Jvm.ClassFile.FieldType.int)) ∈ lw_tbl := in_t2 (List.mem_of_getElem? (i := 102) rfl)
set_option maxRecDepth 20000 in
theorem t_343 : (Jvm.Cond.methodLink "java/util/Objects" (105 : Nat) ({ cls := "jdk/internal/util/Preconditions", name := "checkIndex", desc := "(IILjava/util/function/BiFunction;)I" } : Jvm.MethodName)) ∈ lw_tbl := in_t2 (List.mem_of_getElem? (i := 103) rfl)
set_option maxRecDepth 20000 in
theorem t_344 : (Jvm.Cond.static ({ cls := "jdk/internal/util/Preconditions", name := "checkIndex", desc := "(IILjava/util/function/BiFunction;)I" } : Jvm.MethodName)) ∈ lw_tbl := in_t2 (List.mem_of_getElem? (i := 104) rfl)
set_option maxRecDepth 20000 in
theorem t_345 : (Jvm.Cond.code ({ cls := "jdk/internal/util/Preconditions", name := "checkIndex", desc := "(IILjava/util/function/BiFunction;)I" } : Jvm.MethodName) prog_40_method_11_code (3 : Nat) (Option.some Jvm.ClassFile.FieldType.int)) ∈ lw_tbl := in_t2 (List.mem_of_getElem? (i := 105) rfl)
set_option maxRecDepth 20000 in
theorem t_346 : (Jvm.Cond.methodLink "java/util/ArrayList" (123 : Nat) ({ cls := "java/util/ArrayList", name := "elementData", desc := "(I)Ljava/lang/Object;" } : Jvm.MethodName)) ∈ lw_tbl := in_t2 (List.mem_of_getElem? (i := 106) rfl)
set_option maxRecDepth 20000 in
theorem t_347 : (Jvm.Cond.instanceMethod ({ cls := "java/util/ArrayList", name := "elementData", desc := "(I)Ljava/lang/Object;" } : Jvm.MethodName)) ∈ lw_tbl := in_t2 (List.mem_of_getElem? (i := 107) rfl)
set_option maxRecDepth 20000 in
theorem t_348 : (Jvm.Cond.selects "java/util/ArrayList" ({ cls := "java/util/ArrayList", name := "elementData", desc := "(I)Ljava/lang/Object;" } : Jvm.MethodName) ({ cls := "java/util/ArrayList", name := "elementData", desc := "(I)Ljava/lang/Object;" } : Jvm.MethodName)) ∈ lw_tbl := in_t2 (List.mem_of_getElem? (i := 108) rfl)
set_option maxRecDepth 20000 in
theorem t_349 : (Jvm.Cond.code ({ cls := "java/util/ArrayList", name := "elementData", desc := "(I)Ljava/lang/Object;" } : Jvm.MethodName) prog_31_method_18_code (2 : Nat) (Option.some (Jvm.ClassFile.FieldType.object "java/lang/Object"))) ∈ lw_tbl := in_t2 (List.mem_of_getElem? (i := 109) rfl)
set_option maxRecDepth 20000 in
theorem t_350 : (Jvm.Cond.classLink "LineStore$Lines" (37 : Nat) "LineStore$Line") ∈ lw_tbl := in_t2 (List.mem_of_getElem? (i := 110) rfl)
set_option maxRecDepth 20000 in
theorem t_351 : (Jvm.Cond.methodLink "LineStore$Matcher" (54 : Nat) ({ cls := "LineStore$Question", name := "kind", desc := "(I)I" } : Jvm.MethodName)) ∈ lw_tbl := in_t2 (List.mem_of_getElem? (i := 111) rfl)
set_option maxRecDepth 20000 in
theorem t_352 : (Jvm.Cond.instanceMethod ({ cls := "LineStore$Question", name := "kind", desc := "(I)I" } : Jvm.MethodName)) ∈ lw_tbl := in_t2 (List.mem_of_getElem? (i := 112) rfl)
set_option maxRecDepth 20000 in
theorem t_353 : (Jvm.Cond.selects "LineStore$Question" ({ cls := "LineStore$Question", name := "kind", desc := "(I)I" } : Jvm.MethodName) ({ cls := "LineStore$Question", name := "kind", desc := "(I)I" } : Jvm.MethodName)) ∈ lw_tbl := in_t2 (List.mem_of_getElem? (i := 113) rfl)
set_option maxRecDepth 20000 in
theorem t_354 : (Jvm.Cond.code ({ cls := "LineStore$Question", name := "kind", desc := "(I)I" } : Jvm.MethodName) prog_8_method_9_code (2 : Nat) (Option.some Jvm.ClassFile.FieldType.int)) ∈ lw_tbl := in_t2 (List.mem_of_getElem? (i := 114) rfl)
set_option maxRecDepth 20000 in
theorem t_355 : (Jvm.Cond.methodLink "LineStore$Matcher" (57 : Nat) ({ cls := "LineStore$Line", name := "isInForce", desc := "(I)Z" } : Jvm.MethodName)) ∈ lw_tbl := in_t2 (List.mem_of_getElem? (i := 115) rfl)
set_option maxRecDepth 20000 in
theorem t_356 : (Jvm.Cond.instanceMethod ({ cls := "LineStore$Line", name := "isInForce", desc := "(I)Z" } : Jvm.MethodName)) ∈ lw_tbl := in_t2 (List.mem_of_getElem? (i := 116) rfl)
set_option maxRecDepth 20000 in
theorem t_357 : (Jvm.Cond.selects "LineStore$Line" ({ cls := "LineStore$Line", name := "isInForce", desc := "(I)Z" } : Jvm.MethodName) ({ cls := "LineStore$Line", name := "isInForce", desc := "(I)Z" } : Jvm.MethodName)) ∈ lw_tbl := in_t2 (List.mem_of_getElem? (i := 117) rfl)
set_option maxRecDepth 20000 in
theorem t_358 : (Jvm.Cond.code ({ cls := "LineStore$Line", name := "isInForce", desc := "(I)Z" } : Jvm.MethodName) prog_4_method_2_code (2 : Nat) (Option.some Jvm.ClassFile.FieldType.boolean)) ∈ lw_tbl := in_t2 (List.mem_of_getElem? (i := 118) rfl)
set_option maxRecDepth 20000 in
theorem t_359 : (Jvm.Cond.methodLink "LineStore$Matcher" (65 : Nat) ({ cls := "LineStore$Matcher", name := "addIfFits", desc := "(ILLineStore$Ends;LLineStore$Ones;)V" } : Jvm.MethodName)) ∈ lw_tbl := in_t2 (List.mem_of_getElem? (i := 119) rfl)
set_option maxRecDepth 20000 in
theorem t_360 : (Jvm.Cond.privateMethod ({ cls := "LineStore$Matcher", name := "addIfFits", desc := "(ILLineStore$Ends;LLineStore$Ones;)V" } : Jvm.MethodName)) ∈ lw_tbl := in_t2 (List.mem_of_getElem? (i := 120) rfl)
set_option maxRecDepth 20000 in
theorem t_361 : (Jvm.Cond.instanceMethod ({ cls := "LineStore$Matcher", name := "addIfFits", desc := "(ILLineStore$Ends;LLineStore$Ones;)V" } : Jvm.MethodName)) ∈ lw_tbl := in_t2 (List.mem_of_getElem? (i := 121) rfl)
set_option maxRecDepth 20000 in
theorem t_362 : (Jvm.Cond.code ({ cls := "LineStore$Matcher", name := "addIfFits", desc := "(ILLineStore$Ends;LLineStore$Ones;)V" } : Jvm.MethodName) prog_6_method_6_code (9 : Nat) (Option.none : Option Jvm.ClassFile.FieldType)) ∈ lw_tbl := in_t2 (List.mem_of_getElem? (i := 122) rfl)
set_option maxRecDepth 20000 in
theorem t_363 : (Jvm.Cond.constantLong "LineStore$Matcher" (101 : Nat) (1099511627775 : Int64)) ∈ lw_tbl := in_t2 (List.mem_of_getElem? (i := 123) rfl)
set_option maxRecDepth 20000 in
theorem t_364 : (Jvm.Cond.methodLink "LineStore$Matcher" (103 : Nat) ({ cls := "LineStore$Question", name := "parts", desc := "(I)I" } : Jvm.MethodName)) ∈ lw_tbl := in_t2 (List.mem_of_getElem? (i := 124) rfl)
set_option maxRecDepth 20000 in
theorem t_365 : (Jvm.Cond.instanceMethod ({ cls := "LineStore$Question", name := "parts", desc := "(I)I" } : Jvm.MethodName)) ∈ lw_tbl := in_t2 (List.mem_of_getElem? (i := 125) rfl)
set_option maxRecDepth 20000 in
theorem t_366 : (Jvm.Cond.selects "LineStore$Question" ({ cls := "LineStore$Question", name := "parts", desc := "(I)I" } : Jvm.MethodName) ({ cls := "LineStore$Question", name := "parts", desc := "(I)I" } : Jvm.MethodName)) ∈ lw_tbl := in_t2 (List.mem_of_getElem? (i := 126) rfl)
set_option maxRecDepth 20000 in
theorem t_367 : (Jvm.Cond.code ({ cls := "LineStore$Question", name := "parts", desc := "(I)I" } : Jvm.MethodName) prog_8_method_11_code (2 : Nat) (Option.some Jvm.ClassFile.FieldType.int)) ∈ lw_tbl := in_t2 (List.mem_of_getElem? (i := 127) rfl)
set_option maxRecDepth 20000 in
theorem t_368 : (Jvm.Cond.methodLink "LineStore$Matcher" (106 : Nat) ({ cls := "LineStore$Question", name := "role", desc := "(II)I" } : Jvm.MethodName)) ∈ lw_tbl := in_t2 (List.mem_of_getElem? (i := 128) rfl)
set_option maxRecDepth 20000 in
theorem t_369 : (Jvm.Cond.instanceMethod ({ cls := "LineStore$Question", name := "role", desc := "(II)I" } : Jvm.MethodName)) ∈ lw_tbl := in_t2 (List.mem_of_getElem? (i := 129) rfl)
set_option maxRecDepth 20000 in
theorem t_370 : (Jvm.Cond.selects "LineStore$Question" ({ cls := "LineStore$Question", name := "role", desc := "(II)I" } : Jvm.MethodName) ({ cls := "LineStore$Question", name := "role", desc := "(II)I" } : Jvm.MethodName)) ∈ lw_tbl := in_t2 (List.mem_of_getElem? (i := 130) rfl)
set_option maxRecDepth 20000 in
theorem t_371 : (Jvm.Cond.code ({ cls := "LineStore$Question", name := "role", desc := "(II)I" } : Jvm.MethodName) prog_8_method_12_code (3 : Nat) (Option.some Jvm.ClassFile.FieldType.int)) ∈ lw_tbl := in_t2 (List.mem_of_getElem? (i := 131) rfl)
set_option maxRecDepth 20000 in
theorem t_372 : (Jvm.Cond.methodLink "LineStore$Matcher" (110 : Nat) ({ cls := "LineStore$Ends", name := "thingsInRole", desc := "(ILLineStore$Ones;)J" } : Jvm.MethodName)) ∈ lw_tbl := in_t2 (List.mem_of_getElem? (i := 132) rfl)
set_option maxRecDepth 20000 in
theorem t_373 : (Jvm.Cond.instanceMethod ({ cls := "LineStore$Ends", name := "thingsInRole", desc := "(ILLineStore$Ones;)J" } : Jvm.MethodName)) ∈ lw_tbl := in_t2 (List.mem_of_getElem? (i := 133) rfl)
set_option maxRecDepth 20000 in
theorem t_374 : (Jvm.Cond.selects "LineStore$Ends" ({ cls := "LineStore$Ends", name := "thingsInRole", desc := "(ILLineStore$Ones;)J" } : Jvm.MethodName) ({ cls := "LineStore$Ends", name := "thingsInRole", desc := "(ILLineStore$Ones;)J" } : Jvm.MethodName)) ∈ lw_tbl := in_t2 (List.mem_of_getElem? (i := 134) rfl)
set_option maxRecDepth 20000 in
theorem t_375 : (Jvm.Cond.code ({ cls := "LineStore$Ends", name := "thingsInRole", desc := "(ILLineStore$Ones;)J" } : Jvm.MethodName) prog_2_method_11_code (6 : Nat) (Option.some Jvm.ClassFile.FieldType.long)) ∈ lw_tbl := in_t2 (List.mem_of_getElem? (i := 135) rfl)
set_option maxRecDepth 20000 in
theorem t_376 : (Jvm.Cond.methodLink "LineStore$Ends" (32 : Nat) ({ cls := "LineStore$Ones", name := "of", desc := "(I)I" } : Jvm.MethodName)) ∈ lw_tbl := in_t2 (List.mem_of_getElem? (i := 136) rfl)
set_option maxRecDepth 20000 in
theorem t_377 : (Jvm.Cond.instanceMethod ({ cls := "LineStore$Ones", name := "of", desc := "(I)I" } : Jvm.MethodName)) ∈ lw_tbl := in_t2 (List.mem_of_getElem? (i := 137) rfl)
set_option maxRecDepth 20000 in
theorem t_378 : (Jvm.Cond.selects "LineStore$Ones" ({ cls := "LineStore$Ones", name := "of", desc := "(I)I" } : Jvm.MethodName) ({ cls := "LineStore$Ones", name := "of", desc := "(I)I" } : Jvm.MethodName)) ∈ lw_tbl := in_t2 (List.mem_of_getElem? (i := 138) rfl)
set_option maxRecDepth 20000 in
theorem t_379 : (Jvm.Cond.code ({ cls := "LineStore$Ones", name := "of", desc := "(I)I" } : Jvm.MethodName) prog_7_method_2_code (2 : Nat) (Option.some Jvm.ClassFile.FieldType.int)) ∈ lw_tbl := in_t2 (List.mem_of_getElem? (i := 139) rfl)
set_option maxRecDepth 20000 in
theorem t_380 : (Jvm.Cond.methodLink "LineStore$Matcher" (116 : Nat) ({ cls := "LineStore$Question", name := "term", desc := "(II)I" } : Jvm.MethodName)) ∈ lw_tbl := in_t2 (List.mem_of_getElem? (i := 140) rfl)
set_option maxRecDepth 20000 in
theorem t_381 : (Jvm.Cond.instanceMethod ({ cls := "LineStore$Question", name := "term", desc := "(II)I" } : Jvm.MethodName)) ∈ lw_tbl := in_t2 (List.mem_of_getElem? (i := 141) rfl)
set_option maxRecDepth 20000 in
theorem t_382 : (Jvm.Cond.selects "LineStore$Question" ({ cls := "LineStore$Question", name := "term", desc := "(II)I" } : Jvm.MethodName) ({ cls := "LineStore$Question", name := "term", desc := "(II)I" } : Jvm.MethodName)) ∈ lw_tbl := in_t2 (List.mem_of_getElem? (i := 142) rfl)
set_option maxRecDepth 20000 in
theorem t_383 : (Jvm.Cond.code ({ cls := "LineStore$Question", name := "term", desc := "(II)I" } : Jvm.MethodName) prog_8_method_13_code (3 : Nat) (Option.some Jvm.ClassFile.FieldType.int)) ∈ lw_tbl := in_t2 (List.mem_of_getElem? (i := 143) rfl)
set_option maxRecDepth 20000 in
theorem t_384 : (Jvm.Cond.methodLink "LineStore$Matcher" (119 : Nat) ({ cls := "LineStore$Ones", name := "of", desc := "(I)I" } : Jvm.MethodName)) ∈ lw_tbl := in_t2 (List.mem_of_getElem? (i := 144) rfl)
set_option maxRecDepth 20000 in
theorem t_385 : (Jvm.Cond.methodLink "LineStore$Matcher" (69 : Nat) ({ cls := "LineStore$Matcher", name := "domain", desc := "(I)J" } : Jvm.MethodName)) ∈ lw_tbl := in_t2 (List.mem_of_getElem? (i := 145) rfl)
set_option maxRecDepth 20000 in
theorem t_386 : (Jvm.Cond.privateMethod ({ cls := "LineStore$Matcher", name := "domain", desc := "(I)J" } : Jvm.MethodName)) ∈ lw_tbl := in_t2 (List.mem_of_getElem? (i := 146) rfl)
set_option maxRecDepth 20000 in
theorem t_387 : (Jvm.Cond.instanceMethod ({ cls := "LineStore$Matcher", name := "domain", desc := "(I)J" } : Jvm.MethodName)) ∈ lw_tbl := in_t2 (List.mem_of_getElem? (i := 147) rfl)
set_option maxRecDepth 20000 in
theorem t_388 : (Jvm.Cond.code ({ cls := "LineStore$Matcher", name := "domain", desc := "(I)J" } : Jvm.MethodName) prog_6_method_7_code (8 : Nat) (Option.some Jvm.ClassFile.FieldType.long)) ∈ lw_tbl := in_t2 (List.mem_of_getElem? (i := 148) rfl)
set_option maxRecDepth 20000 in
theorem t_389 : (Jvm.Cond.methodLink "LineStore$Matcher" (124 : Nat) ({ cls := "LineStore$Question", name := "uses", desc := "(I)Z" } : Jvm.MethodName)) ∈ lw_tbl := in_t2 (List.mem_of_getElem? (i := 149) rfl)
set_option maxRecDepth 20000 in
theorem t_390 : (Jvm.Cond.instanceMethod ({ cls := "LineStore$Question", name := "uses", desc := "(I)Z" } : Jvm.MethodName)) ∈ lw_tbl := in_t2 (List.mem_of_getElem? (i := 150) rfl)
set_option maxRecDepth 20000 in
theorem t_391 : (Jvm.Cond.selects "LineStore$Question" ({ cls := "LineStore$Question", name := "uses", desc := "(I)Z" } : Jvm.MethodName) ({ cls := "LineStore$Question", name := "uses", desc := "(I)Z" } : Jvm.MethodName)) ∈ lw_tbl := in_t2 (List.mem_of_getElem? (i := 151) rfl)
set_option maxRecDepth 20000 in
theorem t_392 : (Jvm.Cond.code ({ cls := "LineStore$Question", name := "uses", desc := "(I)Z" } : Jvm.MethodName) prog_8_method_7_code (2 : Nat) (Option.some Jvm.ClassFile.FieldType.boolean)) ∈ lw_tbl := in_t2 (List.mem_of_getElem? (i := 152) rfl)
set_option maxRecDepth 20000 in
theorem t_393 : (Jvm.Cond.methodLink "LineStore$Matcher" (127 : Nat) ({ cls := "LineStore$Question", name := "isNot", desc := "(I)Z" } : Jvm.MethodName)) ∈ lw_tbl := in_t2 (List.mem_of_getElem? (i := 153) rfl)
set_option maxRecDepth 20000 in
theorem t_394 : (Jvm.Cond.instanceMethod ({ cls := "LineStore$Question", name := "isNot", desc := "(I)Z" } : Jvm.MethodName)) ∈ lw_tbl := in_t2 (List.mem_of_getElem? (i := 154) rfl)
set_option maxRecDepth 20000 in
theorem t_395 : (Jvm.Cond.selects "LineStore$Question" ({ cls := "LineStore$Question", name := "isNot", desc := "(I)Z" } : Jvm.MethodName) ({ cls := "LineStore$Question", name := "isNot", desc := "(I)Z" } : Jvm.MethodName)) ∈ lw_tbl := in_t2 (List.mem_of_getElem? (i := 155) rfl)
set_option maxRecDepth 20000 in
theorem t_396 : (Jvm.Cond.code ({ cls := "LineStore$Question", name := "isNot", desc := "(I)Z" } : Jvm.MethodName) prog_8_method_10_code (2 : Nat) (Option.some Jvm.ClassFile.FieldType.boolean)) ∈ lw_tbl := in_t2 (List.mem_of_getElem? (i := 156) rfl)
set_option maxRecDepth 20000 in
theorem t_397 : (Jvm.Cond.methodLink "LineStore" (224 : Nat) ({ cls := "LineStore$Matcher", name := "howMany", desc := "()I" } : Jvm.MethodName)) ∈ lw_tbl := in_t2 (List.mem_of_getElem? (i := 157) rfl)
set_option maxRecDepth 20000 in
theorem t_398 : (Jvm.Cond.instanceMethod ({ cls := "LineStore$Matcher", name := "howMany", desc := "()I" } : Jvm.MethodName)) ∈ lw_tbl := in_t2 (List.mem_of_getElem? (i := 158) rfl)
set_option maxRecDepth 20000 in
theorem t_399 : (Jvm.Cond.selects "LineStore$Matcher" ({ cls := "LineStore$Matcher", name := "howMany", desc := "()I" } : Jvm.MethodName) ({ cls := "LineStore$Matcher", name := "howMany", desc := "()I" } : Jvm.MethodName)) ∈ lw_tbl := in_t2 (List.mem_of_getElem? (i := 159) rfl)
set_option maxRecDepth 20000 in
theorem t_400 : (Jvm.Cond.code ({ cls := "LineStore$Matcher", name := "howMany", desc := "()I" } : Jvm.MethodName) prog_6_method_3_code (1 : Nat) (Option.some Jvm.ClassFile.FieldType.int)) ∈ lw_tbl := in_t2 (List.mem_of_getElem? (i := 160) rfl)
set_option maxRecDepth 20000 in
theorem t_401 : (Jvm.Cond.constant "LineStore$Matcher" (73 : Nat) (64000 : Int32)) ∈ lw_tbl := in_t2 (List.mem_of_getElem? (i := 161) rfl)
set_option maxRecDepth 20000 in
theorem t_402 : (Jvm.Cond.methodLink "LineStore$Matcher" (74 : Nat) ({ cls := "LineStore$Matcher", name := "find", desc := "(I)Z" } : Jvm.MethodName)) ∈ lw_tbl := in_t2 (List.mem_of_getElem? (i := 162) rfl)
set_option maxRecDepth 20000 in
theorem t_403 : (Jvm.Cond.instanceMethod ({ cls := "LineStore$Matcher", name := "find", desc := "(I)Z" } : Jvm.MethodName)) ∈ lw_tbl := in_t2 (List.mem_of_getElem? (i := 163) rfl)
set_option maxRecDepth 20000 in
theorem t_404 : (Jvm.Cond.selects "LineStore$Matcher" ({ cls := "LineStore$Matcher", name := "find", desc := "(I)Z" } : Jvm.MethodName) ({ cls := "LineStore$Matcher", name := "find", desc := "(I)Z" } : Jvm.MethodName)) ∈ lw_tbl := in_t2 (List.mem_of_getElem? (i := 164) rfl)
set_option maxRecDepth 20000 in
theorem t_405 : (Jvm.Cond.code ({ cls := "LineStore$Matcher", name := "find", desc := "(I)Z" } : Jvm.MethodName) prog_6_method_5_code (7 : Nat) (Option.some Jvm.ClassFile.FieldType.boolean)) ∈ lw_tbl := in_t2 (List.mem_of_getElem? (i := 165) rfl)
set_option maxRecDepth 20000 in
theorem t_406 : (Jvm.Cond.methodLink "LineStore$Matcher" (80 : Nat) ({ cls := "LineStore$Matcher", name := "fillRows", desc := "(IZ)V" } : Jvm.MethodName)) ∈ lw_tbl := in_t2 (List.mem_of_getElem? (i := 166) rfl)
set_option maxRecDepth 20000 in
theorem t_407 : (Jvm.Cond.privateMethod ({ cls := "LineStore$Matcher", name := "fillRows", desc := "(IZ)V" } : Jvm.MethodName)) ∈ lw_tbl := in_t2 (List.mem_of_getElem? (i := 167) rfl)
set_option maxRecDepth 20000 in
theorem t_408 : (Jvm.Cond.instanceMethod ({ cls := "LineStore$Matcher", name := "fillRows", desc := "(IZ)V" } : Jvm.MethodName)) ∈ lw_tbl := in_t2 (List.mem_of_getElem? (i := 168) rfl)
set_option maxRecDepth 20000 in
theorem t_409 : (Jvm.Cond.code ({ cls := "LineStore$Matcher", name := "fillRows", desc := "(IZ)V" } : Jvm.MethodName) prog_6_method_8_code (4 : Nat) (Option.none : Option Jvm.ClassFile.FieldType)) ∈ lw_tbl := in_t2 (List.mem_of_getElem? (i := 169) rfl)
set_option maxRecDepth 20000 in
theorem t_410 : (Jvm.Cond.methodLink "LineStore$Matcher" (130 : Nat) ({ cls := "LineStore$Question", name := "atomUses", desc := "(II)Z" } : Jvm.MethodName)) ∈ lw_tbl := in_t2 (List.mem_of_getElem? (i := 170) rfl)
set_option maxRecDepth 20000 in
theorem t_411 : (Jvm.Cond.instanceMethod ({ cls := "LineStore$Question", name := "atomUses", desc := "(II)Z" } : Jvm.MethodName)) ∈ lw_tbl := in_t2 (List.mem_of_getElem? (i := 171) rfl)
set_option maxRecDepth 20000 in
theorem t_412 : (Jvm.Cond.selects "LineStore$Question" ({ cls := "LineStore$Question", name := "atomUses", desc := "(II)Z" } : Jvm.MethodName) ({ cls := "LineStore$Question", name := "atomUses", desc := "(II)Z" } : Jvm.MethodName)) ∈ lw_tbl := in_t2 (List.mem_of_getElem? (i := 172) rfl)
set_option maxRecDepth 20000 in
theorem t_413 : (Jvm.Cond.code ({ cls := "LineStore$Question", name := "atomUses", desc := "(II)Z" } : Jvm.MethodName) prog_8_method_8_code (3 : Nat) (Option.some Jvm.ClassFile.FieldType.boolean)) ∈ lw_tbl := in_t2 (List.mem_of_getElem? (i := 173) rfl)
set_option maxRecDepth 20000 in
theorem t_414 : (Jvm.Cond.methodLink "LineStore$Matcher" (134 : Nat) ({ cls := "LineStore$Matcher", name := "fillRow", desc := "(II)V" } : Jvm.MethodName)) ∈ lw_tbl := in_t2 (List.mem_of_getElem? (i := 174) rfl)
set_option maxRecDepth 20000 in
theorem t_415 : (Jvm.Cond.privateMethod ({ cls := "LineStore$Matcher", name := "fillRow", desc := "(II)V" } : Jvm.MethodName)) ∈ lw_tbl := in_t2 (List.mem_of_getElem? (i := 175) rfl)
set_option maxRecDepth 20000 in
theorem t_416 : (Jvm.Cond.instanceMethod ({ cls := "LineStore$Matcher", name := "fillRow", desc := "(II)V" } : Jvm.MethodName)) ∈ lw_tbl := in_t2 (List.mem_of_getElem? (i := 176) rfl)
set_option maxRecDepth 20000 in
theorem t_417 : (Jvm.Cond.code ({ cls := "LineStore$Matcher", name := "fillRow", desc := "(II)V" } : Jvm.MethodName) prog_6_method_9_code (7 : Nat) (Option.none : Option Jvm.ClassFile.FieldType)) ∈ lw_tbl := in_t2 (List.mem_of_getElem? (i := 177) rfl)
set_option maxRecDepth 20000 in
theorem t_418 : (Jvm.Cond.methodLinkNest "LineStore$Matcher" (84 : Nat) ({ cls := "LineStore", name := "isIn", desc := "(JI)Z" } : Jvm.MethodName) "LineStore") ∈ lw_tbl := in_t2 (List.mem_of_getElem? (i := 178) rfl)
set_option maxRecDepth 20000 in
theorem t_419 : (Jvm.Cond.static ({ cls := "LineStore", name := "isIn", desc := "(JI)Z" } : Jvm.MethodName)) ∈ lw_tbl := in_t2 (List.mem_of_getElem? (i := 179) rfl)
set_option maxRecDepth 20000 in
theorem t_420 : (Jvm.Cond.code ({ cls := "LineStore", name := "isIn", desc := "(JI)Z" } : Jvm.MethodName) prog_1_method_27_code (3 : Nat) (Option.some Jvm.ClassFile.FieldType.boolean)) ∈ lw_tbl := in_t2 (List.mem_of_getElem? (i := 180) rfl)
set_option maxRecDepth 20000 in
theorem t_421 : (Jvm.Cond.methodLink "LineStore$Matcher" (88 : Nat) ({ cls := "LineStore$Matcher", name := "answersWith", desc := "(I)J" } : Jvm.MethodName)) ∈ lw_tbl := in_t2 (List.mem_of_getElem? (i := 181) rfl)
set_option maxRecDepth 20000 in
theorem t_422 : (Jvm.Cond.privateMethod ({ cls := "LineStore$Matcher", name := "answersWith", desc := "(I)J" } : Jvm.MethodName)) ∈ lw_tbl := in_t2 (List.mem_of_getElem? (i := 182) rfl)
set_option maxRecDepth 20000 in
theorem t_423 : (Jvm.Cond.instanceMethod ({ cls := "LineStore$Matcher", name := "answersWith", desc := "(I)J" } : Jvm.MethodName)) ∈ lw_tbl := in_t2 (List.mem_of_getElem? (i := 183) rfl)
set_option maxRecDepth 20000 in
theorem t_424 : (Jvm.Cond.code ({ cls := "LineStore$Matcher", name := "answersWith", desc := "(I)J" } : Jvm.MethodName) prog_6_method_10_code (7 : Nat) (Option.some Jvm.ClassFile.FieldType.long)) ∈ lw_tbl := in_t2 (List.mem_of_getElem? (i := 184) rfl)
set_option maxRecDepth 20000 in
theorem t_425 : (Jvm.Cond.constantLong "LineStore$Matcher" (138 : Nat) (-1 : Int64)) ∈ lw_tbl := in_t2 (List.mem_of_getElem? (i := 185) rfl)
set_option maxRecDepth 20000 in
theorem t_426 : (Jvm.Cond.methodLink "LineStore$Matcher" (91 : Nat) ({ cls := "java/lang/Long", name := "bitCount", desc := "(J)I" } : Jvm.MethodName)) ∈ lw_tbl := in_t2 (List.mem_of_getElem? (i := 186) rfl)
set_option maxRecDepth 20000 in
theorem t_427 : (Jvm.Cond.static ({ cls := "java/lang/Long", name := "bitCount", desc := "(J)I" } : Jvm.MethodName)) ∈ lw_tbl := in_t2 (List.mem_of_getElem? (i := 187) rfl)
set_option maxRecDepth 20000 in
theorem t_428 : (Jvm.Cond.code ({ cls := "java/lang/Long", name := "bitCount", desc := "(J)I" } : Jvm.MethodName) prog_20_method_50_code (2 : Nat) (Option.some Jvm.ClassFile.FieldType.int)) ∈ lw_tbl := in_t2 (List.mem_of_getElem? (i := 188) rfl)
set_option maxRecDepth 20000 in
theorem t_429 : (Jvm.Cond.constantLong "java/lang/Long" (314 : Nat) (6148914691236517205 : Int64)) ∈ lw_tbl := in_t2 (List.mem_of_getElem? (i := 189) rfl)
set_option maxRecDepth 20000 in
theorem t_430 : (Jvm.Cond.constantLong "java/lang/Long" (316 : Nat) (3689348814741910323 : Int64)) ∈ lw_tbl := in_t2 (List.mem_of_getElem? (i := 190) rfl)
set_option maxRecDepth 20000 in
theorem t_431 : (Jvm.Cond.constantLong "java/lang/Long" (318 : Nat) (1085102592571150095 : Int64)) ∈ lw_tbl := in_t2 (List.mem_of_getElem? (i := 191) rfl)
set_option maxRecDepth 20000 in
theorem t_432 : (Jvm.Cond.methodLink "LineStore$Matcher" (97 : Nat) ({ cls := "LineStore$Matcher", name := "member", desc := "(JI)I" } : Jvm.MethodName)) ∈ lw_tbl := in_t2 (List.mem_of_getElem? (i := 192) rfl)
set_option maxRecDepth 20000 in
theorem t_433 : (Jvm.Cond.static ({ cls := "LineStore$Matcher", name := "member", desc := "(JI)I" } : Jvm.MethodName)) ∈ lw_tbl := in_t2 (List.mem_of_getElem? (i := 193) rfl)
set_option maxRecDepth 20000 in
theorem t_434 : (Jvm.Cond.code ({ cls := "LineStore$Matcher", name := "member", desc := "(JI)I" } : Jvm.MethodName) prog_6_method_11_code (5 : Nat) (Option.some Jvm.ClassFile.FieldType.int)) ∈ lw_tbl := in_t2 (List.mem_of_getElem? (i := 194) rfl)
set_option maxRecDepth 20000 in
theorem t_435 : (Jvm.Cond.methodLink "LineStoreLaw" (139 : Nat) ({ cls := "LineStore", name := "answer", desc := "(III)I" } : Jvm.MethodName)) ∈ lw_tbl := in_t2 (List.mem_of_getElem? (i := 195) rfl)
set_option maxRecDepth 20000 in
theorem t_436 : (Jvm.Cond.instanceMethod ({ cls := "LineStore", name := "answer", desc := "(III)I" } : Jvm.MethodName)) ∈ lw_tbl := in_t2 (List.mem_of_getElem? (i := 196) rfl)
set_option maxRecDepth 20000 in
theorem t_437 : (Jvm.Cond.selects "LineStore" ({ cls := "LineStore", name := "answer", desc := "(III)I" } : Jvm.MethodName) ({ cls := "LineStore", name := "answer", desc := "(III)I" } : Jvm.MethodName)) ∈ lw_tbl := in_t2 (List.mem_of_getElem? (i := 197) rfl)
set_option maxRecDepth 20000 in
theorem t_438 : (Jvm.Cond.code ({ cls := "LineStore", name := "answer", desc := "(III)I" } : Jvm.MethodName) prog_1_method_18_code (4 : Nat) (Option.some Jvm.ClassFile.FieldType.int)) ∈ lw_tbl := in_t2 (List.mem_of_getElem? (i := 198) rfl)
set_option maxRecDepth 20000 in
theorem t_439 : (Jvm.Cond.methodLink "LineStore" (227 : Nat) ({ cls := "LineStore$Question", name := "uses", desc := "(I)Z" } : Jvm.MethodName)) ∈ lw_tbl := in_t2 (List.mem_of_getElem? (i := 199) rfl)
set_option maxRecDepth 20000 in
theorem t_440 : (Jvm.Cond.methodLink "LineStore" (230 : Nat) ({ cls := "LineStore$Matcher", name := "find", desc := "(I)Z" } : Jvm.MethodName)) ∈ lw_tbl := in_t2 (List.mem_of_getElem? (i := 200) rfl)
set_option maxRecDepth 20000 in
theorem t_441 : (Jvm.Cond.methodLink "LineStore" (233 : Nat) ({ cls := "LineStore$Matcher", name := "found", desc := "(I)I" } : Jvm.MethodName)) ∈ lw_tbl := in_t2 (List.mem_of_getElem? (i := 201) rfl)
set_option maxRecDepth 20000 in
theorem t_442 : (Jvm.Cond.instanceMethod ({ cls := "LineStore$Matcher", name := "found", desc := "(I)I" } : Jvm.MethodName)) ∈ lw_tbl := in_t2 (List.mem_of_getElem? (i := 202) rfl)
set_option maxRecDepth 20000 in
theorem t_443 : (Jvm.Cond.selects "LineStore$Matcher" ({ cls := "LineStore$Matcher", name := "found", desc := "(I)I" } : Jvm.MethodName) ({ cls := "LineStore$Matcher", name := "found", desc := "(I)I" } : Jvm.MethodName)) ∈ lw_tbl := in_t2 (List.mem_of_getElem? (i := 203) rfl)
set_option maxRecDepth 20000 in
theorem t_444 : (Jvm.Cond.code ({ cls := "LineStore$Matcher", name := "found", desc := "(I)I" } : Jvm.MethodName) prog_6_method_4_code (2 : Nat) (Option.some Jvm.ClassFile.FieldType.int)) ∈ lw_tbl := in_t2 (List.mem_of_getElem? (i := 204) rfl)
set_option maxRecDepth 20000 in
theorem t_445 : (Jvm.Cond.methodLink "LineStoreLaw" (150 : Nat) ({ cls := "LineStore", name := "count", desc := "(I)I" } : Jvm.MethodName)) ∈ lw_tbl := in_t2 (List.mem_of_getElem? (i := 205) rfl)
set_option maxRecDepth 20000 in
theorem t_446 : (Jvm.Cond.instanceMethod ({ cls := "LineStore", name := "count", desc := "(I)I" } : Jvm.MethodName)) ∈ lw_tbl := in_t2 (List.mem_of_getElem? (i := 206) rfl)
set_option maxRecDepth 20000 in
theorem t_447 : (Jvm.Cond.selects "LineStore" ({ cls := "LineStore", name := "count", desc := "(I)I" } : Jvm.MethodName) ({ cls := "LineStore", name := "count", desc := "(I)I" } : Jvm.MethodName)) ∈ lw_tbl := in_t2 (List.mem_of_getElem? (i := 207) rfl)
set_option maxRecDepth 20000 in
theorem t_448 : (Jvm.Cond.code ({ cls := "LineStore", name := "count", desc := "(I)I" } : Jvm.MethodName) prog_1_method_21_code (2 : Nat) (Option.some Jvm.ClassFile.FieldType.int)) ∈ lw_tbl := in_t2 (List.mem_of_getElem? (i := 208) rfl)
set_option maxRecDepth 20000 in
theorem t_449 : (Jvm.Cond.methodLink "LineStore" (130 : Nat) ({ cls := "LineStore$Lines", name := "size", desc := "()I" } : Jvm.MethodName)) ∈ lw_tbl := in_t2 (List.mem_of_getElem? (i := 209) rfl)
set_option maxRecDepth 20000 in
theorem t_450 : (Jvm.Cond.methodLink "LineStore" (123 : Nat) ({ cls := "LineStore$Ends", name := "size", desc := "()I" } : Jvm.MethodName)) ∈ lw_tbl := in_t2 (List.mem_of_getElem? (i := 210) rfl)
set_option maxRecDepth 20000 in
theorem t_451 : (Jvm.Cond.instanceMethod ({ cls := "LineStore$Ends", name := "size", desc := "()I" } : Jvm.MethodName)) ∈ lw_tbl := in_t2 (List.mem_of_getElem? (i := 211) rfl)
set_option maxRecDepth 20000 in
theorem t_452 : (Jvm.Cond.selects "LineStore$Ends" ({ cls := "LineStore$Ends", name := "size", desc := "()I" } : Jvm.MethodName) ({ cls := "LineStore$Ends", name := "size", desc := "()I" } : Jvm.MethodName)) ∈ lw_tbl := in_t2 (List.mem_of_getElem? (i := 212) rfl)
set_option maxRecDepth 20000 in
theorem t_453 : (Jvm.Cond.code ({ cls := "LineStore$Ends", name := "size", desc := "()I" } : Jvm.MethodName) prog_2_method_5_code (1 : Nat) (Option.some Jvm.ClassFile.FieldType.int)) ∈ lw_tbl := in_t2 (List.mem_of_getElem? (i := 213) rfl)
set_option maxRecDepth 20000 in
theorem t_454 : (Jvm.Cond.methodLink "LineStore" (243 : Nat) ({ cls := "LineStore$Ones", name := "joins", desc := "()I" } : Jvm.MethodName)) ∈ lw_tbl := in_t2 (List.mem_of_getElem? (i := 214) rfl)
set_option maxRecDepth 20000 in
theorem t_455 : (Jvm.Cond.instanceMethod ({ cls := "LineStore$Ones", name := "joins", desc := "()I" } : Jvm.MethodName)) ∈ lw_tbl := in_t2 (List.mem_of_getElem? (i := 215) rfl)
set_option maxRecDepth 20000 in
theorem t_456 : (Jvm.Cond.selects "LineStore$Ones" ({ cls := "LineStore$Ones", name := "joins", desc := "()I" } : Jvm.MethodName) ({ cls := "LineStore$Ones", name := "joins", desc := "()I" } : Jvm.MethodName)) ∈ lw_tbl := in_t2 (List.mem_of_getElem? (i := 216) rfl)
set_option maxRecDepth 20000 in
theorem t_457 : (Jvm.Cond.code ({ cls := "LineStore$Ones", name := "joins", desc := "()I" } : Jvm.MethodName) prog_7_method_3_code (1 : Nat) (Option.some Jvm.ClassFile.FieldType.int)) ∈ lw_tbl := in_t2 (List.mem_of_getElem? (i := 217) rfl)
set_option maxRecDepth 20000 in
theorem t_458 : (Jvm.Cond.methodLink "LineStore" (246 : Nat) ({ cls := "LineStore$Question", name := "variables", desc := "()I" } : Jvm.MethodName)) ∈ lw_tbl := in_t2 (List.mem_of_getElem? (i := 218) rfl)
set_option maxRecDepth 20000 in
theorem t_459 : (Jvm.Cond.instanceMethod ({ cls := "LineStore$Question", name := "variables", desc := "()I" } : Jvm.MethodName)) ∈ lw_tbl := in_t2 (List.mem_of_getElem? (i := 219) rfl)
set_option maxRecDepth 20000 in
theorem t_460 : (Jvm.Cond.selects "LineStore$Question" ({ cls := "LineStore$Question", name := "variables", desc := "()I" } : Jvm.MethodName) ({ cls := "LineStore$Question", name := "variables", desc := "()I" } : Jvm.MethodName)) ∈ lw_tbl := in_t2 (List.mem_of_getElem? (i := 220) rfl)
set_option maxRecDepth 20000 in
theorem t_461 : (Jvm.Cond.code ({ cls := "LineStore$Question", name := "variables", desc := "()I" } : Jvm.MethodName) prog_8_method_6_code (1 : Nat) (Option.some Jvm.ClassFile.FieldType.int)) ∈ lw_tbl := in_t2 (List.mem_of_getElem? (i := 221) rfl)
set_option maxRecDepth 20000 in
theorem t_462 : (Jvm.Cond.methodLink "LineStore$Question" (38 : Nat) ({ cls := "java/lang/Integer", name := "bitCount", desc := "(I)I" } : Jvm.MethodName)) ∈ lw_tbl := in_t2 (List.mem_of_getElem? (i := 222) rfl)
set_option maxRecDepth 20000 in
theorem t_463 : (Jvm.Cond.static ({ cls := "java/lang/Integer", name := "bitCount", desc := "(I)I" } : Jvm.MethodName)) ∈ lw_tbl := in_t2 (List.mem_of_getElem? (i := 223) rfl)
set_option maxRecDepth 20000 in
theorem t_464 : (Jvm.Cond.code ({ cls := "java/lang/Integer", name := "bitCount", desc := "(I)I" } : Jvm.MethodName) prog_18_method_49_code (1 : Nat) (Option.some Jvm.ClassFile.FieldType.int)) ∈ lw_tbl := in_t2 (List.mem_of_getElem? (i := 224) rfl)
set_option maxRecDepth 20000 in
theorem t_465 : (Jvm.Cond.constant "java/lang/Integer" (265 : Nat) (1431655765 : Int32)) ∈ lw_tbl := in_t2 (List.mem_of_getElem? (i := 225) rfl)
set_option maxRecDepth 20000 in
theorem t_466 : (Jvm.Cond.constant "java/lang/Integer" (266 : Nat) (858993459 : Int32)) ∈ lw_tbl := in_t2 (List.mem_of_getElem? (i := 226) rfl)
set_option maxRecDepth 20000 in
theorem t_467 : (Jvm.Cond.constant "java/lang/Integer" (267 : Nat) (252645135 : Int32)) ∈ lw_tbl := in_t2 (List.mem_of_getElem? (i := 227) rfl)
set_option maxRecDepth 20000 in
theorem t_468 : (Jvm.Cond.methodLink "LineStoreLaw" (80 : Nat) ({ cls := "LineStoreLaw", name := "ends", desc := "(LLineStore;IIII)I" } : Jvm.MethodName)) ∈ lw_tbl := in_t2 (List.mem_of_getElem? (i := 228) rfl)
set_option maxRecDepth 20000 in
theorem t_469 : (Jvm.Cond.static ({ cls := "LineStoreLaw", name := "ends", desc := "(LLineStore;IIII)I" } : Jvm.MethodName)) ∈ lw_tbl := in_t2 (List.mem_of_getElem? (i := 229) rfl)
set_option maxRecDepth 20000 in
theorem t_470 : (Jvm.Cond.codeWith ({ cls := "LineStoreLaw", name := "ends", desc := "(LLineStore;IIII)I" } : Jvm.MethodName) method_3_code (6 : Nat) (Option.some Jvm.ClassFile.FieldType.int) [((0 : Nat), (9 : Nat), (12 : Nat), (13 : Nat)), ((0 : Nat), (9 : Nat), (16 : Nat), (15 : Nat))]) ∈ lw_tbl := in_t2 (List.mem_of_getElem? (i := 230) rfl)
set_option maxRecDepth 20000 in
theorem t_471 : (Jvm.Cond.classLink "LineStoreLaw" (13 : Nat) "java/lang/IndexOutOfBoundsException") ∈ lw_tbl := in_t2 (List.mem_of_getElem? (i := 231) rfl)
set_option maxRecDepth 20000 in
theorem t_472 : (Jvm.Cond.classLink "LineStoreLaw" (15 : Nat) "java/lang/IllegalArgumentException") ∈ lw_tbl := in_t2 (List.mem_of_getElem? (i := 232) rfl)
set_option maxRecDepth 20000 in
theorem t_473 : (Jvm.Cond.methodLink "LineStoreLaw" (7 : Nat) ({ cls := "LineStore", name := "ends", desc := "(IIII)V" } : Jvm.MethodName)) ∈ lw_tbl := in_t2 (List.mem_of_getElem? (i := 233) rfl)
set_option maxRecDepth 20000 in
theorem t_474 : (Jvm.Cond.instanceMethod ({ cls := "LineStore", name := "ends", desc := "(IIII)V" } : Jvm.MethodName)) ∈ lw_tbl := in_t2 (List.mem_of_getElem? (i := 234) rfl)
set_option maxRecDepth 20000 in
theorem t_475 : (Jvm.Cond.selects "LineStore" ({ cls := "LineStore", name := "ends", desc := "(IIII)V" } : Jvm.MethodName) ({ cls := "LineStore", name := "ends", desc := "(IIII)V" } : Jvm.MethodName)) ∈ lw_tbl := in_t2 (List.mem_of_getElem? (i := 235) rfl)
set_option maxRecDepth 20000 in
theorem t_476 : (Jvm.Cond.code ({ cls := "LineStore", name := "ends", desc := "(IIII)V" } : Jvm.MethodName) prog_1_method_4_code (5 : Nat) (Option.none : Option Jvm.ClassFile.FieldType)) ∈ lw_tbl := in_t2 (List.mem_of_getElem? (i := 236) rfl)
set_option maxRecDepth 20000 in
theorem t_477 : (Jvm.Cond.methodLink "LineStore" (87 : Nat) ({ cls := "LineStore", name := "checkKind", desc := "(I)V" } : Jvm.MethodName)) ∈ lw_tbl := in_t2 (List.mem_of_getElem? (i := 237) rfl)
set_option maxRecDepth 20000 in
theorem t_478 : (Jvm.Cond.static ({ cls := "LineStore", name := "checkKind", desc := "(I)V" } : Jvm.MethodName)) ∈ lw_tbl := in_t2 (List.mem_of_getElem? (i := 238) rfl)
set_option maxRecDepth 20000 in
theorem t_479 : (Jvm.Cond.code ({ cls := "LineStore", name := "checkKind", desc := "(I)V" } : Jvm.MethodName) prog_1_method_25_code (1 : Nat) (Option.none : Option Jvm.ClassFile.FieldType)) ∈ lw_tbl := in_t2 (List.mem_of_getElem? (i := 239) rfl)
set_option maxRecDepth 20000 in
theorem t_480 : (Jvm.Cond.classLink "LineStore" (260 : Nat) "java/lang/IndexOutOfBoundsException") ∈ lw_tbl := in_t3 (List.mem_of_getElem? (i := 0) rfl)
set_option maxRecDepth 20000 in
theorem t_481 : (Jvm.Cond.instantiable "java/lang/IndexOutOfBoundsException" (6 : Nat)) ∈ lw_tbl := in_t3 (List.mem_of_getElem? (i := 1) rfl)
set_option maxRecDepth 20000 in
theorem t_482 : (Jvm.Cond.castable "java/lang/IndexOutOfBoundsException" "java/lang/IndexOutOfBoundsException") ∈ lw_tbl := in_t3 (List.mem_of_getElem? (i := 2) rfl)
set_option maxRecDepth 20000 in
theorem t_483 : (Jvm.Cond.declares ({ cls := "java/lang/RuntimeException", name := "<init>", desc := "()V" } : Jvm.MethodName)) ∈ lw_tbl := in_t3 (List.mem_of_getElem? (i := 3) rfl)
set_option maxRecDepth 20000 in
theorem t_484 : (Jvm.Cond.declares ({ cls := "java/lang/RuntimeException", name := "<init>", desc := "(Ljava/lang/String;)V" } : Jvm.MethodName)) ∈ lw_tbl := in_t3 (List.mem_of_getElem? (i := 4) rfl)
set_option maxRecDepth 20000 in
theorem t_485 : (Jvm.Cond.declares ({ cls := "java/lang/Exception", name := "<init>", desc := "()V" } : Jvm.MethodName)) ∈ lw_tbl := in_t3 (List.mem_of_getElem? (i := 5) rfl)
set_option maxRecDepth 20000 in
theorem t_486 : (Jvm.Cond.declares ({ cls := "java/lang/Exception", name := "<init>", desc := "(Ljava/lang/String;)V" } : Jvm.MethodName)) ∈ lw_tbl := in_t3 (List.mem_of_getElem? (i := 6) rfl)
set_option maxRecDepth 20000 in
theorem t_487 : (Jvm.Cond.declares ({ cls := "java/lang/Throwable", name := "<init>", desc := "()V" } : Jvm.MethodName)) ∈ lw_tbl := in_t3 (List.mem_of_getElem? (i := 7) rfl)
set_option maxRecDepth 20000 in
theorem t_488 : (Jvm.Cond.declares ({ cls := "java/lang/Throwable", name := "<init>", desc := "(Ljava/lang/String;)V" } : Jvm.MethodName)) ∈ lw_tbl := in_t3 (List.mem_of_getElem? (i := 8) rfl)
set_option maxRecDepth 20000 in
theorem t_489 : (Jvm.Cond.selects "java/lang/IndexOutOfBoundsException" ({ cls := "java/lang/Throwable", name := "fillInStackTrace", desc := "(I)Ljava/lang/Throwable;" } : Jvm.MethodName) ({ cls := "java/lang/Throwable", name := "fillInStackTrace", desc := "(I)Ljava/lang/Throwable;" } : Jvm.MethodName)) ∈ lw_tbl := in_t3 (List.mem_of_getElem? (i := 9) rfl)
set_option maxRecDepth 20000 in
theorem t_490 : (Jvm.Cond.selects "java/lang/IndexOutOfBoundsException" ({ cls := "java/lang/Throwable", name := "fillInStackTrace", desc := "()Ljava/lang/Throwable;" } : Jvm.MethodName) ({ cls := "java/lang/Throwable", name := "fillInStackTrace", desc := "()Ljava/lang/Throwable;" } : Jvm.MethodName)) ∈ lw_tbl := in_t3 (List.mem_of_getElem? (i := 10) rfl)
set_option maxRecDepth 20000 in
theorem t_491 : (Jvm.Cond.lays "java/lang/IndexOutOfBoundsException" "java/lang/Throwable" "cause" "Ljava/lang/Throwable;") ∈ lw_tbl := in_t3 (List.mem_of_getElem? (i := 11) rfl)
set_option maxRecDepth 20000 in
theorem t_492 : (Jvm.Cond.lays "java/lang/Throwable" "java/lang/Throwable" "cause" "Ljava/lang/Throwable;") ∈ lw_tbl := in_t3 (List.mem_of_getElem? (i := 12) rfl)
set_option maxRecDepth 20000 in
theorem t_493 : (Jvm.Cond.lays "java/lang/IndexOutOfBoundsException" "java/lang/Throwable" "stackTrace" "[Ljava/lang/StackTraceElement;") ∈ lw_tbl := in_t3 (List.mem_of_getElem? (i := 13) rfl)
set_option maxRecDepth 20000 in
theorem t_494 : (Jvm.Cond.lays "java/lang/Throwable" "java/lang/Throwable" "stackTrace" "[Ljava/lang/StackTraceElement;") ∈ lw_tbl := in_t3 (List.mem_of_getElem? (i := 14) rfl)
set_option maxRecDepth 20000 in
theorem t_495 : (Jvm.Cond.lays "java/lang/IndexOutOfBoundsException" "java/lang/Throwable" "suppressedExceptions" "Ljava/util/List;") ∈ lw_tbl := in_t3 (List.mem_of_getElem? (i := 15) rfl)
set_option maxRecDepth 20000 in
theorem t_496 : (Jvm.Cond.lays "java/lang/Throwable" "java/lang/Throwable" "suppressedExceptions" "Ljava/util/List;") ∈ lw_tbl := in_t3 (List.mem_of_getElem? (i := 16) rfl)
set_option maxRecDepth 20000 in
theorem t_497 : (Jvm.Cond.lays "java/lang/IndexOutOfBoundsException" "java/lang/Throwable" "detailMessage" "Ljava/lang/String;") ∈ lw_tbl := in_t3 (List.mem_of_getElem? (i := 17) rfl)
set_option maxRecDepth 20000 in
theorem t_498 : (Jvm.Cond.lays "java/lang/Throwable" "java/lang/Throwable" "detailMessage" "Ljava/lang/String;") ∈ lw_tbl := in_t3 (List.mem_of_getElem? (i := 18) rfl)
set_option maxRecDepth 20000 in
theorem t_499 : (Jvm.Cond.lays "java/lang/IndexOutOfBoundsException" "java/lang/Throwable" "backtrace" "Ljava/lang/Object;") ∈ lw_tbl := in_t3 (List.mem_of_getElem? (i := 19) rfl)
set_option maxRecDepth 20000 in
theorem t_500 : (Jvm.Cond.lays "java/lang/Throwable" "java/lang/Throwable" "backtrace" "Ljava/lang/Object;") ∈ lw_tbl := in_t3 (List.mem_of_getElem? (i := 20) rfl)
set_option maxRecDepth 20000 in
theorem t_501 : (Jvm.Cond.fieldLink "java/lang/Throwable" (198 : Nat) "java/lang/Throwable" "backtrace" "Ljava/lang/Object;") ∈ lw_tbl := in_t3 (List.mem_of_getElem? (i := 21) rfl)
set_option maxRecDepth 20000 in
theorem t_502 : (Jvm.Cond.superclass "java/lang/Throwable" "java/lang/Object") ∈ lw_tbl := in_t3 (List.mem_of_getElem? (i := 22) rfl)
set_option maxRecDepth 20000 in
theorem t_503 : (Jvm.Cond.instanceMethod ({ cls := "java/lang/Throwable", name := "<init>", desc := "()V" } : Jvm.MethodName)) ∈ lw_tbl := in_t3 (List.mem_of_getElem? (i := 23) rfl)
set_option maxRecDepth 20000 in
theorem t_504 : (Jvm.Cond.code ({ cls := "java/lang/Throwable", name := "<init>", desc := "()V" } : Jvm.MethodName) prog_27_method_1_code (1 : Nat) (Option.none : Option Jvm.ClassFile.FieldType)) ∈ lw_tbl := in_t3 (List.mem_of_getElem? (i := 24) rfl)
set_option maxRecDepth 20000 in
theorem t_505 : (Jvm.Cond.methodLink "java/lang/Throwable" (1 : Nat) ({ cls := "java/lang/Object", name := "<init>", desc := "()V" } : Jvm.MethodName)) ∈ lw_tbl := in_t3 (List.mem_of_getElem? (i := 25) rfl)
set_option maxRecDepth 20000 in
theorem t_506 : (Jvm.Cond.fieldLink "java/lang/Throwable" (13 : Nat) "java/lang/Throwable" "UNASSIGNED_STACK" "[Ljava/lang/StackTraceElement;") ∈ lw_tbl := in_t3 (List.mem_of_getElem? (i := 26) rfl)
set_option maxRecDepth 20000 in
theorem t_507 : (Jvm.Cond.laysStatic "java/lang/Throwable" "UNASSIGNED_STACK" "[Ljava/lang/StackTraceElement;") ∈ lw_tbl := in_t3 (List.mem_of_getElem? (i := 27) rfl)
set_option maxRecDepth 20000 in
theorem t_508 : (Jvm.Cond.fieldLink "java/lang/Throwable" (20 : Nat) "java/lang/Throwable" "SUPPRESSED_SENTINEL" "Ljava/util/List;") ∈ lw_tbl := in_t3 (List.mem_of_getElem? (i := 28) rfl)
set_option maxRecDepth 20000 in
theorem t_509 : (Jvm.Cond.laysStatic "java/lang/Throwable" "SUPPRESSED_SENTINEL" "Ljava/util/List;") ∈ lw_tbl := in_t3 (List.mem_of_getElem? (i := 29) rfl)
set_option maxRecDepth 20000 in
theorem t_510 : (Jvm.Cond.methodLink "java/lang/Throwable" (27 : Nat) ({ cls := "java/lang/Throwable", name := "fillInStackTrace", desc := "()Ljava/lang/Throwable;" } : Jvm.MethodName)) ∈ lw_tbl := in_t3 (List.mem_of_getElem? (i := 30) rfl)
set_option maxRecDepth 20000 in
theorem t_511 : (Jvm.Cond.instanceMethod ({ cls := "java/lang/Throwable", name := "fillInStackTrace", desc := "()Ljava/lang/Throwable;" } : Jvm.MethodName)) ∈ lw_tbl := in_t3 (List.mem_of_getElem? (i := 31) rfl)
set_option maxRecDepth 20000 in
theorem t_512 : (Jvm.Cond.sameMethod "java/lang/Throwable" "java/lang/Throwable" "fillInStackTrace" "()Ljava/lang/Throwable;") ∈ lw_tbl := in_t3 (List.mem_of_getElem? (i := 32) rfl)
set_option maxRecDepth 20000 in
theorem t_513 : (Jvm.Cond.selects "java/lang/IllegalArgumentException" ({ cls := "java/lang/Throwable", name := "fillInStackTrace", desc := "()Ljava/lang/Throwable;" } : Jvm.MethodName) ({ cls := "java/lang/Throwable", name := "fillInStackTrace", desc := "()Ljava/lang/Throwable;" } : Jvm.MethodName)) ∈ lw_tbl := in_t3 (List.mem_of_getElem? (i := 33) rfl)
set_option maxRecDepth 20000 in
theorem t_514 : (Jvm.Cond.selects "java/lang/UnsupportedOperationException" ({ cls := "java/lang/Throwable", name := "fillInStackTrace", desc := "()Ljava/lang/Throwable;" } : Jvm.MethodName) ({ cls := "java/lang/Throwable", name := "fillInStackTrace", desc := "()Ljava/lang/Throwable;" } : Jvm.MethodName)) ∈ lw_tbl := in_t3 (List.mem_of_getElem? (i := 34) rfl)
set_option maxRecDepth 20000 in
theorem t_515 : (Jvm.Cond.selects "java/util/NoSuchElementException" ({ cls := "java/lang/Throwable", name := "fillInStackTrace", desc := "()Ljava/lang/Throwable;" } : Jvm.MethodName) ({ cls := "java/lang/Throwable", name := "fillInStackTrace", desc := "()Ljava/lang/Throwable;" } : Jvm.MethodName)) ∈ lw_tbl := in_t3 (List.mem_of_getElem? (i := 35) rfl)
set_option maxRecDepth 20000 in
theorem t_516 : (Jvm.Cond.codeSync ({ cls := "java/lang/Throwable", name := "fillInStackTrace", desc := "()Ljava/lang/Throwable;" } : Jvm.MethodName) prog_27_method_18_code (1 : Nat) (Option.some (Jvm.ClassFile.FieldType.object "java/lang/Throwable"))) ∈ lw_tbl := in_t3 (List.mem_of_getElem? (i := 36) rfl)
set_option maxRecDepth 20000 in
theorem t_517 : (Jvm.Cond.methodLink "java/lang/Throwable" (202 : Nat) ({ cls := "java/lang/Throwable", name := "fillInStackTrace", desc := "(I)Ljava/lang/Throwable;" } : Jvm.MethodName)) ∈ lw_tbl := in_t3 (List.mem_of_getElem? (i := 37) rfl)
set_option maxRecDepth 20000 in
theorem t_518 : (Jvm.Cond.privateMethod ({ cls := "java/lang/Throwable", name := "fillInStackTrace", desc := "(I)Ljava/lang/Throwable;" } : Jvm.MethodName)) ∈ lw_tbl := in_t3 (List.mem_of_getElem? (i := 38) rfl)
set_option maxRecDepth 20000 in
theorem t_519 : (Jvm.Cond.instanceMethod ({ cls := "java/lang/Throwable", name := "fillInStackTrace", desc := "(I)Ljava/lang/Throwable;" } : Jvm.MethodName)) ∈ lw_tbl := in_t3 (List.mem_of_getElem? (i := 39) rfl)
set_option maxRecDepth 20000 in
theorem t_520 : (Jvm.Cond.instantiable "java/lang/Throwable" (6 : Nat)) ∈ lw_tbl := in_t3 (List.mem_of_getElem? (i := 40) rfl)
set_option maxRecDepth 20000 in
theorem t_521 : (Jvm.Cond.native ({ cls := "java/lang/Throwable", name := "fillInStackTrace", desc := "(I)Ljava/lang/Throwable;" } : Jvm.MethodName)) ∈ lw_tbl := in_t3 (List.mem_of_getElem? (i := 41) rfl)
set_option maxRecDepth 20000 in
theorem t_522 : (Jvm.Cond.stringRef "LineStore" (267 : Nat) "there is no such kind") ∈ lw_tbl := in_t3 (List.mem_of_getElem? (i := 42) rfl)
set_option maxRecDepth 20000 in
theorem t_523 : (Jvm.Cond.methodLink "LineStore" (264 : Nat) ({ cls := "java/lang/IndexOutOfBoundsException", name := "<init>", desc := "(Ljava/lang/String;)V" } : Jvm.MethodName)) ∈ lw_tbl := in_t3 (List.mem_of_getElem? (i := 43) rfl)
set_option maxRecDepth 20000 in
theorem t_524 : (Jvm.Cond.instanceMethod ({ cls := "java/lang/IndexOutOfBoundsException", name := "<init>", desc := "(Ljava/lang/String;)V" } : Jvm.MethodName)) ∈ lw_tbl := in_t3 (List.mem_of_getElem? (i := 44) rfl)
set_option maxRecDepth 20000 in
theorem t_525 : (Jvm.Cond.code ({ cls := "java/lang/IndexOutOfBoundsException", name := "<init>", desc := "(Ljava/lang/String;)V" } : Jvm.MethodName) prog_17_method_2_code (2 : Nat) (Option.none : Option Jvm.ClassFile.FieldType)) ∈ lw_tbl := in_t3 (List.mem_of_getElem? (i := 45) rfl)
set_option maxRecDepth 20000 in
theorem t_526 : (Jvm.Cond.methodLink "java/lang/IndexOutOfBoundsException" (7 : Nat) ({ cls := "java/lang/RuntimeException", name := "<init>", desc := "(Ljava/lang/String;)V" } : Jvm.MethodName)) ∈ lw_tbl := in_t3 (List.mem_of_getElem? (i := 46) rfl)
set_option maxRecDepth 20000 in
theorem t_527 : (Jvm.Cond.instanceMethod ({ cls := "java/lang/RuntimeException", name := "<init>", desc := "(Ljava/lang/String;)V" } : Jvm.MethodName)) ∈ lw_tbl := in_t3 (List.mem_of_getElem? (i := 47) rfl)
set_option maxRecDepth 20000 in
theorem t_528 : (Jvm.Cond.code ({ cls := "java/lang/RuntimeException", name := "<init>", desc := "(Ljava/lang/String;)V" } : Jvm.MethodName) prog_22_method_2_code (2 : Nat) (Option.none : Option Jvm.ClassFile.FieldType)) ∈ lw_tbl := in_t3 (List.mem_of_getElem? (i := 48) rfl)
set_option maxRecDepth 20000 in
theorem t_529 : (Jvm.Cond.methodLink "java/lang/RuntimeException" (7 : Nat) ({ cls := "java/lang/Exception", name := "<init>", desc := "(Ljava/lang/String;)V" } : Jvm.MethodName)) ∈ lw_tbl := in_t3 (List.mem_of_getElem? (i := 49) rfl)
set_option maxRecDepth 20000 in
theorem t_530 : (Jvm.Cond.instanceMethod ({ cls := "java/lang/Exception", name := "<init>", desc := "(Ljava/lang/String;)V" } : Jvm.MethodName)) ∈ lw_tbl := in_t3 (List.mem_of_getElem? (i := 50) rfl)
set_option maxRecDepth 20000 in
theorem t_531 : (Jvm.Cond.code ({ cls := "java/lang/Exception", name := "<init>", desc := "(Ljava/lang/String;)V" } : Jvm.MethodName) prog_15_method_2_code (2 : Nat) (Option.none : Option Jvm.ClassFile.FieldType)) ∈ lw_tbl := in_t3 (List.mem_of_getElem? (i := 51) rfl)
set_option maxRecDepth 20000 in
theorem t_532 : (Jvm.Cond.methodLink "java/lang/Exception" (7 : Nat) ({ cls := "java/lang/Throwable", name := "<init>", desc := "(Ljava/lang/String;)V" } : Jvm.MethodName)) ∈ lw_tbl := in_t3 (List.mem_of_getElem? (i := 52) rfl)
set_option maxRecDepth 20000 in
theorem t_533 : (Jvm.Cond.instanceMethod ({ cls := "java/lang/Throwable", name := "<init>", desc := "(Ljava/lang/String;)V" } : Jvm.MethodName)) ∈ lw_tbl := in_t3 (List.mem_of_getElem? (i := 53) rfl)
set_option maxRecDepth 20000 in
theorem t_534 : (Jvm.Cond.code ({ cls := "java/lang/Throwable", name := "<init>", desc := "(Ljava/lang/String;)V" } : Jvm.MethodName) prog_27_method_2_code (2 : Nat) (Option.none : Option Jvm.ClassFile.FieldType)) ∈ lw_tbl := in_t3 (List.mem_of_getElem? (i := 54) rfl)
set_option maxRecDepth 20000 in
theorem t_535 : (Jvm.Cond.fieldLink "java/lang/Throwable" (198 : Nat) "java/lang/Throwable" "backtrace" "Ljava/lang/Object;") ∈ lw_tbl := in_t3 (List.mem_of_getElem? (i := 55) rfl)
set_option maxRecDepth 20000 in
theorem t_536 : (Jvm.Cond.fieldLink "java/lang/Throwable" (31 : Nat) "java/lang/Throwable" "detailMessage" "Ljava/lang/String;") ∈ lw_tbl := in_t3 (List.mem_of_getElem? (i := 56) rfl)
set_option maxRecDepth 20000 in
theorem t_537 : (Jvm.Cond.fieldLink "java/lang/Throwable" (7 : Nat) "java/lang/Throwable" "cause" "Ljava/lang/Throwable;") ∈ lw_tbl := in_t3 (List.mem_of_getElem? (i := 57) rfl)
set_option maxRecDepth 20000 in
theorem t_538 : (Jvm.Cond.fieldLink "java/lang/Throwable" (17 : Nat) "java/lang/Throwable" "stackTrace" "[Ljava/lang/StackTraceElement;") ∈ lw_tbl := in_t3 (List.mem_of_getElem? (i := 58) rfl)
set_option maxRecDepth 20000 in
theorem t_539 : (Jvm.Cond.fieldLink "java/lang/Throwable" (24 : Nat) "java/lang/Throwable" "suppressedExceptions" "Ljava/util/List;") ∈ lw_tbl := in_t3 (List.mem_of_getElem? (i := 59) rfl)
set_option maxRecDepth 20000 in
theorem t_540 : (Jvm.Cond.soleField "java/lang/Throwable" "backtrace") ∈ lw_tbl := in_t3 (List.mem_of_getElem? (i := 60) rfl)
set_option maxRecDepth 20000 in
theorem t_541 : (Jvm.Cond.soleField "java/lang/Throwable" "detailMessage") ∈ lw_tbl := in_t3 (List.mem_of_getElem? (i := 61) rfl)
set_option maxRecDepth 20000 in
theorem t_542 : (Jvm.Cond.soleField "java/lang/Throwable" "cause") ∈ lw_tbl := in_t3 (List.mem_of_getElem? (i := 62) rfl)
set_option maxRecDepth 20000 in
theorem t_543 : (Jvm.Cond.soleField "java/lang/Throwable" "stackTrace") ∈ lw_tbl := in_t3 (List.mem_of_getElem? (i := 63) rfl)
set_option maxRecDepth 20000 in
theorem t_544 : (Jvm.Cond.lays "java/lang/IndexOutOfBoundsException" "java/lang/Throwable" "depth" "I") ∈ lw_tbl := in_t3 (List.mem_of_getElem? (i := 64) rfl)
set_option maxRecDepth 20000 in
theorem t_545 : (Jvm.Cond.soleField "java/lang/Throwable" "depth") ∈ lw_tbl := in_t3 (List.mem_of_getElem? (i := 65) rfl)
set_option maxRecDepth 20000 in
theorem t_546 : (Jvm.Cond.soleField "java/lang/Throwable" "suppressedExceptions") ∈ lw_tbl := in_t3 (List.mem_of_getElem? (i := 66) rfl)
set_option maxRecDepth 20000 in
theorem t_547 : (Jvm.Cond.superclass "java/lang/IndexOutOfBoundsException" "java/lang/RuntimeException") ∈ lw_tbl := in_t3 (List.mem_of_getElem? (i := 67) rfl)
set_option maxRecDepth 20000 in
theorem t_548 : (Jvm.Cond.arrayClass Jvm.ClassFile.FieldType.byte) ∈ lw_tbl := in_t3 (List.mem_of_getElem? (i := 68) rfl)
set_option maxRecDepth 20000 in
theorem t_549 : (Jvm.Cond.methodLink "LineStore" (90 : Nat) ({ cls := "LineStore", name := "checkRole", desc := "(I)V" } : Jvm.MethodName)) ∈ lw_tbl := in_t3 (List.mem_of_getElem? (i := 69) rfl)
set_option maxRecDepth 20000 in
theorem t_550 : (Jvm.Cond.static ({ cls := "LineStore", name := "checkRole", desc := "(I)V" } : Jvm.MethodName)) ∈ lw_tbl := in_t3 (List.mem_of_getElem? (i := 70) rfl)
set_option maxRecDepth 20000 in
theorem t_551 : (Jvm.Cond.code ({ cls := "LineStore", name := "checkRole", desc := "(I)V" } : Jvm.MethodName) prog_1_method_24_code (1 : Nat) (Option.none : Option Jvm.ClassFile.FieldType)) ∈ lw_tbl := in_t3 (List.mem_of_getElem? (i := 71) rfl)
set_option maxRecDepth 20000 in
theorem t_552 : (Jvm.Cond.stringRef "LineStore" (265 : Nat) "there is no such role") ∈ lw_tbl := in_t3 (List.mem_of_getElem? (i := 72) rfl)
set_option maxRecDepth 20000 in
theorem t_553 : (Jvm.Cond.classLink "LineStore" (93 : Nat) "java/lang/IllegalArgumentException") ∈ lw_tbl := in_t3 (List.mem_of_getElem? (i := 73) rfl)
set_option maxRecDepth 20000 in
theorem t_554 : (Jvm.Cond.instantiable "java/lang/IllegalArgumentException" (6 : Nat)) ∈ lw_tbl := in_t3 (List.mem_of_getElem? (i := 74) rfl)
set_option maxRecDepth 20000 in
theorem t_555 : (Jvm.Cond.castable "java/lang/IllegalArgumentException" "java/lang/IllegalArgumentException") ∈ lw_tbl := in_t3 (List.mem_of_getElem? (i := 75) rfl)
set_option maxRecDepth 20000 in
theorem t_556 : (Jvm.Cond.selects "java/lang/IllegalArgumentException" ({ cls := "java/lang/Throwable", name := "fillInStackTrace", desc := "(I)Ljava/lang/Throwable;" } : Jvm.MethodName) ({ cls := "java/lang/Throwable", name := "fillInStackTrace", desc := "(I)Ljava/lang/Throwable;" } : Jvm.MethodName)) ∈ lw_tbl := in_t3 (List.mem_of_getElem? (i := 76) rfl)
set_option maxRecDepth 20000 in
theorem t_557 : (Jvm.Cond.lays "java/lang/IllegalArgumentException" "java/lang/Throwable" "cause" "Ljava/lang/Throwable;") ∈ lw_tbl := in_t3 (List.mem_of_getElem? (i := 77) rfl)
set_option maxRecDepth 20000 in
theorem t_558 : (Jvm.Cond.lays "java/lang/IllegalArgumentException" "java/lang/Throwable" "stackTrace" "[Ljava/lang/StackTraceElement;") ∈ lw_tbl := in_t3 (List.mem_of_getElem? (i := 78) rfl)
set_option maxRecDepth 20000 in
theorem t_559 : (Jvm.Cond.lays "java/lang/IllegalArgumentException" "java/lang/Throwable" "suppressedExceptions" "Ljava/util/List;") ∈ lw_tbl := in_t3 (List.mem_of_getElem? (i := 79) rfl)
set_option maxRecDepth 20000 in
theorem t_560 : (Jvm.Cond.lays "java/lang/IllegalArgumentException" "java/lang/Throwable" "detailMessage" "Ljava/lang/String;") ∈ lw_tbl := in_t3 (List.mem_of_getElem? (i := 80) rfl)
set_option maxRecDepth 20000 in
theorem t_561 : (Jvm.Cond.lays "java/lang/IllegalArgumentException" "java/lang/Throwable" "backtrace" "Ljava/lang/Object;") ∈ lw_tbl := in_t3 (List.mem_of_getElem? (i := 81) rfl)
set_option maxRecDepth 20000 in
theorem t_562 : (Jvm.Cond.stringRef "LineStore" (95 : Nat) "not 0 to least to most to 6") ∈ lw_tbl := in_t3 (List.mem_of_getElem? (i := 82) rfl)
set_option maxRecDepth 20000 in
theorem t_563 : (Jvm.Cond.methodLink "LineStore" (97 : Nat) ({ cls := "java/lang/IllegalArgumentException", name := "<init>", desc := "(Ljava/lang/String;)V" } : Jvm.MethodName)) ∈ lw_tbl := in_t3 (List.mem_of_getElem? (i := 83) rfl)
set_option maxRecDepth 20000 in
theorem t_564 : (Jvm.Cond.instanceMethod ({ cls := "java/lang/IllegalArgumentException", name := "<init>", desc := "(Ljava/lang/String;)V" } : Jvm.MethodName)) ∈ lw_tbl := in_t3 (List.mem_of_getElem? (i := 84) rfl)
set_option maxRecDepth 20000 in
theorem t_565 : (Jvm.Cond.code ({ cls := "java/lang/IllegalArgumentException", name := "<init>", desc := "(Ljava/lang/String;)V" } : Jvm.MethodName) prog_16_method_2_code (2 : Nat) (Option.none : Option Jvm.ClassFile.FieldType)) ∈ lw_tbl := in_t3 (List.mem_of_getElem? (i := 85) rfl)
set_option maxRecDepth 20000 in
theorem t_566 : (Jvm.Cond.methodLink "java/lang/IllegalArgumentException" (7 : Nat) ({ cls := "java/lang/RuntimeException", name := "<init>", desc := "(Ljava/lang/String;)V" } : Jvm.MethodName)) ∈ lw_tbl := in_t3 (List.mem_of_getElem? (i := 86) rfl)
set_option maxRecDepth 20000 in
theorem t_567 : (Jvm.Cond.lays "java/lang/IllegalArgumentException" "java/lang/Throwable" "depth" "I") ∈ lw_tbl := in_t3 (List.mem_of_getElem? (i := 87) rfl)
set_option maxRecDepth 20000 in
theorem t_568 : (Jvm.Cond.superclass "java/lang/IllegalArgumentException" "java/lang/RuntimeException") ∈ lw_tbl := in_t3 (List.mem_of_getElem? (i := 88) rfl)
set_option maxRecDepth 20000 in
theorem t_569 : (Jvm.Cond.methodLink "LineStore" (100 : Nat) ({ cls := "LineStore$Laws", name := "setEnds", desc := "(IIII)V" } : Jvm.MethodName)) ∈ lw_tbl := in_t3 (List.mem_of_getElem? (i := 89) rfl)
set_option maxRecDepth 20000 in
theorem t_570 : (Jvm.Cond.instanceMethod ({ cls := "LineStore$Laws", name := "setEnds", desc := "(IIII)V" } : Jvm.MethodName)) ∈ lw_tbl := in_t3 (List.mem_of_getElem? (i := 90) rfl)
set_option maxRecDepth 20000 in
theorem t_571 : (Jvm.Cond.selects "LineStore$Laws" ({ cls := "LineStore$Laws", name := "setEnds", desc := "(IIII)V" } : Jvm.MethodName) ({ cls := "LineStore$Laws", name := "setEnds", desc := "(IIII)V" } : Jvm.MethodName)) ∈ lw_tbl := in_t3 (List.mem_of_getElem? (i := 91) rfl)
set_option maxRecDepth 20000 in
theorem t_572 : (Jvm.Cond.code ({ cls := "LineStore$Laws", name := "setEnds", desc := "(IIII)V" } : Jvm.MethodName) prog_3_method_2_code (5 : Nat) (Option.none : Option Jvm.ClassFile.FieldType)) ∈ lw_tbl := in_t3 (List.mem_of_getElem? (i := 92) rfl)
set_option maxRecDepth 20000 in
theorem t_573 : (Jvm.Cond.methodLink "LineStoreLaw" (89 : Nat) ({ cls := "LineStoreLaw", name := "alone", desc := "(LLineStore;III)I" } : Jvm.MethodName)) ∈ lw_tbl := in_t3 (List.mem_of_getElem? (i := 93) rfl)
set_option maxRecDepth 20000 in
theorem t_574 : (Jvm.Cond.static ({ cls := "LineStoreLaw", name := "alone", desc := "(LLineStore;III)I" } : Jvm.MethodName)) ∈ lw_tbl := in_t3 (List.mem_of_getElem? (i := 94) rfl)
set_option maxRecDepth 20000 in
theorem t_575 : (Jvm.Cond.codeWith ({ cls := "LineStoreLaw", name := "alone", desc := "(LLineStore;III)I" } : Jvm.MethodName) method_4_code (5 : Nat) (Option.some Jvm.ClassFile.FieldType.int) [((0 : Nat), (7 : Nat), (10 : Nat), (13 : Nat)), ((0 : Nat), (7 : Nat), (14 : Nat), (15 : Nat))]) ∈ lw_tbl := in_t3 (List.mem_of_getElem? (i := 95) rfl)
set_option maxRecDepth 20000 in
theorem t_576 : (Jvm.Cond.methodLink "LineStoreLaw" (17 : Nat) ({ cls := "LineStore", name := "alone", desc := "(III)V" } : Jvm.MethodName)) ∈ lw_tbl := in_t3 (List.mem_of_getElem? (i := 96) rfl)
set_option maxRecDepth 20000 in
theorem t_577 : (Jvm.Cond.instanceMethod ({ cls := "LineStore", name := "alone", desc := "(III)V" } : Jvm.MethodName)) ∈ lw_tbl := in_t3 (List.mem_of_getElem? (i := 97) rfl)
set_option maxRecDepth 20000 in
theorem t_578 : (Jvm.Cond.selects "LineStore" ({ cls := "LineStore", name := "alone", desc := "(III)V" } : Jvm.MethodName) ({ cls := "LineStore", name := "alone", desc := "(III)V" } : Jvm.MethodName)) ∈ lw_tbl := in_t3 (List.mem_of_getElem? (i := 98) rfl)
set_option maxRecDepth 20000 in
theorem t_579 : (Jvm.Cond.code ({ cls := "LineStore", name := "alone", desc := "(III)V" } : Jvm.MethodName) prog_1_method_5_code (4 : Nat) (Option.none : Option Jvm.ClassFile.FieldType)) ∈ lw_tbl := in_t3 (List.mem_of_getElem? (i := 99) rfl)
set_option maxRecDepth 20000 in
theorem t_580 : (Jvm.Cond.stringRef "LineStore" (104 : Nat) "not 0 to 100") ∈ lw_tbl := in_t3 (List.mem_of_getElem? (i := 100) rfl)
set_option maxRecDepth 20000 in
theorem t_581 : (Jvm.Cond.methodLink "LineStore" (106 : Nat) ({ cls := "LineStore$Laws", name := "setAlone", desc := "(III)V" } : Jvm.MethodName)) ∈ lw_tbl := in_t3 (List.mem_of_getElem? (i := 101) rfl)
set_option maxRecDepth 20000 in
theorem t_582 : (Jvm.Cond.instanceMethod ({ cls := "LineStore$Laws", name := "setAlone", desc := "(III)V" } : Jvm.MethodName)) ∈ lw_tbl := in_t3 (List.mem_of_getElem? (i := 102) rfl)
set_option maxRecDepth 20000 in
theorem t_583 : (Jvm.Cond.selects "LineStore$Laws" ({ cls := "LineStore$Laws", name := "setAlone", desc := "(III)V" } : Jvm.MethodName) ({ cls := "LineStore$Laws", name := "setAlone", desc := "(III)V" } : Jvm.MethodName)) ∈ lw_tbl := in_t3 (List.mem_of_getElem? (i := 103) rfl)
set_option maxRecDepth 20000 in
theorem t_584 : (Jvm.Cond.code ({ cls := "LineStore$Laws", name := "setAlone", desc := "(III)V" } : Jvm.MethodName) prog_3_method_3_code (4 : Nat) (Option.none : Option Jvm.ClassFile.FieldType)) ∈ lw_tbl := in_t3 (List.mem_of_getElem? (i := 104) rfl)
set_option maxRecDepth 20000 in
theorem t_585 : (Jvm.Cond.methodLink "LineStoreLaw" (93 : Nat) ({ cls := "LineStoreLaw", name := "holds", desc := "(LLineStore;IZ[J)I" } : Jvm.MethodName)) ∈ lw_tbl := in_t3 (List.mem_of_getElem? (i := 105) rfl)
set_option maxRecDepth 20000 in
theorem t_586 : (Jvm.Cond.static ({ cls := "LineStoreLaw", name := "holds", desc := "(LLineStore;IZ[J)I" } : Jvm.MethodName)) ∈ lw_tbl := in_t3 (List.mem_of_getElem? (i := 106) rfl)
set_option maxRecDepth 20000 in
theorem t_587 : (Jvm.Cond.codeWith ({ cls := "LineStoreLaw", name := "holds", desc := "(LLineStore;IZ[J)I" } : Jvm.MethodName) method_5_code (5 : Nat) (Option.some Jvm.ClassFile.FieldType.int) [((0 : Nat), (17 : Nat), (20 : Nat), (13 : Nat))]) ∈ lw_tbl := in_t3 (List.mem_of_getElem? (i := 107) rfl)
set_option maxRecDepth 20000 in
theorem t_588 : (Jvm.Cond.methodLink "LineStoreLaw" (21 : Nat) ({ cls := "LineStore", name := "holds", desc := "(IZ)Z" } : Jvm.MethodName)) ∈ lw_tbl := in_t3 (List.mem_of_getElem? (i := 108) rfl)
set_option maxRecDepth 20000 in
theorem t_589 : (Jvm.Cond.instanceMethod ({ cls := "LineStore", name := "holds", desc := "(IZ)Z" } : Jvm.MethodName)) ∈ lw_tbl := in_t3 (List.mem_of_getElem? (i := 109) rfl)
set_option maxRecDepth 20000 in
theorem t_590 : (Jvm.Cond.selects "LineStore" ({ cls := "LineStore", name := "holds", desc := "(IZ)Z" } : Jvm.MethodName) ({ cls := "LineStore", name := "holds", desc := "(IZ)Z" } : Jvm.MethodName)) ∈ lw_tbl := in_t3 (List.mem_of_getElem? (i := 110) rfl)
set_option maxRecDepth 20000 in
theorem t_591 : (Jvm.Cond.code ({ cls := "LineStore", name := "holds", desc := "(IZ)Z" } : Jvm.MethodName) prog_1_method_6_code (3 : Nat) (Option.some Jvm.ClassFile.FieldType.boolean)) ∈ lw_tbl := in_t3 (List.mem_of_getElem? (i := 111) rfl)
set_option maxRecDepth 20000 in
theorem t_592 : (Jvm.Cond.methodLink "LineStore" (110 : Nat) ({ cls := "LineStore$Laws", name := "setHolding", desc := "(IZ)Z" } : Jvm.MethodName)) ∈ lw_tbl := in_t3 (List.mem_of_getElem? (i := 112) rfl)
set_option maxRecDepth 20000 in
theorem t_593 : (Jvm.Cond.instanceMethod ({ cls := "LineStore$Laws", name := "setHolding", desc := "(IZ)Z" } : Jvm.MethodName)) ∈ lw_tbl := in_t3 (List.mem_of_getElem? (i := 113) rfl)
set_option maxRecDepth 20000 in
theorem t_594 : (Jvm.Cond.selects "LineStore$Laws" ({ cls := "LineStore$Laws", name := "setHolding", desc := "(IZ)Z" } : Jvm.MethodName) ({ cls := "LineStore$Laws", name := "setHolding", desc := "(IZ)Z" } : Jvm.MethodName)) ∈ lw_tbl := in_t3 (List.mem_of_getElem? (i := 114) rfl)
set_option maxRecDepth 20000 in
theorem t_595 : (Jvm.Cond.code ({ cls := "LineStore$Laws", name := "setHolding", desc := "(IZ)Z" } : Jvm.MethodName) prog_3_method_4_code (4 : Nat) (Option.some Jvm.ClassFile.FieldType.boolean)) ∈ lw_tbl := in_t3 (List.mem_of_getElem? (i := 115) rfl)
set_option maxRecDepth 20000 in
theorem t_596 : (Jvm.Cond.methodLink "LineStoreLaw" (97 : Nat) ({ cls := "LineStoreLaw", name := "draft", desc := "(LLineStore;IZI[J)I" } : Jvm.MethodName)) ∈ lw_tbl := in_t3 (List.mem_of_getElem? (i := 116) rfl)
set_option maxRecDepth 20000 in
theorem t_597 : (Jvm.Cond.static ({ cls := "LineStoreLaw", name := "draft", desc := "(LLineStore;IZI[J)I" } : Jvm.MethodName)) ∈ lw_tbl := in_t3 (List.mem_of_getElem? (i := 117) rfl)
set_option maxRecDepth 20000 in
theorem t_598 : (Jvm.Cond.codeWith ({ cls := "LineStoreLaw", name := "draft", desc := "(LLineStore;IZI[J)I" } : Jvm.MethodName) method_6_code (6 : Nat) (Option.some Jvm.ClassFile.FieldType.int) [((0 : Nat), (12 : Nat), (15 : Nat), (13 : Nat))]) ∈ lw_tbl := in_t3 (List.mem_of_getElem? (i := 118) rfl)
set_option maxRecDepth 20000 in
theorem t_599 : (Jvm.Cond.methodLink "LineStoreLaw" (25 : Nat) ({ cls := "LineStore", name := "draft", desc := "(IZI)I" } : Jvm.MethodName)) ∈ lw_tbl := in_t3 (List.mem_of_getElem? (i := 119) rfl)
set_option maxRecDepth 20000 in
theorem t_600 : (Jvm.Cond.instanceMethod ({ cls := "LineStore", name := "draft", desc := "(IZI)I" } : Jvm.MethodName)) ∈ lw_tbl := in_t3 (List.mem_of_getElem? (i := 120) rfl)
set_option maxRecDepth 20000 in
theorem t_601 : (Jvm.Cond.selects "LineStore" ({ cls := "LineStore", name := "draft", desc := "(IZI)I" } : Jvm.MethodName) ({ cls := "LineStore", name := "draft", desc := "(IZI)I" } : Jvm.MethodName)) ∈ lw_tbl := in_t3 (List.mem_of_getElem? (i := 121) rfl)
set_option maxRecDepth 20000 in
theorem t_602 : (Jvm.Cond.code ({ cls := "LineStore", name := "draft", desc := "(IZI)I" } : Jvm.MethodName) prog_1_method_7_code (4 : Nat) (Option.some Jvm.ClassFile.FieldType.int)) ∈ lw_tbl := in_t3 (List.mem_of_getElem? (i := 122) rfl)
set_option maxRecDepth 20000 in
theorem t_603 : (Jvm.Cond.methodLink "LineStore" (114 : Nat) ({ cls := "LineStore", name := "checkLine", desc := "(I)V" } : Jvm.MethodName)) ∈ lw_tbl := in_t3 (List.mem_of_getElem? (i := 123) rfl)
set_option maxRecDepth 20000 in
theorem t_604 : (Jvm.Cond.privateMethod ({ cls := "LineStore", name := "checkLine", desc := "(I)V" } : Jvm.MethodName)) ∈ lw_tbl := in_t3 (List.mem_of_getElem? (i := 124) rfl)
set_option maxRecDepth 20000 in
theorem t_605 : (Jvm.Cond.instanceMethod ({ cls := "LineStore", name := "checkLine", desc := "(I)V" } : Jvm.MethodName)) ∈ lw_tbl := in_t3 (List.mem_of_getElem? (i := 125) rfl)
set_option maxRecDepth 20000 in
theorem t_606 : (Jvm.Cond.code ({ cls := "LineStore", name := "checkLine", desc := "(I)V" } : Jvm.MethodName) prog_1_method_26_code (2 : Nat) (Option.none : Option Jvm.ClassFile.FieldType)) ∈ lw_tbl := in_t3 (List.mem_of_getElem? (i := 126) rfl)
set_option maxRecDepth 20000 in
theorem t_607 : (Jvm.Cond.stringRef "LineStore" (269 : Nat) "there is no such line") ∈ lw_tbl := in_t3 (List.mem_of_getElem? (i := 127) rfl)
set_option maxRecDepth 20000 in
theorem t_608 : (Jvm.Cond.methodLink "LineStore" (117 : Nat) ({ cls := "LineStore", name := "checkThing", desc := "(I)V" } : Jvm.MethodName)) ∈ lw_tbl := in_t3 (List.mem_of_getElem? (i := 128) rfl)
set_option maxRecDepth 20000 in
theorem t_609 : (Jvm.Cond.static ({ cls := "LineStore", name := "checkThing", desc := "(I)V" } : Jvm.MethodName)) ∈ lw_tbl := in_t3 (List.mem_of_getElem? (i := 129) rfl)
set_option maxRecDepth 20000 in
theorem t_610 : (Jvm.Cond.code ({ cls := "LineStore", name := "checkThing", desc := "(I)V" } : Jvm.MethodName) prog_1_method_23_code (1 : Nat) (Option.none : Option Jvm.ClassFile.FieldType)) ∈ lw_tbl := in_t3 (List.mem_of_getElem? (i := 130) rfl)
set_option maxRecDepth 20000 in
theorem t_611 : (Jvm.Cond.stringRef "LineStore" (262 : Nat) "there is no such thing") ∈ lw_tbl := in_t3 (List.mem_of_getElem? (i := 131) rfl)
set_option maxRecDepth 20000 in
theorem t_612 : (Jvm.Cond.methodLink "LineStore" (120 : Nat) ({ cls := "LineStore$Ends", name := "add", desc := "(IZI)Z" } : Jvm.MethodName)) ∈ lw_tbl := in_t3 (List.mem_of_getElem? (i := 132) rfl)
set_option maxRecDepth 20000 in
theorem t_613 : (Jvm.Cond.instanceMethod ({ cls := "LineStore$Ends", name := "add", desc := "(IZI)Z" } : Jvm.MethodName)) ∈ lw_tbl := in_t3 (List.mem_of_getElem? (i := 133) rfl)
set_option maxRecDepth 20000 in
theorem t_614 : (Jvm.Cond.selects "LineStore$Ends" ({ cls := "LineStore$Ends", name := "add", desc := "(IZI)Z" } : Jvm.MethodName) ({ cls := "LineStore$Ends", name := "add", desc := "(IZI)Z" } : Jvm.MethodName)) ∈ lw_tbl := in_t3 (List.mem_of_getElem? (i := 134) rfl)
set_option maxRecDepth 20000 in
theorem t_615 : (Jvm.Cond.code ({ cls := "LineStore$Ends", name := "add", desc := "(IZI)Z" } : Jvm.MethodName) prog_2_method_2_code (4 : Nat) (Option.some Jvm.ClassFile.FieldType.boolean)) ∈ lw_tbl := in_t3 (List.mem_of_getElem? (i := 135) rfl)
set_option maxRecDepth 20000 in
theorem t_616 : (Jvm.Cond.methodLink "LineStoreLaw" (101 : Nat) ({ cls := "LineStoreLaw", name := "put", desc := "(LLineStore;III[J)I" } : Jvm.MethodName)) ∈ lw_tbl := in_t3 (List.mem_of_getElem? (i := 136) rfl)
set_option maxRecDepth 20000 in
theorem t_617 : (Jvm.Cond.static ({ cls := "LineStoreLaw", name := "put", desc := "(LLineStore;III[J)I" } : Jvm.MethodName)) ∈ lw_tbl := in_t3 (List.mem_of_getElem? (i := 137) rfl)
set_option maxRecDepth 20000 in
theorem t_618 : (Jvm.Cond.codeWith ({ cls := "LineStoreLaw", name := "put", desc := "(LLineStore;III[J)I" } : Jvm.MethodName) method_7_code (6 : Nat) (Option.some Jvm.ClassFile.FieldType.int) [((0 : Nat), (12 : Nat), (15 : Nat), (13 : Nat)), ((0 : Nat), (12 : Nat), (19 : Nat), (15 : Nat)), ((0 : Nat), (12 : Nat), (23 : Nat), (33 : Nat))]) ∈ lw_tbl := in_t3 (List.mem_of_getElem? (i := 138) rfl)
set_option maxRecDepth 20000 in
theorem t_619 : (Jvm.Cond.classLink "LineStoreLaw" (33 : Nat) "java/lang/UnsupportedOperationException") ∈ lw_tbl := in_t3 (List.mem_of_getElem? (i := 139) rfl)
set_option maxRecDepth 20000 in
theorem t_620 : (Jvm.Cond.methodLink "LineStoreLaw" (29 : Nat) ({ cls := "LineStore", name := "put", desc := "(III)I" } : Jvm.MethodName)) ∈ lw_tbl := in_t3 (List.mem_of_getElem? (i := 140) rfl)
set_option maxRecDepth 20000 in
theorem t_621 : (Jvm.Cond.instanceMethod ({ cls := "LineStore", name := "put", desc := "(III)I" } : Jvm.MethodName)) ∈ lw_tbl := in_t3 (List.mem_of_getElem? (i := 141) rfl)
set_option maxRecDepth 20000 in
theorem t_622 : (Jvm.Cond.selects "LineStore" ({ cls := "LineStore", name := "put", desc := "(III)I" } : Jvm.MethodName) ({ cls := "LineStore", name := "put", desc := "(III)I" } : Jvm.MethodName)) ∈ lw_tbl := in_t3 (List.mem_of_getElem? (i := 142) rfl)
set_option maxRecDepth 20000 in
theorem t_623 : (Jvm.Cond.code ({ cls := "LineStore", name := "put", desc := "(III)I" } : Jvm.MethodName) prog_1_method_8_code (6 : Nat) (Option.some Jvm.ClassFile.FieldType.int)) ∈ lw_tbl := in_t3 (List.mem_of_getElem? (i := 143) rfl)
set_option maxRecDepth 20000 in
theorem t_624 : (Jvm.Cond.stringRef "LineStore" (126 : Nat) "no such days") ∈ lw_tbl := in_t3 (List.mem_of_getElem? (i := 144) rfl)
set_option maxRecDepth 20000 in
theorem t_625 : (Jvm.Cond.stringRef "LineStore" (128 : Nat) "the draft has no ends") ∈ lw_tbl := in_t3 (List.mem_of_getElem? (i := 145) rfl)
set_option maxRecDepth 20000 in
theorem t_626 : (Jvm.Cond.classLink "LineStore" (131 : Nat) "java/lang/UnsupportedOperationException") ∈ lw_tbl := in_t3 (List.mem_of_getElem? (i := 146) rfl)
set_option maxRecDepth 20000 in
theorem t_627 : (Jvm.Cond.instantiable "java/lang/UnsupportedOperationException" (6 : Nat)) ∈ lw_tbl := in_t3 (List.mem_of_getElem? (i := 147) rfl)
set_option maxRecDepth 20000 in
theorem t_628 : (Jvm.Cond.castable "java/lang/UnsupportedOperationException" "java/lang/UnsupportedOperationException") ∈ lw_tbl := in_t3 (List.mem_of_getElem? (i := 148) rfl)
set_option maxRecDepth 20000 in
theorem t_629 : (Jvm.Cond.selects "java/lang/UnsupportedOperationException" ({ cls := "java/lang/Throwable", name := "fillInStackTrace", desc := "(I)Ljava/lang/Throwable;" } : Jvm.MethodName) ({ cls := "java/lang/Throwable", name := "fillInStackTrace", desc := "(I)Ljava/lang/Throwable;" } : Jvm.MethodName)) ∈ lw_tbl := in_t3 (List.mem_of_getElem? (i := 149) rfl)
set_option maxRecDepth 20000 in
theorem t_630 : (Jvm.Cond.lays "java/lang/UnsupportedOperationException" "java/lang/Throwable" "cause" "Ljava/lang/Throwable;") ∈ lw_tbl := in_t3 (List.mem_of_getElem? (i := 150) rfl)
set_option maxRecDepth 20000 in
theorem t_631 : (Jvm.Cond.lays "java/lang/UnsupportedOperationException" "java/lang/Throwable" "stackTrace" "[Ljava/lang/StackTraceElement;") ∈ lw_tbl := in_t3 (List.mem_of_getElem? (i := 151) rfl)
set_option maxRecDepth 20000 in
theorem t_632 : (Jvm.Cond.lays "java/lang/UnsupportedOperationException" "java/lang/Throwable" "suppressedExceptions" "Ljava/util/List;") ∈ lw_tbl := in_t3 (List.mem_of_getElem? (i := 152) rfl)
set_option maxRecDepth 20000 in
theorem t_633 : (Jvm.Cond.lays "java/lang/UnsupportedOperationException" "java/lang/Throwable" "detailMessage" "Ljava/lang/String;") ∈ lw_tbl := in_t3 (List.mem_of_getElem? (i := 153) rfl)
set_option maxRecDepth 20000 in
theorem t_634 : (Jvm.Cond.lays "java/lang/UnsupportedOperationException" "java/lang/Throwable" "backtrace" "Ljava/lang/Object;") ∈ lw_tbl := in_t3 (List.mem_of_getElem? (i := 154) rfl)
set_option maxRecDepth 20000 in
theorem t_635 : (Jvm.Cond.stringRef "LineStore" (133 : Nat) "there are 120 lines") ∈ lw_tbl := in_t3 (List.mem_of_getElem? (i := 155) rfl)
set_option maxRecDepth 20000 in
theorem t_636 : (Jvm.Cond.methodLink "LineStore" (135 : Nat) ({ cls := "java/lang/UnsupportedOperationException", name := "<init>", desc := "(Ljava/lang/String;)V" } : Jvm.MethodName)) ∈ lw_tbl := in_t3 (List.mem_of_getElem? (i := 156) rfl)
set_option maxRecDepth 20000 in
theorem t_637 : (Jvm.Cond.instanceMethod ({ cls := "java/lang/UnsupportedOperationException", name := "<init>", desc := "(Ljava/lang/String;)V" } : Jvm.MethodName)) ∈ lw_tbl := in_t3 (List.mem_of_getElem? (i := 157) rfl)
set_option maxRecDepth 20000 in
theorem t_638 : (Jvm.Cond.code ({ cls := "java/lang/UnsupportedOperationException", name := "<init>", desc := "(Ljava/lang/String;)V" } : Jvm.MethodName) prog_28_method_2_code (2 : Nat) (Option.none : Option Jvm.ClassFile.FieldType)) ∈ lw_tbl := in_t3 (List.mem_of_getElem? (i := 158) rfl)
set_option maxRecDepth 20000 in
theorem t_639 : (Jvm.Cond.methodLink "java/lang/UnsupportedOperationException" (7 : Nat) ({ cls := "java/lang/RuntimeException", name := "<init>", desc := "(Ljava/lang/String;)V" } : Jvm.MethodName)) ∈ lw_tbl := in_t3 (List.mem_of_getElem? (i := 159) rfl)
set_option maxRecDepth 20000 in
theorem t_640 : (Jvm.Cond.lays "java/lang/UnsupportedOperationException" "java/lang/Throwable" "depth" "I") ∈ lw_tbl := in_t3 (List.mem_of_getElem? (i := 160) rfl)
set_option maxRecDepth 20000 in
theorem t_641 : (Jvm.Cond.superclass "java/lang/UnsupportedOperationException" "java/lang/RuntimeException") ∈ lw_tbl := in_t3 (List.mem_of_getElem? (i := 161) rfl)
set_option maxRecDepth 20000 in
theorem t_642 : (Jvm.Cond.classLink "LineStore" (136 : Nat) "LineStore$Line") ∈ lw_tbl := in_t3 (List.mem_of_getElem? (i := 162) rfl)
set_option maxRecDepth 20000 in
theorem t_643 : (Jvm.Cond.instantiable "LineStore$Line" (4 : Nat)) ∈ lw_tbl := in_t3 (List.mem_of_getElem? (i := 163) rfl)
set_option maxRecDepth 20000 in
theorem t_644 : (Jvm.Cond.methodLink "LineStore" (138 : Nat) ({ cls := "LineStore$Ends", name := "copy", desc := "()LLineStore$Ends;" } : Jvm.MethodName)) ∈ lw_tbl := in_t3 (List.mem_of_getElem? (i := 164) rfl)
set_option maxRecDepth 20000 in
theorem t_645 : (Jvm.Cond.instanceMethod ({ cls := "LineStore$Ends", name := "copy", desc := "()LLineStore$Ends;" } : Jvm.MethodName)) ∈ lw_tbl := in_t3 (List.mem_of_getElem? (i := 165) rfl)
set_option maxRecDepth 20000 in
theorem t_646 : (Jvm.Cond.selects "LineStore$Ends" ({ cls := "LineStore$Ends", name := "copy", desc := "()LLineStore$Ends;" } : Jvm.MethodName) ({ cls := "LineStore$Ends", name := "copy", desc := "()LLineStore$Ends;" } : Jvm.MethodName)) ∈ lw_tbl := in_t3 (List.mem_of_getElem? (i := 166) rfl)
set_option maxRecDepth 20000 in
theorem t_647 : (Jvm.Cond.code ({ cls := "LineStore$Ends", name := "copy", desc := "()LLineStore$Ends;" } : Jvm.MethodName) prog_2_method_4_code (2 : Nat) (Option.some (Jvm.ClassFile.FieldType.object "LineStore$Ends"))) ∈ lw_tbl := in_t3 (List.mem_of_getElem? (i := 167) rfl)
set_option maxRecDepth 20000 in
theorem t_648 : (Jvm.Cond.classLink "LineStore$Ends" (10 : Nat) "LineStore$Ends") ∈ lw_tbl := in_t3 (List.mem_of_getElem? (i := 168) rfl)
set_option maxRecDepth 20000 in
theorem t_649 : (Jvm.Cond.methodLink "LineStore$Ends" (25 : Nat) ({ cls := "LineStore$Ends", name := "<init>", desc := "()V" } : Jvm.MethodName)) ∈ lw_tbl := in_t3 (List.mem_of_getElem? (i := 169) rfl)
set_option maxRecDepth 20000 in
theorem t_650 : (Jvm.Cond.methodLink "LineStore$Ends" (26 : Nat) ({ cls := "java/lang/System", name := "arraycopy", desc := "(Ljava/lang/Object;ILjava/lang/Object;II)V" } : Jvm.MethodName)) ∈ lw_tbl := in_t3 (List.mem_of_getElem? (i := 170) rfl)
set_option maxRecDepth 20000 in
theorem t_651 : (Jvm.Cond.static ({ cls := "java/lang/System", name := "arraycopy", desc := "(Ljava/lang/Object;ILjava/lang/Object;II)V" } : Jvm.MethodName)) ∈ lw_tbl := in_t3 (List.mem_of_getElem? (i := 171) rfl)
set_option maxRecDepth 20000 in
theorem t_652 : (Jvm.Cond.native ({ cls := "java/lang/System", name := "arraycopy", desc := "(Ljava/lang/Object;ILjava/lang/Object;II)V" } : Jvm.MethodName)) ∈ lw_tbl := in_t3 (List.mem_of_getElem? (i := 172) rfl)
set_option maxRecDepth 20000 in
theorem t_653 : (Jvm.Cond.methodLink "LineStore" (142 : Nat) ({ cls := "LineStore$Line", name := "<init>", desc := "(IIILLineStore$Ends;)V" } : Jvm.MethodName)) ∈ lw_tbl := in_t3 (List.mem_of_getElem? (i := 173) rfl)
set_option maxRecDepth 20000 in
theorem t_654 : (Jvm.Cond.instanceMethod ({ cls := "LineStore$Line", name := "<init>", desc := "(IIILLineStore$Ends;)V" } : Jvm.MethodName)) ∈ lw_tbl := in_t3 (List.mem_of_getElem? (i := 174) rfl)
set_option maxRecDepth 20000 in
theorem t_655 : (Jvm.Cond.code ({ cls := "LineStore$Line", name := "<init>", desc := "(IIILLineStore$Ends;)V" } : Jvm.MethodName) prog_4_method_1_code (5 : Nat) (Option.none : Option Jvm.ClassFile.FieldType)) ∈ lw_tbl := in_t3 (List.mem_of_getElem? (i := 175) rfl)
set_option maxRecDepth 20000 in
theorem t_656 : (Jvm.Cond.methodLink "LineStore$Line" (1 : Nat) ({ cls := "java/lang/Object", name := "<init>", desc := "()V" } : Jvm.MethodName)) ∈ lw_tbl := in_t3 (List.mem_of_getElem? (i := 176) rfl)
set_option maxRecDepth 20000 in
theorem t_657 : (Jvm.Cond.fieldLink "LineStore$Line" (7 : Nat) "LineStore$Line" "kind" "I") ∈ lw_tbl := in_t3 (List.mem_of_getElem? (i := 177) rfl)
set_option maxRecDepth 20000 in
theorem t_658 : (Jvm.Cond.fieldLinkNest "LineStore$Matcher" (48 : Nat) "LineStore$Line" "kind" "I" "LineStore") ∈ lw_tbl := in_t3 (List.mem_of_getElem? (i := 178) rfl)
set_option maxRecDepth 20000 in
theorem t_659 : (Jvm.Cond.fieldLinkNest "LineStore$Laws" (37 : Nat) "LineStore$Line" "kind" "I" "LineStore") ∈ lw_tbl := in_t3 (List.mem_of_getElem? (i := 179) rfl)
set_option maxRecDepth 20000 in
theorem t_660 : (Jvm.Cond.fieldLinkNest "LineStore$Lines" (75 : Nat) "LineStore$Line" "kind" "I" "LineStore") ∈ lw_tbl := in_t3 (List.mem_of_getElem? (i := 180) rfl)
set_option maxRecDepth 20000 in
theorem t_661 : (Jvm.Cond.fieldLinkNest "LineStore" (174 : Nat) "LineStore$Line" "kind" "I" "LineStore") ∈ lw_tbl := in_t3 (List.mem_of_getElem? (i := 181) rfl)
set_option maxRecDepth 20000 in
theorem t_662 : (Jvm.Cond.fieldLink "LineStore$Line" (13 : Nat) "LineStore$Line" "from" "I") ∈ lw_tbl := in_t3 (List.mem_of_getElem? (i := 182) rfl)
set_option maxRecDepth 20000 in
theorem t_663 : (Jvm.Cond.fieldLinkNest "LineStore$Lines" (58 : Nat) "LineStore$Line" "from" "I" "LineStore") ∈ lw_tbl := in_t3 (List.mem_of_getElem? (i := 183) rfl)
set_option maxRecDepth 20000 in
theorem t_664 : (Jvm.Cond.fieldLinkNest "LineStore" (177 : Nat) "LineStore$Line" "from" "I" "LineStore") ∈ lw_tbl := in_t3 (List.mem_of_getElem? (i := 184) rfl)
set_option maxRecDepth 20000 in
theorem t_665 : (Jvm.Cond.fieldLink "LineStore$Line" (16 : Nat) "LineStore$Line" "to" "I") ∈ lw_tbl := in_t3 (List.mem_of_getElem? (i := 185) rfl)
set_option maxRecDepth 20000 in
theorem t_666 : (Jvm.Cond.fieldLinkNest "LineStore$Lines" (62 : Nat) "LineStore$Line" "to" "I" "LineStore") ∈ lw_tbl := in_t3 (List.mem_of_getElem? (i := 186) rfl)
set_option maxRecDepth 20000 in
theorem t_667 : (Jvm.Cond.fieldLinkNest "LineStore" (180 : Nat) "LineStore$Line" "to" "I" "LineStore") ∈ lw_tbl := in_t3 (List.mem_of_getElem? (i := 187) rfl)
set_option maxRecDepth 20000 in
theorem t_668 : (Jvm.Cond.fieldLink "LineStore$Line" (19 : Nat) "LineStore$Line" "ends" "LLineStore$Ends;") ∈ lw_tbl := in_t3 (List.mem_of_getElem? (i := 188) rfl)
set_option maxRecDepth 20000 in
theorem t_669 : (Jvm.Cond.fieldLinkNest "LineStore$Matcher" (61 : Nat) "LineStore$Line" "ends" "LLineStore$Ends;" "LineStore") ∈ lw_tbl := in_t3 (List.mem_of_getElem? (i := 189) rfl)
set_option maxRecDepth 20000 in
theorem t_670 : (Jvm.Cond.fieldLinkNest "LineStore$Lines" (43 : Nat) "LineStore$Line" "ends" "LLineStore$Ends;" "LineStore") ∈ lw_tbl := in_t3 (List.mem_of_getElem? (i := 190) rfl)
set_option maxRecDepth 20000 in
theorem t_671 : (Jvm.Cond.fieldLinkNest "LineStore$Laws" (25 : Nat) "LineStore$Line" "ends" "LLineStore$Ends;" "LineStore") ∈ lw_tbl := in_t3 (List.mem_of_getElem? (i := 191) rfl)
set_option maxRecDepth 20000 in
theorem t_672 : (Jvm.Cond.fieldLinkNest "LineStore" (183 : Nat) "LineStore$Line" "ends" "LLineStore$Ends;" "LineStore") ∈ lw_tbl := in_t3 (List.mem_of_getElem? (i := 192) rfl)
set_option maxRecDepth 20000 in
theorem t_673 : (Jvm.Cond.laysFinal "LineStore$Line" "LineStore$Line" "kind" "I") ∈ lw_tbl := in_t3 (List.mem_of_getElem? (i := 193) rfl)
set_option maxRecDepth 20000 in
theorem t_674 : (Jvm.Cond.soleField "LineStore$Line" "kind") ∈ lw_tbl := in_t3 (List.mem_of_getElem? (i := 194) rfl)
set_option maxRecDepth 20000 in
theorem t_675 : (Jvm.Cond.laysFinal "LineStore$Line" "LineStore$Line" "from" "I") ∈ lw_tbl := in_t3 (List.mem_of_getElem? (i := 195) rfl)
set_option maxRecDepth 20000 in
theorem t_676 : (Jvm.Cond.soleField "LineStore$Line" "from") ∈ lw_tbl := in_t3 (List.mem_of_getElem? (i := 196) rfl)
set_option maxRecDepth 20000 in
theorem t_677 : (Jvm.Cond.lays "LineStore$Line" "LineStore$Line" "to" "I") ∈ lw_tbl := in_t3 (List.mem_of_getElem? (i := 197) rfl)
set_option maxRecDepth 20000 in
theorem t_678 : (Jvm.Cond.soleField "LineStore$Line" "to") ∈ lw_tbl := in_t3 (List.mem_of_getElem? (i := 198) rfl)
set_option maxRecDepth 20000 in
theorem t_679 : (Jvm.Cond.laysFinal "LineStore$Line" "LineStore$Line" "ends" "LLineStore$Ends;") ∈ lw_tbl := in_t3 (List.mem_of_getElem? (i := 199) rfl)
set_option maxRecDepth 20000 in
theorem t_680 : (Jvm.Cond.soleField "LineStore$Line" "ends") ∈ lw_tbl := in_t3 (List.mem_of_getElem? (i := 200) rfl)
set_option maxRecDepth 20000 in
theorem t_681 : (Jvm.Cond.superclass "LineStore$Line" "java/lang/Object") ∈ lw_tbl := in_t3 (List.mem_of_getElem? (i := 201) rfl)
set_option maxRecDepth 20000 in
theorem t_682 : (Jvm.Cond.methodLink "LineStore" (145 : Nat) ({ cls := "LineStore$Ends", name := "clear", desc := "()V" } : Jvm.MethodName)) ∈ lw_tbl := in_t3 (List.mem_of_getElem? (i := 202) rfl)
set_option maxRecDepth 20000 in
theorem t_683 : (Jvm.Cond.instanceMethod ({ cls := "LineStore$Ends", name := "clear", desc := "()V" } : Jvm.MethodName)) ∈ lw_tbl := in_t3 (List.mem_of_getElem? (i := 203) rfl)
set_option maxRecDepth 20000 in
theorem t_684 : (Jvm.Cond.selects "LineStore$Ends" ({ cls := "LineStore$Ends", name := "clear", desc := "()V" } : Jvm.MethodName) ({ cls := "LineStore$Ends", name := "clear", desc := "()V" } : Jvm.MethodName)) ∈ lw_tbl := in_t3 (List.mem_of_getElem? (i := 204) rfl)
set_option maxRecDepth 20000 in
theorem t_685 : (Jvm.Cond.code ({ cls := "LineStore$Ends", name := "clear", desc := "()V" } : Jvm.MethodName) prog_2_method_3_code (1 : Nat) (Option.none : Option Jvm.ClassFile.FieldType)) ∈ lw_tbl := in_t3 (List.mem_of_getElem? (i := 205) rfl)
set_option maxRecDepth 20000 in
theorem t_686 : (Jvm.Cond.methodLink "LineStore" (148 : Nat) ({ cls := "LineStore", name := "whyRefused", desc := "(LLineStore$Line;)I" } : Jvm.MethodName)) ∈ lw_tbl := in_t3 (List.mem_of_getElem? (i := 206) rfl)
set_option maxRecDepth 20000 in
theorem t_687 : (Jvm.Cond.privateMethod ({ cls := "LineStore", name := "whyRefused", desc := "(LLineStore$Line;)I" } : Jvm.MethodName)) ∈ lw_tbl := in_t3 (List.mem_of_getElem? (i := 207) rfl)
set_option maxRecDepth 20000 in
theorem t_688 : (Jvm.Cond.instanceMethod ({ cls := "LineStore", name := "whyRefused", desc := "(LLineStore$Line;)I" } : Jvm.MethodName)) ∈ lw_tbl := in_t3 (List.mem_of_getElem? (i := 208) rfl)
set_option maxRecDepth 20000 in
theorem t_689 : (Jvm.Cond.code ({ cls := "LineStore", name := "whyRefused", desc := "(LLineStore$Line;)I" } : Jvm.MethodName) prog_1_method_22_code (2 : Nat) (Option.some Jvm.ClassFile.FieldType.int)) ∈ lw_tbl := in_t3 (List.mem_of_getElem? (i := 209) rfl)
set_option maxRecDepth 20000 in
theorem t_690 : (Jvm.Cond.methodLink "LineStore" (249 : Nat) ({ cls := "LineStore$Laws", name := "allowEnds", desc := "(LLineStore$Line;)Z" } : Jvm.MethodName)) ∈ lw_tbl := in_t3 (List.mem_of_getElem? (i := 210) rfl)
set_option maxRecDepth 20000 in
theorem t_691 : (Jvm.Cond.instanceMethod ({ cls := "LineStore$Laws", name := "allowEnds", desc := "(LLineStore$Line;)Z" } : Jvm.MethodName)) ∈ lw_tbl := in_t3 (List.mem_of_getElem? (i := 211) rfl)
set_option maxRecDepth 20000 in
theorem t_692 : (Jvm.Cond.selects "LineStore$Laws" ({ cls := "LineStore$Laws", name := "allowEnds", desc := "(LLineStore$Line;)Z" } : Jvm.MethodName) ({ cls := "LineStore$Laws", name := "allowEnds", desc := "(LLineStore$Line;)Z" } : Jvm.MethodName)) ∈ lw_tbl := in_t3 (List.mem_of_getElem? (i := 212) rfl)
set_option maxRecDepth 20000 in
theorem t_693 : (Jvm.Cond.code ({ cls := "LineStore$Laws", name := "allowEnds", desc := "(LLineStore$Line;)Z" } : Jvm.MethodName) prog_3_method_7_code (5 : Nat) (Option.some Jvm.ClassFile.FieldType.boolean)) ∈ lw_tbl := in_t3 (List.mem_of_getElem? (i := 213) rfl)
set_option maxRecDepth 20000 in
theorem t_694 : (Jvm.Cond.methodLink "LineStore$Laws" (31 : Nat) ({ cls := "LineStore$Ends", name := "inRole", desc := "(I)I" } : Jvm.MethodName)) ∈ lw_tbl := in_t3 (List.mem_of_getElem? (i := 214) rfl)
set_option maxRecDepth 20000 in
theorem t_695 : (Jvm.Cond.instanceMethod ({ cls := "LineStore$Ends", name := "inRole", desc := "(I)I" } : Jvm.MethodName)) ∈ lw_tbl := in_t3 (List.mem_of_getElem? (i := 215) rfl)
set_option maxRecDepth 20000 in
theorem t_696 : (Jvm.Cond.selects "LineStore$Ends" ({ cls := "LineStore$Ends", name := "inRole", desc := "(I)I" } : Jvm.MethodName) ({ cls := "LineStore$Ends", name := "inRole", desc := "(I)I" } : Jvm.MethodName)) ∈ lw_tbl := in_t3 (List.mem_of_getElem? (i := 216) rfl)
set_option maxRecDepth 20000 in
theorem t_697 : (Jvm.Cond.code ({ cls := "LineStore$Ends", name := "inRole", desc := "(I)I" } : Jvm.MethodName) prog_2_method_9_code (4 : Nat) (Option.some Jvm.ClassFile.FieldType.int)) ∈ lw_tbl := in_t3 (List.mem_of_getElem? (i := 217) rfl)
set_option maxRecDepth 20000 in
theorem t_698 : (Jvm.Cond.methodLink "LineStore" (253 : Nat) ({ cls := "LineStore$Lines", name := "bear", desc := "(LLineStore$Line;)Z" } : Jvm.MethodName)) ∈ lw_tbl := in_t3 (List.mem_of_getElem? (i := 218) rfl)
set_option maxRecDepth 20000 in
theorem t_699 : (Jvm.Cond.instanceMethod ({ cls := "LineStore$Lines", name := "bear", desc := "(LLineStore$Line;)Z" } : Jvm.MethodName)) ∈ lw_tbl := in_t3 (List.mem_of_getElem? (i := 219) rfl)
set_option maxRecDepth 20000 in
theorem t_700 : (Jvm.Cond.selects "LineStore$Lines" ({ cls := "LineStore$Lines", name := "bear", desc := "(LLineStore$Line;)Z" } : Jvm.MethodName) ({ cls := "LineStore$Lines", name := "bear", desc := "(LLineStore$Line;)Z" } : Jvm.MethodName)) ∈ lw_tbl := in_t3 (List.mem_of_getElem? (i := 220) rfl)
set_option maxRecDepth 20000 in
theorem t_701 : (Jvm.Cond.code ({ cls := "LineStore$Lines", name := "bear", desc := "(LLineStore$Line;)Z" } : Jvm.MethodName) prog_5_method_6_code (4 : Nat) (Option.some Jvm.ClassFile.FieldType.boolean)) ∈ lw_tbl := in_t3 (List.mem_of_getElem? (i := 221) rfl)
set_option maxRecDepth 20000 in
theorem t_702 : (Jvm.Cond.methodLink "LineStore$Lines" (53 : Nat) ({ cls := "LineStore$Ends", name := "size", desc := "()I" } : Jvm.MethodName)) ∈ lw_tbl := in_t3 (List.mem_of_getElem? (i := 222) rfl)
set_option maxRecDepth 20000 in
theorem t_703 : (Jvm.Cond.methodLink "LineStore$Lines" (54 : Nat) ({ cls := "LineStore$Ends", name := "line", desc := "(I)I" } : Jvm.MethodName)) ∈ lw_tbl := in_t3 (List.mem_of_getElem? (i := 223) rfl)
set_option maxRecDepth 20000 in
theorem t_704 : (Jvm.Cond.instanceMethod ({ cls := "LineStore$Ends", name := "line", desc := "(I)I" } : Jvm.MethodName)) ∈ lw_tbl := in_t3 (List.mem_of_getElem? (i := 224) rfl)
set_option maxRecDepth 20000 in
theorem t_705 : (Jvm.Cond.selects "LineStore$Ends" ({ cls := "LineStore$Ends", name := "line", desc := "(I)I" } : Jvm.MethodName) ({ cls := "LineStore$Ends", name := "line", desc := "(I)I" } : Jvm.MethodName)) ∈ lw_tbl := in_t3 (List.mem_of_getElem? (i := 225) rfl)
set_option maxRecDepth 20000 in
theorem t_706 : (Jvm.Cond.code ({ cls := "LineStore$Ends", name := "line", desc := "(I)I" } : Jvm.MethodName) prog_2_method_8_code (2 : Nat) (Option.some Jvm.ClassFile.FieldType.int)) ∈ lw_tbl := in_t3 (List.mem_of_getElem? (i := 226) rfl)
set_option maxRecDepth 20000 in
theorem t_707 : (Jvm.Cond.methodLink "LineStore$Lines" (65 : Nat) ({ cls := "LineStore$Line", name := "isInForceThrough", desc := "(II)Z" } : Jvm.MethodName)) ∈ lw_tbl := in_t3 (List.mem_of_getElem? (i := 227) rfl)
set_option maxRecDepth 20000 in
theorem t_708 : (Jvm.Cond.instanceMethod ({ cls := "LineStore$Line", name := "isInForceThrough", desc := "(II)Z" } : Jvm.MethodName)) ∈ lw_tbl := in_t3 (List.mem_of_getElem? (i := 228) rfl)
set_option maxRecDepth 20000 in
theorem t_709 : (Jvm.Cond.selects "LineStore$Line" ({ cls := "LineStore$Line", name := "isInForceThrough", desc := "(II)Z" } : Jvm.MethodName) ({ cls := "LineStore$Line", name := "isInForceThrough", desc := "(II)Z" } : Jvm.MethodName)) ∈ lw_tbl := in_t3 (List.mem_of_getElem? (i := 229) rfl)
set_option maxRecDepth 20000 in
theorem t_710 : (Jvm.Cond.code ({ cls := "LineStore$Line", name := "isInForceThrough", desc := "(II)Z" } : Jvm.MethodName) prog_4_method_4_code (3 : Nat) (Option.some Jvm.ClassFile.FieldType.boolean)) ∈ lw_tbl := in_t3 (List.mem_of_getElem? (i := 230) rfl)
set_option maxRecDepth 20000 in
theorem t_711 : (Jvm.Cond.methodLink "LineStore" (256 : Nat) ({ cls := "LineStore$Lines", name := "crowdedBy", desc := "(LLineStore$Line;LLineStore$Laws;LLineStore$Ones;)Z" } : Jvm.MethodName)) ∈ lw_tbl := in_t3 (List.mem_of_getElem? (i := 231) rfl)
set_option maxRecDepth 20000 in
theorem t_712 : (Jvm.Cond.instanceMethod ({ cls := "LineStore$Lines", name := "crowdedBy", desc := "(LLineStore$Line;LLineStore$Laws;LLineStore$Ones;)Z" } : Jvm.MethodName)) ∈ lw_tbl := in_t3 (List.mem_of_getElem? (i := 232) rfl)
set_option maxRecDepth 20000 in
theorem t_713 : (Jvm.Cond.selects "LineStore$Lines" ({ cls := "LineStore$Lines", name := "crowdedBy", desc := "(LLineStore$Line;LLineStore$Laws;LLineStore$Ones;)Z" } : Jvm.MethodName) ({ cls := "LineStore$Lines", name := "crowdedBy", desc := "(LLineStore$Line;LLineStore$Laws;LLineStore$Ones;)Z" } : Jvm.MethodName)) ∈ lw_tbl := in_t3 (List.mem_of_getElem? (i := 233) rfl)
set_option maxRecDepth 20000 in
theorem t_714 : (Jvm.Cond.code ({ cls := "LineStore$Lines", name := "crowdedBy", desc := "(LLineStore$Line;LLineStore$Laws;LLineStore$Ones;)Z" } : Jvm.MethodName) prog_5_method_7_code (8 : Nat) (Option.some Jvm.ClassFile.FieldType.boolean)) ∈ lw_tbl := in_t3 (List.mem_of_getElem? (i := 234) rfl)
set_option maxRecDepth 20000 in
theorem t_715 : (Jvm.Cond.methodLink "LineStore$Lines" (69 : Nat) ({ cls := "LineStore$Ends", name := "role", desc := "(I)I" } : Jvm.MethodName)) ∈ lw_tbl := in_t3 (List.mem_of_getElem? (i := 235) rfl)
set_option maxRecDepth 20000 in
theorem t_716 : (Jvm.Cond.instanceMethod ({ cls := "LineStore$Ends", name := "role", desc := "(I)I" } : Jvm.MethodName)) ∈ lw_tbl := in_t3 (List.mem_of_getElem? (i := 236) rfl)
set_option maxRecDepth 20000 in
theorem t_717 : (Jvm.Cond.selects "LineStore$Ends" ({ cls := "LineStore$Ends", name := "role", desc := "(I)I" } : Jvm.MethodName) ({ cls := "LineStore$Ends", name := "role", desc := "(I)I" } : Jvm.MethodName)) ∈ lw_tbl := in_t3 (List.mem_of_getElem? (i := 237) rfl)
set_option maxRecDepth 20000 in
theorem t_718 : (Jvm.Cond.code ({ cls := "LineStore$Ends", name := "role", desc := "(I)I" } : Jvm.MethodName) prog_2_method_6_code (2 : Nat) (Option.some Jvm.ClassFile.FieldType.int)) ∈ lw_tbl := in_t3 (List.mem_of_getElem? (i := 238) rfl)
set_option maxRecDepth 20000 in
theorem t_719 : (Jvm.Cond.methodLink "LineStore$Lines" (72 : Nat) ({ cls := "LineStore$Ends", name := "thing", desc := "(I)I" } : Jvm.MethodName)) ∈ lw_tbl := in_t3 (List.mem_of_getElem? (i := 239) rfl)
set_option maxRecDepth 20000 in
theorem t_720 : (Jvm.Cond.instanceMethod ({ cls := "LineStore$Ends", name := "thing", desc := "(I)I" } : Jvm.MethodName)) ∈ lw_tbl := in_t4 (List.mem_of_getElem? (i := 0) rfl)
set_option maxRecDepth 20000 in
theorem t_721 : (Jvm.Cond.selects "LineStore$Ends" ({ cls := "LineStore$Ends", name := "thing", desc := "(I)I" } : Jvm.MethodName) ({ cls := "LineStore$Ends", name := "thing", desc := "(I)I" } : Jvm.MethodName)) ∈ lw_tbl := in_t4 (List.mem_of_getElem? (i := 1) rfl)
set_option maxRecDepth 20000 in
theorem t_722 : (Jvm.Cond.code ({ cls := "LineStore$Ends", name := "thing", desc := "(I)I" } : Jvm.MethodName) prog_2_method_7_code (2 : Nat) (Option.some Jvm.ClassFile.FieldType.int)) ∈ lw_tbl := in_t4 (List.mem_of_getElem? (i := 2) rfl)
set_option maxRecDepth 20000 in
theorem t_723 : (Jvm.Cond.methodLink "LineStore$Lines" (78 : Nat) ({ cls := "LineStore$Laws", name := "mostAlone", desc := "(II)I" } : Jvm.MethodName)) ∈ lw_tbl := in_t4 (List.mem_of_getElem? (i := 3) rfl)
set_option maxRecDepth 20000 in
theorem t_724 : (Jvm.Cond.instanceMethod ({ cls := "LineStore$Laws", name := "mostAlone", desc := "(II)I" } : Jvm.MethodName)) ∈ lw_tbl := in_t4 (List.mem_of_getElem? (i := 4) rfl)
set_option maxRecDepth 20000 in
theorem t_725 : (Jvm.Cond.selects "LineStore$Laws" ({ cls := "LineStore$Laws", name := "mostAlone", desc := "(II)I" } : Jvm.MethodName) ({ cls := "LineStore$Laws", name := "mostAlone", desc := "(II)I" } : Jvm.MethodName)) ∈ lw_tbl := in_t4 (List.mem_of_getElem? (i := 5) rfl)
set_option maxRecDepth 20000 in
theorem t_726 : (Jvm.Cond.code ({ cls := "LineStore$Laws", name := "mostAlone", desc := "(II)I" } : Jvm.MethodName) prog_3_method_6_code (3 : Nat) (Option.some Jvm.ClassFile.FieldType.int)) ∈ lw_tbl := in_t4 (List.mem_of_getElem? (i := 6) rfl)
set_option maxRecDepth 20000 in
theorem t_727 : (Jvm.Cond.methodLink "LineStore$Lines" (84 : Nat) ({ cls := "LineStore$Ones", name := "of", desc := "(I)I" } : Jvm.MethodName)) ∈ lw_tbl := in_t4 (List.mem_of_getElem? (i := 7) rfl)
set_option maxRecDepth 20000 in
theorem t_728 : (Jvm.Cond.methodLink "LineStore$Lines" (89 : Nat) ({ cls := "LineStore$Lines", name := "mostAtOnce", desc := "(LLineStore$Line;IILLineStore$Ones;)I" } : Jvm.MethodName)) ∈ lw_tbl := in_t4 (List.mem_of_getElem? (i := 8) rfl)
set_option maxRecDepth 20000 in
theorem t_729 : (Jvm.Cond.privateMethod ({ cls := "LineStore$Lines", name := "mostAtOnce", desc := "(LLineStore$Line;IILLineStore$Ones;)I" } : Jvm.MethodName)) ∈ lw_tbl := in_t4 (List.mem_of_getElem? (i := 9) rfl)
set_option maxRecDepth 20000 in
theorem t_730 : (Jvm.Cond.instanceMethod ({ cls := "LineStore$Lines", name := "mostAtOnce", desc := "(LLineStore$Line;IILLineStore$Ones;)I" } : Jvm.MethodName)) ∈ lw_tbl := in_t4 (List.mem_of_getElem? (i := 10) rfl)
set_option maxRecDepth 20000 in
theorem t_731 : (Jvm.Cond.code ({ cls := "LineStore$Lines", name := "mostAtOnce", desc := "(LLineStore$Line;IILLineStore$Ones;)I" } : Jvm.MethodName) prog_5_method_8_code (8 : Nat) (Option.some Jvm.ClassFile.FieldType.int)) ∈ lw_tbl := in_t4 (List.mem_of_getElem? (i := 11) rfl)
set_option maxRecDepth 20000 in
theorem t_732 : (Jvm.Cond.methodLink "LineStore$Lines" (93 : Nat) ({ cls := "LineStore$Line", name := "isInForceWithin", desc := "(II)Z" } : Jvm.MethodName)) ∈ lw_tbl := in_t4 (List.mem_of_getElem? (i := 12) rfl)
set_option maxRecDepth 20000 in
theorem t_733 : (Jvm.Cond.instanceMethod ({ cls := "LineStore$Line", name := "isInForceWithin", desc := "(II)Z" } : Jvm.MethodName)) ∈ lw_tbl := in_t4 (List.mem_of_getElem? (i := 13) rfl)
set_option maxRecDepth 20000 in
theorem t_734 : (Jvm.Cond.selects "LineStore$Line" ({ cls := "LineStore$Line", name := "isInForceWithin", desc := "(II)Z" } : Jvm.MethodName) ({ cls := "LineStore$Line", name := "isInForceWithin", desc := "(II)Z" } : Jvm.MethodName)) ∈ lw_tbl := in_t4 (List.mem_of_getElem? (i := 14) rfl)
set_option maxRecDepth 20000 in
theorem t_735 : (Jvm.Cond.code ({ cls := "LineStore$Line", name := "isInForceWithin", desc := "(II)Z" } : Jvm.MethodName) prog_4_method_5_code (3 : Nat) (Option.some Jvm.ClassFile.FieldType.boolean)) ∈ lw_tbl := in_t4 (List.mem_of_getElem? (i := 15) rfl)
set_option maxRecDepth 20000 in
theorem t_736 : (Jvm.Cond.methodLink "LineStore$Line" (23 : Nat) ({ cls := "java/lang/Math", name := "max", desc := "(II)I" } : Jvm.MethodName)) ∈ lw_tbl := in_t4 (List.mem_of_getElem? (i := 16) rfl)
set_option maxRecDepth 20000 in
theorem t_737 : (Jvm.Cond.static ({ cls := "java/lang/Math", name := "max", desc := "(II)I" } : Jvm.MethodName)) ∈ lw_tbl := in_t4 (List.mem_of_getElem? (i := 17) rfl)
set_option maxRecDepth 20000 in
theorem t_738 : (Jvm.Cond.code ({ cls := "java/lang/Math", name := "max", desc := "(II)I" } : Jvm.MethodName) prog_21_method_65_code (2 : Nat) (Option.some Jvm.ClassFile.FieldType.int)) ∈ lw_tbl := in_t4 (List.mem_of_getElem? (i := 18) rfl)
set_option maxRecDepth 20000 in
theorem t_739 : (Jvm.Cond.methodLink "LineStore$Line" (29 : Nat) ({ cls := "java/lang/Math", name := "min", desc := "(II)I" } : Jvm.MethodName)) ∈ lw_tbl := in_t4 (List.mem_of_getElem? (i := 19) rfl)
set_option maxRecDepth 20000 in
theorem t_740 : (Jvm.Cond.static ({ cls := "java/lang/Math", name := "min", desc := "(II)I" } : Jvm.MethodName)) ∈ lw_tbl := in_t4 (List.mem_of_getElem? (i := 20) rfl)
set_option maxRecDepth 20000 in
theorem t_741 : (Jvm.Cond.code ({ cls := "java/lang/Math", name := "min", desc := "(II)I" } : Jvm.MethodName) prog_21_method_69_code (2 : Nat) (Option.some Jvm.ClassFile.FieldType.int)) ∈ lw_tbl := in_t4 (List.mem_of_getElem? (i := 21) rfl)
set_option maxRecDepth 20000 in
theorem t_742 : (Jvm.Cond.methodLink "LineStore$Lines" (96 : Nat) ({ cls := "LineStore$Ends", name := "thingsInRole", desc := "(ILLineStore$Ones;)J" } : Jvm.MethodName)) ∈ lw_tbl := in_t4 (List.mem_of_getElem? (i := 22) rfl)
set_option maxRecDepth 20000 in
theorem t_743 : (Jvm.Cond.methodLinkNest "LineStore$Lines" (100 : Nat) ({ cls := "LineStore", name := "isIn", desc := "(JI)Z" } : Jvm.MethodName) "LineStore") ∈ lw_tbl := in_t4 (List.mem_of_getElem? (i := 23) rfl)
set_option maxRecDepth 20000 in
theorem t_744 : (Jvm.Cond.methodLink "LineStore$Lines" (104 : Nat) ({ cls := "LineStore$Lines", name := "fullestDay", desc := "(II)I" } : Jvm.MethodName)) ∈ lw_tbl := in_t4 (List.mem_of_getElem? (i := 24) rfl)
set_option maxRecDepth 20000 in
theorem t_745 : (Jvm.Cond.privateMethod ({ cls := "LineStore$Lines", name := "fullestDay", desc := "(II)I" } : Jvm.MethodName)) ∈ lw_tbl := in_t4 (List.mem_of_getElem? (i := 25) rfl)
set_option maxRecDepth 20000 in
theorem t_746 : (Jvm.Cond.instanceMethod ({ cls := "LineStore$Lines", name := "fullestDay", desc := "(II)I" } : Jvm.MethodName)) ∈ lw_tbl := in_t4 (List.mem_of_getElem? (i := 26) rfl)
set_option maxRecDepth 20000 in
theorem t_747 : (Jvm.Cond.code ({ cls := "LineStore$Lines", name := "fullestDay", desc := "(II)I" } : Jvm.MethodName) prog_5_method_9_code (8 : Nat) (Option.some Jvm.ClassFile.FieldType.int)) ∈ lw_tbl := in_t4 (List.mem_of_getElem? (i := 27) rfl)
set_option maxRecDepth 20000 in
theorem t_748 : (Jvm.Cond.methodLink "LineStore$Lines" (107 : Nat) ({ cls := "java/lang/Math", name := "max", desc := "(II)I" } : Jvm.MethodName)) ∈ lw_tbl := in_t4 (List.mem_of_getElem? (i := 28) rfl)
set_option maxRecDepth 20000 in
theorem t_749 : (Jvm.Cond.methodLink "LineStore" (152 : Nat) ({ cls := "LineStore$Lines", name := "add", desc := "(LLineStore$Line;)I" } : Jvm.MethodName)) ∈ lw_tbl := in_t4 (List.mem_of_getElem? (i := 29) rfl)
set_option maxRecDepth 20000 in
theorem t_750 : (Jvm.Cond.instanceMethod ({ cls := "LineStore$Lines", name := "add", desc := "(LLineStore$Line;)I" } : Jvm.MethodName)) ∈ lw_tbl := in_t4 (List.mem_of_getElem? (i := 30) rfl)
set_option maxRecDepth 20000 in
theorem t_751 : (Jvm.Cond.selects "LineStore$Lines" ({ cls := "LineStore$Lines", name := "add", desc := "(LLineStore$Line;)I" } : Jvm.MethodName) ({ cls := "LineStore$Lines", name := "add", desc := "(LLineStore$Line;)I" } : Jvm.MethodName)) ∈ lw_tbl := in_t4 (List.mem_of_getElem? (i := 31) rfl)
set_option maxRecDepth 20000 in
theorem t_752 : (Jvm.Cond.code ({ cls := "LineStore$Lines", name := "add", desc := "(LLineStore$Line;)I" } : Jvm.MethodName) prog_5_method_4_code (2 : Nat) (Option.some Jvm.ClassFile.FieldType.int)) ∈ lw_tbl := in_t4 (List.mem_of_getElem? (i := 32) rfl)
set_option maxRecDepth 20000 in
theorem t_753 : (Jvm.Cond.methodLink "LineStore$Lines" (39 : Nat) ({ cls := "java/util/ArrayList", name := "add", desc := "(Ljava/lang/Object;)Z" } : Jvm.MethodName)) ∈ lw_tbl := in_t4 (List.mem_of_getElem? (i := 33) rfl)
set_option maxRecDepth 20000 in
theorem t_754 : (Jvm.Cond.instanceMethod ({ cls := "java/util/ArrayList", name := "add", desc := "(Ljava/lang/Object;)Z" } : Jvm.MethodName)) ∈ lw_tbl := in_t4 (List.mem_of_getElem? (i := 34) rfl)
set_option maxRecDepth 20000 in
theorem t_755 : (Jvm.Cond.selects "java/util/ArrayList" ({ cls := "java/util/ArrayList", name := "add", desc := "(Ljava/lang/Object;)Z" } : Jvm.MethodName) ({ cls := "java/util/ArrayList", name := "add", desc := "(Ljava/lang/Object;)Z" } : Jvm.MethodName)) ∈ lw_tbl := in_t4 (List.mem_of_getElem? (i := 35) rfl)
set_option maxRecDepth 20000 in
theorem t_756 : (Jvm.Cond.code ({ cls := "java/util/ArrayList", name := "add", desc := "(Ljava/lang/Object;)Z" } : Jvm.MethodName) prog_31_method_25_code (2 : Nat) (Option.some Jvm.ClassFile.FieldType.boolean)) ∈ lw_tbl := in_t4 (List.mem_of_getElem? (i := 36) rfl)
set_option maxRecDepth 20000 in
theorem t_757 : (Jvm.Cond.methodLink "java/util/ArrayList" (131 : Nat) ({ cls := "java/util/ArrayList", name := "add", desc := "(Ljava/lang/Object;[Ljava/lang/Object;I)V" } : Jvm.MethodName)) ∈ lw_tbl := in_t4 (List.mem_of_getElem? (i := 37) rfl)
set_option maxRecDepth 20000 in
theorem t_758 : (Jvm.Cond.privateMethod ({ cls := "java/util/ArrayList", name := "add", desc := "(Ljava/lang/Object;[Ljava/lang/Object;I)V" } : Jvm.MethodName)) ∈ lw_tbl := in_t4 (List.mem_of_getElem? (i := 38) rfl)
set_option maxRecDepth 20000 in
theorem t_759 : (Jvm.Cond.instanceMethod ({ cls := "java/util/ArrayList", name := "add", desc := "(Ljava/lang/Object;[Ljava/lang/Object;I)V" } : Jvm.MethodName)) ∈ lw_tbl := in_t4 (List.mem_of_getElem? (i := 39) rfl)
set_option maxRecDepth 20000 in
theorem t_760 : (Jvm.Cond.code ({ cls := "java/util/ArrayList", name := "add", desc := "(Ljava/lang/Object;[Ljava/lang/Object;I)V" } : Jvm.MethodName) prog_31_method_24_code (4 : Nat) (Option.none : Option Jvm.ClassFile.FieldType)) ∈ lw_tbl := in_t4 (List.mem_of_getElem? (i := 40) rfl)
set_option maxRecDepth 20000 in
theorem t_761 : (Jvm.Cond.methodLink "java/util/ArrayList" (129 : Nat) ({ cls := "java/util/ArrayList", name := "grow", desc := "()[Ljava/lang/Object;" } : Jvm.MethodName)) ∈ lw_tbl := in_t4 (List.mem_of_getElem? (i := 41) rfl)
set_option maxRecDepth 20000 in
theorem t_762 : (Jvm.Cond.privateMethod ({ cls := "java/util/ArrayList", name := "grow", desc := "()[Ljava/lang/Object;" } : Jvm.MethodName)) ∈ lw_tbl := in_t4 (List.mem_of_getElem? (i := 42) rfl)
set_option maxRecDepth 20000 in
theorem t_763 : (Jvm.Cond.instanceMethod ({ cls := "java/util/ArrayList", name := "grow", desc := "()[Ljava/lang/Object;" } : Jvm.MethodName)) ∈ lw_tbl := in_t4 (List.mem_of_getElem? (i := 43) rfl)
set_option maxRecDepth 20000 in
theorem t_764 : (Jvm.Cond.code ({ cls := "java/util/ArrayList", name := "grow", desc := "()[Ljava/lang/Object;" } : Jvm.MethodName) prog_31_method_7_code (1 : Nat) (Option.some (Jvm.ClassFile.FieldType.array (Jvm.ClassFile.FieldType.object "java/lang/Object")))) ∈ lw_tbl := in_t4 (List.mem_of_getElem? (i := 44) rfl)
set_option maxRecDepth 20000 in
theorem t_765 : (Jvm.Cond.methodLink "java/util/ArrayList" (69 : Nat) ({ cls := "java/util/ArrayList", name := "grow", desc := "(I)[Ljava/lang/Object;" } : Jvm.MethodName)) ∈ lw_tbl := in_t4 (List.mem_of_getElem? (i := 45) rfl)
set_option maxRecDepth 20000 in
theorem t_766 : (Jvm.Cond.privateMethod ({ cls := "java/util/ArrayList", name := "grow", desc := "(I)[Ljava/lang/Object;" } : Jvm.MethodName)) ∈ lw_tbl := in_t4 (List.mem_of_getElem? (i := 46) rfl)
set_option maxRecDepth 20000 in
theorem t_767 : (Jvm.Cond.instanceMethod ({ cls := "java/util/ArrayList", name := "grow", desc := "(I)[Ljava/lang/Object;" } : Jvm.MethodName)) ∈ lw_tbl := in_t4 (List.mem_of_getElem? (i := 47) rfl)
set_option maxRecDepth 20000 in
theorem t_768 : (Jvm.Cond.code ({ cls := "java/util/ArrayList", name := "grow", desc := "(I)[Ljava/lang/Object;" } : Jvm.MethodName) prog_31_method_6_code (4 : Nat) (Option.some (Jvm.ClassFile.FieldType.array (Jvm.ClassFile.FieldType.object "java/lang/Object")))) ∈ lw_tbl := in_t4 (List.mem_of_getElem? (i := 48) rfl)
set_option maxRecDepth 20000 in
theorem t_769 : (Jvm.Cond.methodLink "java/util/ArrayList" (73 : Nat) ({ cls := "jdk/internal/util/ArraysSupport", name := "newLength", desc := "(III)I" } : Jvm.MethodName)) ∈ lw_tbl := in_t4 (List.mem_of_getElem? (i := 49) rfl)
set_option maxRecDepth 20000 in
theorem t_770 : (Jvm.Cond.static ({ cls := "jdk/internal/util/ArraysSupport", name := "newLength", desc := "(III)I" } : Jvm.MethodName)) ∈ lw_tbl := in_t4 (List.mem_of_getElem? (i := 50) rfl)
set_option maxRecDepth 20000 in
theorem t_771 : (Jvm.Cond.code ({ cls := "jdk/internal/util/ArraysSupport", name := "newLength", desc := "(III)I" } : Jvm.MethodName) prog_39_method_27_code (4 : Nat) (Option.some Jvm.ClassFile.FieldType.int)) ∈ lw_tbl := in_t4 (List.mem_of_getElem? (i := 51) rfl)
set_option maxRecDepth 20000 in
theorem t_772 : (Jvm.Cond.methodLink "jdk/internal/util/ArraysSupport" (194 : Nat) ({ cls := "java/lang/Math", name := "max", desc := "(II)I" } : Jvm.MethodName)) ∈ lw_tbl := in_t4 (List.mem_of_getElem? (i := 52) rfl)
set_option maxRecDepth 20000 in
theorem t_773 : (Jvm.Cond.constant "jdk/internal/util/ArraysSupport" (200 : Nat) (2147483639 : Int32)) ∈ lw_tbl := in_t4 (List.mem_of_getElem? (i := 53) rfl)
set_option maxRecDepth 20000 in
theorem t_774 : (Jvm.Cond.methodLink "jdk/internal/util/ArraysSupport" (201 : Nat) ({ cls := "jdk/internal/util/ArraysSupport", name := "hugeLength", desc := "(II)I" } : Jvm.MethodName)) ∈ lw_tbl := in_t4 (List.mem_of_getElem? (i := 54) rfl)
set_option maxRecDepth 20000 in
theorem t_775 : (Jvm.Cond.static ({ cls := "jdk/internal/util/ArraysSupport", name := "hugeLength", desc := "(II)I" } : Jvm.MethodName)) ∈ lw_tbl := in_t4 (List.mem_of_getElem? (i := 55) rfl)
set_option maxRecDepth 20000 in
theorem t_776 : (Jvm.Cond.code ({ cls := "jdk/internal/util/ArraysSupport", name := "hugeLength", desc := "(II)I" } : Jvm.MethodName) prog_39_method_28_code (3 : Nat) (Option.some Jvm.ClassFile.FieldType.int)) ∈ lw_tbl := in_t4 (List.mem_of_getElem? (i := 56) rfl)
set_option maxRecDepth 20000 in
theorem t_777 : (Jvm.Cond.methodLink "java/util/ArrayList" (66 : Nat) ({ cls := "java/util/Arrays", name := "copyOf", desc := "([Ljava/lang/Object;I)[Ljava/lang/Object;" } : Jvm.MethodName)) ∈ lw_tbl := in_t4 (List.mem_of_getElem? (i := 57) rfl)
set_option maxRecDepth 20000 in
theorem t_778 : (Jvm.Cond.static ({ cls := "java/util/Arrays", name := "copyOf", desc := "([Ljava/lang/Object;I)[Ljava/lang/Object;" } : Jvm.MethodName)) ∈ lw_tbl := in_t4 (List.mem_of_getElem? (i := 58) rfl)
set_option maxRecDepth 20000 in
theorem t_779 : (Jvm.Cond.code ({ cls := "java/util/Arrays", name := "copyOf", desc := "([Ljava/lang/Object;I)[Ljava/lang/Object;" } : Jvm.MethodName) prog_32_method_119_code (2 : Nat) (Option.some (Jvm.ClassFile.FieldType.array (Jvm.ClassFile.FieldType.object "java/lang/Object")))) ∈ lw_tbl := in_t4 (List.mem_of_getElem? (i := 59) rfl)
set_option maxRecDepth 20000 in
theorem t_780 : (Jvm.Cond.methodLink "java/util/Arrays" (86 : Nat) ({ cls := "java/lang/Object", name := "getClass", desc := "()Ljava/lang/Class;" } : Jvm.MethodName)) ∈ lw_tbl := in_t4 (List.mem_of_getElem? (i := 60) rfl)
set_option maxRecDepth 20000 in
theorem t_781 : (Jvm.Cond.instanceMethod ({ cls := "java/lang/Object", name := "getClass", desc := "()Ljava/lang/Class;" } : Jvm.MethodName)) ∈ lw_tbl := in_t4 (List.mem_of_getElem? (i := 61) rfl)
set_option maxRecDepth 20000 in
theorem t_782 : (Jvm.Cond.sameMethod "java/lang/Object" "java/lang/Object" "getClass" "()Ljava/lang/Class;") ∈ lw_tbl := in_t4 (List.mem_of_getElem? (i := 62) rfl)
set_option maxRecDepth 20000 in
theorem t_783 : (Jvm.Cond.selects "LineStore" ({ cls := "java/lang/Object", name := "getClass", desc := "()Ljava/lang/Class;" } : Jvm.MethodName) ({ cls := "java/lang/Object", name := "getClass", desc := "()Ljava/lang/Class;" } : Jvm.MethodName)) ∈ lw_tbl := in_t4 (List.mem_of_getElem? (i := 63) rfl)
set_option maxRecDepth 20000 in
theorem t_784 : (Jvm.Cond.selects "LineStore$Ends" ({ cls := "java/lang/Object", name := "getClass", desc := "()Ljava/lang/Class;" } : Jvm.MethodName) ({ cls := "java/lang/Object", name := "getClass", desc := "()Ljava/lang/Class;" } : Jvm.MethodName)) ∈ lw_tbl := in_t4 (List.mem_of_getElem? (i := 64) rfl)
set_option maxRecDepth 20000 in
theorem t_785 : (Jvm.Cond.selects "LineStore$Laws" ({ cls := "java/lang/Object", name := "getClass", desc := "()Ljava/lang/Class;" } : Jvm.MethodName) ({ cls := "java/lang/Object", name := "getClass", desc := "()Ljava/lang/Class;" } : Jvm.MethodName)) ∈ lw_tbl := in_t4 (List.mem_of_getElem? (i := 65) rfl)
set_option maxRecDepth 20000 in
theorem t_786 : (Jvm.Cond.selects "LineStore$Line" ({ cls := "java/lang/Object", name := "getClass", desc := "()Ljava/lang/Class;" } : Jvm.MethodName) ({ cls := "java/lang/Object", name := "getClass", desc := "()Ljava/lang/Class;" } : Jvm.MethodName)) ∈ lw_tbl := in_t4 (List.mem_of_getElem? (i := 66) rfl)
set_option maxRecDepth 20000 in
theorem t_787 : (Jvm.Cond.selects "LineStore$Lines" ({ cls := "java/lang/Object", name := "getClass", desc := "()Ljava/lang/Class;" } : Jvm.MethodName) ({ cls := "java/lang/Object", name := "getClass", desc := "()Ljava/lang/Class;" } : Jvm.MethodName)) ∈ lw_tbl := in_t4 (List.mem_of_getElem? (i := 67) rfl)
set_option maxRecDepth 20000 in
theorem t_788 : (Jvm.Cond.selects "LineStore$Matcher" ({ cls := "java/lang/Object", name := "getClass", desc := "()Ljava/lang/Class;" } : Jvm.MethodName) ({ cls := "java/lang/Object", name := "getClass", desc := "()Ljava/lang/Class;" } : Jvm.MethodName)) ∈ lw_tbl := in_t4 (List.mem_of_getElem? (i := 68) rfl)
set_option maxRecDepth 20000 in
theorem t_789 : (Jvm.Cond.selects "LineStore$Ones" ({ cls := "java/lang/Object", name := "getClass", desc := "()Ljava/lang/Class;" } : Jvm.MethodName) ({ cls := "java/lang/Object", name := "getClass", desc := "()Ljava/lang/Class;" } : Jvm.MethodName)) ∈ lw_tbl := in_t4 (List.mem_of_getElem? (i := 69) rfl)
set_option maxRecDepth 20000 in
theorem t_790 : (Jvm.Cond.selects "LineStore$Question" ({ cls := "java/lang/Object", name := "getClass", desc := "()Ljava/lang/Class;" } : Jvm.MethodName) ({ cls := "java/lang/Object", name := "getClass", desc := "()Ljava/lang/Class;" } : Jvm.MethodName)) ∈ lw_tbl := in_t4 (List.mem_of_getElem? (i := 70) rfl)
set_option maxRecDepth 20000 in
theorem t_791 : (Jvm.Cond.selects "LineStore$Reader" ({ cls := "java/lang/Object", name := "getClass", desc := "()Ljava/lang/Class;" } : Jvm.MethodName) ({ cls := "java/lang/Object", name := "getClass", desc := "()Ljava/lang/Class;" } : Jvm.MethodName)) ∈ lw_tbl := in_t4 (List.mem_of_getElem? (i := 71) rfl)
set_option maxRecDepth 20000 in
theorem t_792 : (Jvm.Cond.selects "LineStore$Tape" ({ cls := "java/lang/Object", name := "getClass", desc := "()Ljava/lang/Class;" } : Jvm.MethodName) ({ cls := "java/lang/Object", name := "getClass", desc := "()Ljava/lang/Class;" } : Jvm.MethodName)) ∈ lw_tbl := in_t4 (List.mem_of_getElem? (i := 72) rfl)
set_option maxRecDepth 20000 in
theorem t_793 : (Jvm.Cond.selects "LineStoreModel" ({ cls := "java/lang/Object", name := "getClass", desc := "()Ljava/lang/Class;" } : Jvm.MethodName) ({ cls := "java/lang/Object", name := "getClass", desc := "()Ljava/lang/Class;" } : Jvm.MethodName)) ∈ lw_tbl := in_t4 (List.mem_of_getElem? (i := 73) rfl)
set_option maxRecDepth 20000 in
theorem t_794 : (Jvm.Cond.selects "java/lang/IllegalArgumentException" ({ cls := "java/lang/Object", name := "getClass", desc := "()Ljava/lang/Class;" } : Jvm.MethodName) ({ cls := "java/lang/Object", name := "getClass", desc := "()Ljava/lang/Class;" } : Jvm.MethodName)) ∈ lw_tbl := in_t4 (List.mem_of_getElem? (i := 74) rfl)
set_option maxRecDepth 20000 in
theorem t_795 : (Jvm.Cond.selects "java/lang/IndexOutOfBoundsException" ({ cls := "java/lang/Object", name := "getClass", desc := "()Ljava/lang/Class;" } : Jvm.MethodName) ({ cls := "java/lang/Object", name := "getClass", desc := "()Ljava/lang/Class;" } : Jvm.MethodName)) ∈ lw_tbl := in_t4 (List.mem_of_getElem? (i := 75) rfl)
set_option maxRecDepth 20000 in
theorem t_796 : (Jvm.Cond.selects "java/lang/UnsupportedOperationException" ({ cls := "java/lang/Object", name := "getClass", desc := "()Ljava/lang/Class;" } : Jvm.MethodName) ({ cls := "java/lang/Object", name := "getClass", desc := "()Ljava/lang/Class;" } : Jvm.MethodName)) ∈ lw_tbl := in_t4 (List.mem_of_getElem? (i := 76) rfl)
set_option maxRecDepth 20000 in
theorem t_797 : (Jvm.Cond.selects "java/util/ArrayList" ({ cls := "java/lang/Object", name := "getClass", desc := "()Ljava/lang/Class;" } : Jvm.MethodName) ({ cls := "java/lang/Object", name := "getClass", desc := "()Ljava/lang/Class;" } : Jvm.MethodName)) ∈ lw_tbl := in_t4 (List.mem_of_getElem? (i := 77) rfl)
set_option maxRecDepth 20000 in
theorem t_798 : (Jvm.Cond.selects "java/util/NoSuchElementException" ({ cls := "java/lang/Object", name := "getClass", desc := "()Ljava/lang/Class;" } : Jvm.MethodName) ({ cls := "java/lang/Object", name := "getClass", desc := "()Ljava/lang/Class;" } : Jvm.MethodName)) ∈ lw_tbl := in_t4 (List.mem_of_getElem? (i := 78) rfl)
set_option maxRecDepth 20000 in
theorem t_799 : (Jvm.Cond.native ({ cls := "java/lang/Object", name := "getClass", desc := "()Ljava/lang/Class;" } : Jvm.MethodName)) ∈ lw_tbl := in_t4 (List.mem_of_getElem? (i := 79) rfl)
set_option maxRecDepth 20000 in
theorem t_800 : (Jvm.Cond.methodLink "java/util/Arrays" (300 : Nat) ({ cls := "java/util/Arrays", name := "copyOf", desc := "([Ljava/lang/Object;ILjava/lang/Class;)[Ljava/lang/Object;" } : Jvm.MethodName)) ∈ lw_tbl := in_t4 (List.mem_of_getElem? (i := 80) rfl)
set_option maxRecDepth 20000 in
theorem t_801 : (Jvm.Cond.static ({ cls := "java/util/Arrays", name := "copyOf", desc := "([Ljava/lang/Object;ILjava/lang/Class;)[Ljava/lang/Object;" } : Jvm.MethodName)) ∈ lw_tbl := in_t4 (List.mem_of_getElem? (i := 81) rfl)
set_option maxRecDepth 20000 in
theorem t_802 : (Jvm.Cond.code ({ cls := "java/util/Arrays", name := "copyOf", desc := "([Ljava/lang/Object;ILjava/lang/Class;)[Ljava/lang/Object;" } : Jvm.MethodName) prog_32_method_120_code (4 : Nat) (Option.some (Jvm.ClassFile.FieldType.array (Jvm.ClassFile.FieldType.object "java/lang/Object")))) ∈ lw_tbl := in_t4 (List.mem_of_getElem? (i := 82) rfl)
set_option maxRecDepth 20000 in
theorem t_803 : (Jvm.Cond.classLink "java/util/Arrays" (110 : Nat) "[Ljava/lang/Object;") ∈ lw_tbl := in_t4 (List.mem_of_getElem? (i := 83) rfl)
set_option maxRecDepth 20000 in
theorem t_804 : (Jvm.Cond.arrayOver (Jvm.ClassFile.FieldType.object "java/lang/Object")) ∈ lw_tbl := in_t4 (List.mem_of_getElem? (i := 84) rfl)
set_option maxRecDepth 20000 in
theorem t_805 : (Jvm.Cond.classLink "java/util/Arrays" (2 : Nat) "java/lang/Object") ∈ lw_tbl := in_t4 (List.mem_of_getElem? (i := 85) rfl)
set_option maxRecDepth 20000 in
theorem t_806 : (Jvm.Cond.methodLink "java/util/Arrays" (304 : Nat) ({ cls := "java/lang/Math", name := "min", desc := "(II)I" } : Jvm.MethodName)) ∈ lw_tbl := in_t4 (List.mem_of_getElem? (i := 86) rfl)
set_option maxRecDepth 20000 in
theorem t_807 : (Jvm.Cond.methodLink "java/util/Arrays" (150 : Nat) ({ cls := "java/lang/System", name := "arraycopy", desc := "(Ljava/lang/Object;ILjava/lang/Object;II)V" } : Jvm.MethodName)) ∈ lw_tbl := in_t4 (List.mem_of_getElem? (i := 87) rfl)
set_option maxRecDepth 20000 in
theorem t_808 : (Jvm.Cond.methodLink "java/util/ArrayList" (79 : Nat) ({ cls := "java/lang/Math", name := "max", desc := "(II)I" } : Jvm.MethodName)) ∈ lw_tbl := in_t4 (List.mem_of_getElem? (i := 88) rfl)
set_option maxRecDepth 20000 in
theorem t_809 : (Jvm.Cond.classLink "java/util/ArrayList" (7 : Nat) "java/lang/Object") ∈ lw_tbl := in_t4 (List.mem_of_getElem? (i := 89) rfl)
set_option maxRecDepth 20000 in
theorem t_810 : (Jvm.Cond.methodLink "LineStoreLaw" (105 : Nat) ({ cls := "LineStoreLaw", name := "strike", desc := "(LLineStore;II[J)I" } : Jvm.MethodName)) ∈ lw_tbl := in_t4 (List.mem_of_getElem? (i := 90) rfl)
set_option maxRecDepth 20000 in
theorem t_811 : (Jvm.Cond.static ({ cls := "LineStoreLaw", name := "strike", desc := "(LLineStore;II[J)I" } : Jvm.MethodName)) ∈ lw_tbl := in_t4 (List.mem_of_getElem? (i := 91) rfl)
set_option maxRecDepth 20000 in
theorem t_812 : (Jvm.Cond.codeWith ({ cls := "LineStoreLaw", name := "strike", desc := "(LLineStore;II[J)I" } : Jvm.MethodName) method_8_code (5 : Nat) (Option.some Jvm.ClassFile.FieldType.int) [((0 : Nat), (10 : Nat), (13 : Nat), (13 : Nat))]) ∈ lw_tbl := in_t4 (List.mem_of_getElem? (i := 92) rfl)
set_option maxRecDepth 20000 in
theorem t_813 : (Jvm.Cond.methodLink "LineStoreLaw" (35 : Nat) ({ cls := "LineStore", name := "strike", desc := "(II)I" } : Jvm.MethodName)) ∈ lw_tbl := in_t4 (List.mem_of_getElem? (i := 93) rfl)
set_option maxRecDepth 20000 in
theorem t_814 : (Jvm.Cond.instanceMethod ({ cls := "LineStore", name := "strike", desc := "(II)I" } : Jvm.MethodName)) ∈ lw_tbl := in_t4 (List.mem_of_getElem? (i := 94) rfl)
set_option maxRecDepth 20000 in
theorem t_815 : (Jvm.Cond.selects "LineStore" ({ cls := "LineStore", name := "strike", desc := "(II)I" } : Jvm.MethodName) ({ cls := "LineStore", name := "strike", desc := "(II)I" } : Jvm.MethodName)) ∈ lw_tbl := in_t4 (List.mem_of_getElem? (i := 95) rfl)
set_option maxRecDepth 20000 in
theorem t_816 : (Jvm.Cond.code ({ cls := "LineStore", name := "strike", desc := "(II)I" } : Jvm.MethodName) prog_1_method_9_code (3 : Nat) (Option.some Jvm.ClassFile.FieldType.int)) ∈ lw_tbl := in_t4 (List.mem_of_getElem? (i := 96) rfl)
set_option maxRecDepth 20000 in
theorem t_817 : (Jvm.Cond.methodLink "LineStore" (154 : Nat) ({ cls := "LineStore$Lines", name := "strikeFrom", desc := "(IILLineStore$Laws;)I" } : Jvm.MethodName)) ∈ lw_tbl := in_t4 (List.mem_of_getElem? (i := 97) rfl)
set_option maxRecDepth 20000 in
theorem t_818 : (Jvm.Cond.instanceMethod ({ cls := "LineStore$Lines", name := "strikeFrom", desc := "(IILLineStore$Laws;)I" } : Jvm.MethodName)) ∈ lw_tbl := in_t4 (List.mem_of_getElem? (i := 98) rfl)
set_option maxRecDepth 20000 in
theorem t_819 : (Jvm.Cond.selects "LineStore$Lines" ({ cls := "LineStore$Lines", name := "strikeFrom", desc := "(IILLineStore$Laws;)I" } : Jvm.MethodName) ({ cls := "LineStore$Lines", name := "strikeFrom", desc := "(IILLineStore$Laws;)I" } : Jvm.MethodName)) ∈ lw_tbl := in_t4 (List.mem_of_getElem? (i := 99) rfl)
set_option maxRecDepth 20000 in
theorem t_820 : (Jvm.Cond.code ({ cls := "LineStore$Lines", name := "strikeFrom", desc := "(IILLineStore$Laws;)I" } : Jvm.MethodName) prog_5_method_10_code (7 : Nat) (Option.some Jvm.ClassFile.FieldType.int)) ∈ lw_tbl := in_t4 (List.mem_of_getElem? (i := 100) rfl)
set_option maxRecDepth 20000 in
theorem t_821 : (Jvm.Cond.methodLink "LineStore$Lines" (112 : Nat) ({ cls := "LineStore$Line", name := "isInForce", desc := "(I)Z" } : Jvm.MethodName)) ∈ lw_tbl := in_t4 (List.mem_of_getElem? (i := 101) rfl)
set_option maxRecDepth 20000 in
theorem t_822 : (Jvm.Cond.methodLink "LineStore$Lines" (115 : Nat) ({ cls := "LineStore$Lines", name := "markStruck", desc := "(IILLineStore$Laws;)Z" } : Jvm.MethodName)) ∈ lw_tbl := in_t4 (List.mem_of_getElem? (i := 102) rfl)
set_option maxRecDepth 20000 in
theorem t_823 : (Jvm.Cond.privateMethod ({ cls := "LineStore$Lines", name := "markStruck", desc := "(IILLineStore$Laws;)Z" } : Jvm.MethodName)) ∈ lw_tbl := in_t4 (List.mem_of_getElem? (i := 103) rfl)
set_option maxRecDepth 20000 in
theorem t_824 : (Jvm.Cond.instanceMethod ({ cls := "LineStore$Lines", name := "markStruck", desc := "(IILLineStore$Laws;)Z" } : Jvm.MethodName)) ∈ lw_tbl := in_t4 (List.mem_of_getElem? (i := 104) rfl)
set_option maxRecDepth 20000 in
theorem t_825 : (Jvm.Cond.code ({ cls := "LineStore$Lines", name := "markStruck", desc := "(IILLineStore$Laws;)Z" } : Jvm.MethodName) prog_5_method_11_code (8 : Nat) (Option.some Jvm.ClassFile.FieldType.boolean)) ∈ lw_tbl := in_t4 (List.mem_of_getElem? (i := 105) rfl)
set_option maxRecDepth 20000 in
theorem t_826 : (Jvm.Cond.methodLink "LineStore$Lines" (119 : Nat) ({ cls := "LineStore$Line", name := "isInForceOnOrAfter", desc := "(I)Z" } : Jvm.MethodName)) ∈ lw_tbl := in_t4 (List.mem_of_getElem? (i := 106) rfl)
set_option maxRecDepth 20000 in
theorem t_827 : (Jvm.Cond.instanceMethod ({ cls := "LineStore$Line", name := "isInForceOnOrAfter", desc := "(I)Z" } : Jvm.MethodName)) ∈ lw_tbl := in_t4 (List.mem_of_getElem? (i := 107) rfl)
set_option maxRecDepth 20000 in
theorem t_828 : (Jvm.Cond.selects "LineStore$Line" ({ cls := "LineStore$Line", name := "isInForceOnOrAfter", desc := "(I)Z" } : Jvm.MethodName) ({ cls := "LineStore$Line", name := "isInForceOnOrAfter", desc := "(I)Z" } : Jvm.MethodName)) ∈ lw_tbl := in_t4 (List.mem_of_getElem? (i := 108) rfl)
set_option maxRecDepth 20000 in
theorem t_829 : (Jvm.Cond.code ({ cls := "LineStore$Line", name := "isInForceOnOrAfter", desc := "(I)Z" } : Jvm.MethodName) prog_4_method_3_code (2 : Nat) (Option.some Jvm.ClassFile.FieldType.boolean)) ∈ lw_tbl := in_t4 (List.mem_of_getElem? (i := 109) rfl)
set_option maxRecDepth 20000 in
theorem t_830 : (Jvm.Cond.methodLink "LineStore$Lines" (122 : Nat) ({ cls := "LineStore$Laws", name := "isHolding", desc := "(I)Z" } : Jvm.MethodName)) ∈ lw_tbl := in_t4 (List.mem_of_getElem? (i := 110) rfl)
set_option maxRecDepth 20000 in
theorem t_831 : (Jvm.Cond.instanceMethod ({ cls := "LineStore$Laws", name := "isHolding", desc := "(I)Z" } : Jvm.MethodName)) ∈ lw_tbl := in_t4 (List.mem_of_getElem? (i := 111) rfl)
set_option maxRecDepth 20000 in
theorem t_832 : (Jvm.Cond.selects "LineStore$Laws" ({ cls := "LineStore$Laws", name := "isHolding", desc := "(I)Z" } : Jvm.MethodName) ({ cls := "LineStore$Laws", name := "isHolding", desc := "(I)Z" } : Jvm.MethodName)) ∈ lw_tbl := in_t4 (List.mem_of_getElem? (i := 112) rfl)
set_option maxRecDepth 20000 in
theorem t_833 : (Jvm.Cond.code ({ cls := "LineStore$Laws", name := "isHolding", desc := "(I)Z" } : Jvm.MethodName) prog_3_method_5_code (2 : Nat) (Option.some Jvm.ClassFile.FieldType.boolean)) ∈ lw_tbl := in_t4 (List.mem_of_getElem? (i := 113) rfl)
set_option maxRecDepth 20000 in
theorem t_834 : (Jvm.Cond.methodLink "LineStoreLaw" (109 : Nat) ({ cls := "LineStoreLaw", name := "one", desc := "(LLineStore;II[J)I" } : Jvm.MethodName)) ∈ lw_tbl := in_t4 (List.mem_of_getElem? (i := 114) rfl)
set_option maxRecDepth 20000 in
theorem t_835 : (Jvm.Cond.static ({ cls := "LineStoreLaw", name := "one", desc := "(LLineStore;II[J)I" } : Jvm.MethodName)) ∈ lw_tbl := in_t4 (List.mem_of_getElem? (i := 115) rfl)
set_option maxRecDepth 20000 in
theorem t_836 : (Jvm.Cond.codeWith ({ cls := "LineStoreLaw", name := "one", desc := "(LLineStore;II[J)I" } : Jvm.MethodName) method_9_code (5 : Nat) (Option.some Jvm.ClassFile.FieldType.int) [((0 : Nat), (17 : Nat), (20 : Nat), (13 : Nat))]) ∈ lw_tbl := in_t4 (List.mem_of_getElem? (i := 116) rfl)
set_option maxRecDepth 20000 in
theorem t_837 : (Jvm.Cond.methodLink "LineStoreLaw" (39 : Nat) ({ cls := "LineStore", name := "one", desc := "(II)Z" } : Jvm.MethodName)) ∈ lw_tbl := in_t4 (List.mem_of_getElem? (i := 117) rfl)
set_option maxRecDepth 20000 in
theorem t_838 : (Jvm.Cond.instanceMethod ({ cls := "LineStore", name := "one", desc := "(II)Z" } : Jvm.MethodName)) ∈ lw_tbl := in_t4 (List.mem_of_getElem? (i := 118) rfl)
set_option maxRecDepth 20000 in
theorem t_839 : (Jvm.Cond.selects "LineStore" ({ cls := "LineStore", name := "one", desc := "(II)Z" } : Jvm.MethodName) ({ cls := "LineStore", name := "one", desc := "(II)Z" } : Jvm.MethodName)) ∈ lw_tbl := in_t4 (List.mem_of_getElem? (i := 119) rfl)
set_option maxRecDepth 20000 in
theorem t_840 : (Jvm.Cond.code ({ cls := "LineStore", name := "one", desc := "(II)Z" } : Jvm.MethodName) prog_1_method_10_code (3 : Nat) (Option.some Jvm.ClassFile.FieldType.boolean)) ∈ lw_tbl := in_t4 (List.mem_of_getElem? (i := 120) rfl)
set_option maxRecDepth 20000 in
theorem t_841 : (Jvm.Cond.methodLink "LineStore" (158 : Nat) ({ cls := "LineStore$Ones", name := "join", desc := "(II)Z" } : Jvm.MethodName)) ∈ lw_tbl := in_t4 (List.mem_of_getElem? (i := 121) rfl)
set_option maxRecDepth 20000 in
theorem t_842 : (Jvm.Cond.instanceMethod ({ cls := "LineStore$Ones", name := "join", desc := "(II)Z" } : Jvm.MethodName)) ∈ lw_tbl := in_t4 (List.mem_of_getElem? (i := 122) rfl)
set_option maxRecDepth 20000 in
theorem t_843 : (Jvm.Cond.selects "LineStore$Ones" ({ cls := "LineStore$Ones", name := "join", desc := "(II)Z" } : Jvm.MethodName) ({ cls := "LineStore$Ones", name := "join", desc := "(II)Z" } : Jvm.MethodName)) ∈ lw_tbl := in_t4 (List.mem_of_getElem? (i := 123) rfl)
set_option maxRecDepth 20000 in
theorem t_844 : (Jvm.Cond.code ({ cls := "LineStore$Ones", name := "join", desc := "(II)Z" } : Jvm.MethodName) prog_7_method_4_code (5 : Nat) (Option.some Jvm.ClassFile.FieldType.boolean)) ∈ lw_tbl := in_t4 (List.mem_of_getElem? (i := 124) rfl)
set_option maxRecDepth 20000 in
theorem t_845 : (Jvm.Cond.methodLink "LineStore$Ones" (25 : Nat) ({ cls := "java/lang/Math", name := "min", desc := "(II)I" } : Jvm.MethodName)) ∈ lw_tbl := in_t4 (List.mem_of_getElem? (i := 125) rfl)
set_option maxRecDepth 20000 in
theorem t_846 : (Jvm.Cond.methodLink "LineStore$Ones" (31 : Nat) ({ cls := "java/lang/Math", name := "max", desc := "(II)I" } : Jvm.MethodName)) ∈ lw_tbl := in_t4 (List.mem_of_getElem? (i := 126) rfl)
set_option maxRecDepth 20000 in
theorem t_847 : (Jvm.Cond.methodLink "LineStoreLaw" (117 : Nat) ({ cls := "LineStoreLaw", name := "as", desc := "(LLineStore;I[J)I" } : Jvm.MethodName)) ∈ lw_tbl := in_t4 (List.mem_of_getElem? (i := 127) rfl)
set_option maxRecDepth 20000 in
theorem t_848 : (Jvm.Cond.static ({ cls := "LineStoreLaw", name := "as", desc := "(LLineStore;I[J)I" } : Jvm.MethodName)) ∈ lw_tbl := in_t4 (List.mem_of_getElem? (i := 128) rfl)
set_option maxRecDepth 20000 in
theorem t_849 : (Jvm.Cond.codeWith ({ cls := "LineStoreLaw", name := "as", desc := "(LLineStore;I[J)I" } : Jvm.MethodName) method_10_code (4 : Nat) (Option.some Jvm.ClassFile.FieldType.int) [((0 : Nat), (9 : Nat), (12 : Nat), (13 : Nat))]) ∈ lw_tbl := in_t4 (List.mem_of_getElem? (i := 129) rfl)
set_option maxRecDepth 20000 in
theorem t_850 : (Jvm.Cond.methodLink "LineStoreLaw" (43 : Nat) ({ cls := "LineStore", name := "as", desc := "(I)I" } : Jvm.MethodName)) ∈ lw_tbl := in_t4 (List.mem_of_getElem? (i := 130) rfl)
set_option maxRecDepth 20000 in
theorem t_851 : (Jvm.Cond.instanceMethod ({ cls := "LineStore", name := "as", desc := "(I)I" } : Jvm.MethodName)) ∈ lw_tbl := in_t4 (List.mem_of_getElem? (i := 131) rfl)
set_option maxRecDepth 20000 in
theorem t_852 : (Jvm.Cond.selects "LineStore" ({ cls := "LineStore", name := "as", desc := "(I)I" } : Jvm.MethodName) ({ cls := "LineStore", name := "as", desc := "(I)I" } : Jvm.MethodName)) ∈ lw_tbl := in_t4 (List.mem_of_getElem? (i := 132) rfl)
set_option maxRecDepth 20000 in
theorem t_853 : (Jvm.Cond.code ({ cls := "LineStore", name := "as", desc := "(I)I" } : Jvm.MethodName) prog_1_method_12_code (2 : Nat) (Option.some Jvm.ClassFile.FieldType.int)) ∈ lw_tbl := in_t4 (List.mem_of_getElem? (i := 133) rfl)
set_option maxRecDepth 20000 in
theorem t_854 : (Jvm.Cond.methodLink "LineStore" (166 : Nat) ({ cls := "LineStore$Ones", name := "of", desc := "(I)I" } : Jvm.MethodName)) ∈ lw_tbl := in_t4 (List.mem_of_getElem? (i := 134) rfl)
set_option maxRecDepth 20000 in
theorem t_855 : (Jvm.Cond.methodLink "LineStoreLaw" (121 : Nat) ({ cls := "LineStoreLaw", name := "look", desc := "(LLineStore;II[J)I" } : Jvm.MethodName)) ∈ lw_tbl := in_t4 (List.mem_of_getElem? (i := 135) rfl)
set_option maxRecDepth 20000 in
theorem t_856 : (Jvm.Cond.static ({ cls := "LineStoreLaw", name := "look", desc := "(LLineStore;II[J)I" } : Jvm.MethodName)) ∈ lw_tbl := in_t4 (List.mem_of_getElem? (i := 136) rfl)
set_option maxRecDepth 20000 in
theorem t_857 : (Jvm.Cond.codeWith ({ cls := "LineStoreLaw", name := "look", desc := "(LLineStore;II[J)I" } : Jvm.MethodName) method_11_code (5 : Nat) (Option.some Jvm.ClassFile.FieldType.int) [((0 : Nat), (10 : Nat), (13 : Nat), (13 : Nat)), ((0 : Nat), (10 : Nat), (17 : Nat), (50 : Nat))]) ∈ lw_tbl := in_t4 (List.mem_of_getElem? (i := 137) rfl)
set_option maxRecDepth 20000 in
theorem t_858 : (Jvm.Cond.classLink "LineStoreLaw" (50 : Nat) "java/util/NoSuchElementException") ∈ lw_tbl := in_t4 (List.mem_of_getElem? (i := 138) rfl)
set_option maxRecDepth 20000 in
theorem t_859 : (Jvm.Cond.methodLink "LineStoreLaw" (47 : Nat) ({ cls := "LineStore", name := "look", desc := "(II)I" } : Jvm.MethodName)) ∈ lw_tbl := in_t4 (List.mem_of_getElem? (i := 139) rfl)
set_option maxRecDepth 20000 in
theorem t_860 : (Jvm.Cond.instanceMethod ({ cls := "LineStore", name := "look", desc := "(II)I" } : Jvm.MethodName)) ∈ lw_tbl := in_t4 (List.mem_of_getElem? (i := 140) rfl)
set_option maxRecDepth 20000 in
theorem t_861 : (Jvm.Cond.selects "LineStore" ({ cls := "LineStore", name := "look", desc := "(II)I" } : Jvm.MethodName) ({ cls := "LineStore", name := "look", desc := "(II)I" } : Jvm.MethodName)) ∈ lw_tbl := in_t4 (List.mem_of_getElem? (i := 141) rfl)
set_option maxRecDepth 20000 in
theorem t_862 : (Jvm.Cond.code ({ cls := "LineStore", name := "look", desc := "(II)I" } : Jvm.MethodName) prog_1_method_13_code (4 : Nat) (Option.some Jvm.ClassFile.FieldType.int)) ∈ lw_tbl := in_t4 (List.mem_of_getElem? (i := 142) rfl)
set_option maxRecDepth 20000 in
theorem t_863 : (Jvm.Cond.methodLink "LineStore" (170 : Nat) ({ cls := "LineStore$Lines", name := "get", desc := "(I)LLineStore$Line;" } : Jvm.MethodName)) ∈ lw_tbl := in_t4 (List.mem_of_getElem? (i := 143) rfl)
set_option maxRecDepth 20000 in
theorem t_864 : (Jvm.Cond.methodLink "LineStore" (186 : Nat) ({ cls := "LineStore$Lines", name := "hangingOn", desc := "(I)I" } : Jvm.MethodName)) ∈ lw_tbl := in_t4 (List.mem_of_getElem? (i := 144) rfl)
set_option maxRecDepth 20000 in
theorem t_865 : (Jvm.Cond.instanceMethod ({ cls := "LineStore$Lines", name := "hangingOn", desc := "(I)I" } : Jvm.MethodName)) ∈ lw_tbl := in_t4 (List.mem_of_getElem? (i := 145) rfl)
set_option maxRecDepth 20000 in
theorem t_866 : (Jvm.Cond.selects "LineStore$Lines" ({ cls := "LineStore$Lines", name := "hangingOn", desc := "(I)I" } : Jvm.MethodName) ({ cls := "LineStore$Lines", name := "hangingOn", desc := "(I)I" } : Jvm.MethodName)) ∈ lw_tbl := in_t4 (List.mem_of_getElem? (i := 146) rfl)
set_option maxRecDepth 20000 in
theorem t_867 : (Jvm.Cond.code ({ cls := "LineStore$Lines", name := "hangingOn", desc := "(I)I" } : Jvm.MethodName) prog_5_method_5_code (4 : Nat) (Option.some Jvm.ClassFile.FieldType.int)) ∈ lw_tbl := in_t4 (List.mem_of_getElem? (i := 147) rfl)
set_option maxRecDepth 20000 in
theorem t_868 : (Jvm.Cond.methodLink "LineStore$Lines" (47 : Nat) ({ cls := "LineStore$Ends", name := "hasLine", desc := "(I)Z" } : Jvm.MethodName)) ∈ lw_tbl := in_t4 (List.mem_of_getElem? (i := 148) rfl)
set_option maxRecDepth 20000 in
theorem t_869 : (Jvm.Cond.instanceMethod ({ cls := "LineStore$Ends", name := "hasLine", desc := "(I)Z" } : Jvm.MethodName)) ∈ lw_tbl := in_t4 (List.mem_of_getElem? (i := 149) rfl)
set_option maxRecDepth 20000 in
theorem t_870 : (Jvm.Cond.selects "LineStore$Ends" ({ cls := "LineStore$Ends", name := "hasLine", desc := "(I)Z" } : Jvm.MethodName) ({ cls := "LineStore$Ends", name := "hasLine", desc := "(I)Z" } : Jvm.MethodName)) ∈ lw_tbl := in_t4 (List.mem_of_getElem? (i := 150) rfl)
set_option maxRecDepth 20000 in
theorem t_871 : (Jvm.Cond.code ({ cls := "LineStore$Ends", name := "hasLine", desc := "(I)Z" } : Jvm.MethodName) prog_2_method_10_code (3 : Nat) (Option.some Jvm.ClassFile.FieldType.boolean)) ∈ lw_tbl := in_t4 (List.mem_of_getElem? (i := 151) rfl)
set_option maxRecDepth 20000 in
theorem t_872 : (Jvm.Cond.classLink "LineStore" (189 : Nat) "java/util/NoSuchElementException") ∈ lw_tbl := in_t4 (List.mem_of_getElem? (i := 152) rfl)
set_option maxRecDepth 20000 in
theorem t_873 : (Jvm.Cond.instantiable "java/util/NoSuchElementException" (6 : Nat)) ∈ lw_tbl := in_t4 (List.mem_of_getElem? (i := 153) rfl)
set_option maxRecDepth 20000 in
theorem t_874 : (Jvm.Cond.castable "java/util/NoSuchElementException" "java/util/NoSuchElementException") ∈ lw_tbl := in_t4 (List.mem_of_getElem? (i := 154) rfl)
set_option maxRecDepth 20000 in
theorem t_875 : (Jvm.Cond.selects "java/util/NoSuchElementException" ({ cls := "java/lang/Throwable", name := "fillInStackTrace", desc := "(I)Ljava/lang/Throwable;" } : Jvm.MethodName) ({ cls := "java/lang/Throwable", name := "fillInStackTrace", desc := "(I)Ljava/lang/Throwable;" } : Jvm.MethodName)) ∈ lw_tbl := in_t4 (List.mem_of_getElem? (i := 155) rfl)
set_option maxRecDepth 20000 in
theorem t_876 : (Jvm.Cond.lays "java/util/NoSuchElementException" "java/lang/Throwable" "cause" "Ljava/lang/Throwable;") ∈ lw_tbl := in_t4 (List.mem_of_getElem? (i := 156) rfl)
set_option maxRecDepth 20000 in
theorem t_877 : (Jvm.Cond.lays "java/util/NoSuchElementException" "java/lang/Throwable" "stackTrace" "[Ljava/lang/StackTraceElement;") ∈ lw_tbl := in_t4 (List.mem_of_getElem? (i := 157) rfl)
set_option maxRecDepth 20000 in
theorem t_878 : (Jvm.Cond.lays "java/util/NoSuchElementException" "java/lang/Throwable" "suppressedExceptions" "Ljava/util/List;") ∈ lw_tbl := in_t4 (List.mem_of_getElem? (i := 158) rfl)
set_option maxRecDepth 20000 in
theorem t_879 : (Jvm.Cond.lays "java/util/NoSuchElementException" "java/lang/Throwable" "detailMessage" "Ljava/lang/String;") ∈ lw_tbl := in_t4 (List.mem_of_getElem? (i := 159) rfl)
set_option maxRecDepth 20000 in
theorem t_880 : (Jvm.Cond.lays "java/util/NoSuchElementException" "java/lang/Throwable" "backtrace" "Ljava/lang/Object;") ∈ lw_tbl := in_t4 (List.mem_of_getElem? (i := 160) rfl)
set_option maxRecDepth 20000 in
theorem t_881 : (Jvm.Cond.stringRef "LineStore" (191 : Nat) "what is not 0 to 4") ∈ lw_tbl := in_t4 (List.mem_of_getElem? (i := 161) rfl)
set_option maxRecDepth 20000 in
theorem t_882 : (Jvm.Cond.methodLink "LineStore" (193 : Nat) ({ cls := "java/util/NoSuchElementException", name := "<init>", desc := "(Ljava/lang/String;)V" } : Jvm.MethodName)) ∈ lw_tbl := in_t4 (List.mem_of_getElem? (i := 162) rfl)
set_option maxRecDepth 20000 in
theorem t_883 : (Jvm.Cond.instanceMethod ({ cls := "java/util/NoSuchElementException", name := "<init>", desc := "(Ljava/lang/String;)V" } : Jvm.MethodName)) ∈ lw_tbl := in_t4 (List.mem_of_getElem? (i := 163) rfl)
set_option maxRecDepth 20000 in
theorem t_884 : (Jvm.Cond.code ({ cls := "java/util/NoSuchElementException", name := "<init>", desc := "(Ljava/lang/String;)V" } : Jvm.MethodName) prog_35_method_4_code (2 : Nat) (Option.none : Option Jvm.ClassFile.FieldType)) ∈ lw_tbl := in_t4 (List.mem_of_getElem? (i := 164) rfl)
set_option maxRecDepth 20000 in
theorem t_885 : (Jvm.Cond.methodLink "java/util/NoSuchElementException" (13 : Nat) ({ cls := "java/lang/RuntimeException", name := "<init>", desc := "(Ljava/lang/String;)V" } : Jvm.MethodName)) ∈ lw_tbl := in_t4 (List.mem_of_getElem? (i := 165) rfl)
set_option maxRecDepth 20000 in
theorem t_886 : (Jvm.Cond.lays "java/util/NoSuchElementException" "java/lang/Throwable" "depth" "I") ∈ lw_tbl := in_t4 (List.mem_of_getElem? (i := 166) rfl)
set_option maxRecDepth 20000 in
theorem t_887 : (Jvm.Cond.superclass "java/util/NoSuchElementException" "java/lang/RuntimeException") ∈ lw_tbl := in_t4 (List.mem_of_getElem? (i := 167) rfl)
set_option maxRecDepth 20000 in
theorem t_888 : (Jvm.Cond.methodLink "LineStoreLaw" (124 : Nat) ({ cls := "LineStoreLaw", name := "ended", desc := "(LLineStore;III[J)I" } : Jvm.MethodName)) ∈ lw_tbl := in_t4 (List.mem_of_getElem? (i := 168) rfl)
set_option maxRecDepth 20000 in
theorem t_889 : (Jvm.Cond.static ({ cls := "LineStoreLaw", name := "ended", desc := "(LLineStore;III[J)I" } : Jvm.MethodName)) ∈ lw_tbl := in_t4 (List.mem_of_getElem? (i := 169) rfl)
set_option maxRecDepth 20000 in
theorem t_890 : (Jvm.Cond.codeWith ({ cls := "LineStoreLaw", name := "ended", desc := "(LLineStore;III[J)I" } : Jvm.MethodName) method_12_code (6 : Nat) (Option.some Jvm.ClassFile.FieldType.int) [((0 : Nat), (12 : Nat), (15 : Nat), (13 : Nat)), ((0 : Nat), (12 : Nat), (19 : Nat), (50 : Nat))]) ∈ lw_tbl := in_t4 (List.mem_of_getElem? (i := 170) rfl)
set_option maxRecDepth 20000 in
theorem t_891 : (Jvm.Cond.methodLink "LineStoreLaw" (52 : Nat) ({ cls := "LineStore", name := "ended", desc := "(III)I" } : Jvm.MethodName)) ∈ lw_tbl := in_t4 (List.mem_of_getElem? (i := 171) rfl)
set_option maxRecDepth 20000 in
theorem t_892 : (Jvm.Cond.instanceMethod ({ cls := "LineStore", name := "ended", desc := "(III)I" } : Jvm.MethodName)) ∈ lw_tbl := in_t4 (List.mem_of_getElem? (i := 172) rfl)
set_option maxRecDepth 20000 in
theorem t_893 : (Jvm.Cond.selects "LineStore" ({ cls := "LineStore", name := "ended", desc := "(III)I" } : Jvm.MethodName) ({ cls := "LineStore", name := "ended", desc := "(III)I" } : Jvm.MethodName)) ∈ lw_tbl := in_t4 (List.mem_of_getElem? (i := 173) rfl)
set_option maxRecDepth 20000 in
theorem t_894 : (Jvm.Cond.code ({ cls := "LineStore", name := "ended", desc := "(III)I" } : Jvm.MethodName) prog_1_method_14_code (5 : Nat) (Option.some Jvm.ClassFile.FieldType.int)) ∈ lw_tbl := in_t4 (List.mem_of_getElem? (i := 174) rfl)
set_option maxRecDepth 20000 in
theorem t_895 : (Jvm.Cond.stringRef "LineStore" (194 : Nat) "there is no such end") ∈ lw_tbl := in_t4 (List.mem_of_getElem? (i := 175) rfl)
set_option maxRecDepth 20000 in
theorem t_896 : (Jvm.Cond.methodLink "LineStore" (196 : Nat) ({ cls := "LineStore$Ends", name := "role", desc := "(I)I" } : Jvm.MethodName)) ∈ lw_tbl := in_t4 (List.mem_of_getElem? (i := 176) rfl)
set_option maxRecDepth 20000 in
theorem t_897 : (Jvm.Cond.methodLink "LineStore" (199 : Nat) ({ cls := "LineStore$Ends", name := "thing", desc := "(I)I" } : Jvm.MethodName)) ∈ lw_tbl := in_t4 (List.mem_of_getElem? (i := 177) rfl)
set_option maxRecDepth 20000 in
theorem t_898 : (Jvm.Cond.methodLink "LineStore" (202 : Nat) ({ cls := "LineStore$Ends", name := "line", desc := "(I)I" } : Jvm.MethodName)) ∈ lw_tbl := in_t4 (List.mem_of_getElem? (i := 178) rfl)
set_option maxRecDepth 20000 in
theorem t_899 : (Jvm.Cond.stringRef "LineStore" (205 : Nat) "what is not 0 to 2") ∈ lw_tbl := in_t4 (List.mem_of_getElem? (i := 179) rfl)
set_option maxRecDepth 20000 in
theorem t_900 : (Jvm.Cond.methodLink "LineStoreLaw" (127 : Nat) ({ cls := "LineStoreLaw", name := "question", desc := "(LLineStore;[J)I" } : Jvm.MethodName)) ∈ lw_tbl := in_t4 (List.mem_of_getElem? (i := 180) rfl)
set_option maxRecDepth 20000 in
theorem t_901 : (Jvm.Cond.static ({ cls := "LineStoreLaw", name := "question", desc := "(LLineStore;[J)I" } : Jvm.MethodName)) ∈ lw_tbl := in_t4 (List.mem_of_getElem? (i := 181) rfl)
set_option maxRecDepth 20000 in
theorem t_902 : (Jvm.Cond.codeWith ({ cls := "LineStoreLaw", name := "question", desc := "(LLineStore;[J)I" } : Jvm.MethodName) method_13_code (3 : Nat) (Option.some Jvm.ClassFile.FieldType.int) [((0 : Nat), (8 : Nat), (11 : Nat), (15 : Nat))]) ∈ lw_tbl := in_t4 (List.mem_of_getElem? (i := 182) rfl)
set_option maxRecDepth 20000 in
theorem t_903 : (Jvm.Cond.methodLink "LineStoreLaw" (55 : Nat) ({ cls := "LineStore", name := "question", desc := "()I" } : Jvm.MethodName)) ∈ lw_tbl := in_t4 (List.mem_of_getElem? (i := 183) rfl)
set_option maxRecDepth 20000 in
theorem t_904 : (Jvm.Cond.instanceMethod ({ cls := "LineStore", name := "question", desc := "()I" } : Jvm.MethodName)) ∈ lw_tbl := in_t4 (List.mem_of_getElem? (i := 184) rfl)
set_option maxRecDepth 20000 in
theorem t_905 : (Jvm.Cond.selects "LineStore" ({ cls := "LineStore", name := "question", desc := "()I" } : Jvm.MethodName) ({ cls := "LineStore", name := "question", desc := "()I" } : Jvm.MethodName)) ∈ lw_tbl := in_t4 (List.mem_of_getElem? (i := 185) rfl)
set_option maxRecDepth 20000 in
theorem t_906 : (Jvm.Cond.code ({ cls := "LineStore", name := "question", desc := "()I" } : Jvm.MethodName) prog_1_method_15_code (3 : Nat) (Option.some Jvm.ClassFile.FieldType.int)) ∈ lw_tbl := in_t4 (List.mem_of_getElem? (i := 186) rfl)
set_option maxRecDepth 20000 in
theorem t_907 : (Jvm.Cond.methodLink "LineStore" (207 : Nat) ({ cls := "LineStore$Reader", name := "read", desc := "(LLineStore$Tape;LLineStore$Question;)Z" } : Jvm.MethodName)) ∈ lw_tbl := in_t4 (List.mem_of_getElem? (i := 187) rfl)
set_option maxRecDepth 20000 in
theorem t_908 : (Jvm.Cond.instanceMethod ({ cls := "LineStore$Reader", name := "read", desc := "(LLineStore$Tape;LLineStore$Question;)Z" } : Jvm.MethodName)) ∈ lw_tbl := in_t4 (List.mem_of_getElem? (i := 188) rfl)
set_option maxRecDepth 20000 in
theorem t_909 : (Jvm.Cond.selects "LineStore$Reader" ({ cls := "LineStore$Reader", name := "read", desc := "(LLineStore$Tape;LLineStore$Question;)Z" } : Jvm.MethodName) ({ cls := "LineStore$Reader", name := "read", desc := "(LLineStore$Tape;LLineStore$Question;)Z" } : Jvm.MethodName)) ∈ lw_tbl := in_t4 (List.mem_of_getElem? (i := 189) rfl)
set_option maxRecDepth 20000 in
theorem t_910 : (Jvm.Cond.code ({ cls := "LineStore$Reader", name := "read", desc := "(LLineStore$Tape;LLineStore$Question;)Z" } : Jvm.MethodName) prog_9_method_3_code (4 : Nat) (Option.some Jvm.ClassFile.FieldType.boolean)) ∈ lw_tbl := in_t4 (List.mem_of_getElem? (i := 190) rfl)
set_option maxRecDepth 20000 in
theorem t_911 : (Jvm.Cond.methodLink "LineStore$Reader" (18 : Nat) ({ cls := "LineStore$Question", name := "clear", desc := "()V" } : Jvm.MethodName)) ∈ lw_tbl := in_t4 (List.mem_of_getElem? (i := 191) rfl)
set_option maxRecDepth 20000 in
theorem t_912 : (Jvm.Cond.instanceMethod ({ cls := "LineStore$Question", name := "clear", desc := "()V" } : Jvm.MethodName)) ∈ lw_tbl := in_t4 (List.mem_of_getElem? (i := 192) rfl)
set_option maxRecDepth 20000 in
theorem t_913 : (Jvm.Cond.selects "LineStore$Question" ({ cls := "LineStore$Question", name := "clear", desc := "()V" } : Jvm.MethodName) ({ cls := "LineStore$Question", name := "clear", desc := "()V" } : Jvm.MethodName)) ∈ lw_tbl := in_t4 (List.mem_of_getElem? (i := 193) rfl)
set_option maxRecDepth 20000 in
theorem t_914 : (Jvm.Cond.code ({ cls := "LineStore$Question", name := "clear", desc := "()V" } : Jvm.MethodName) prog_8_method_2_code (1 : Nat) (Option.none : Option Jvm.ClassFile.FieldType)) ∈ lw_tbl := in_t4 (List.mem_of_getElem? (i := 194) rfl)
set_option maxRecDepth 20000 in
theorem t_915 : (Jvm.Cond.methodLink "LineStore$Reader" (23 : Nat) ({ cls := "LineStore$Reader", name := "readAtom", desc := "(LLineStore$Tape;LLineStore$Question;)Z" } : Jvm.MethodName)) ∈ lw_tbl := in_t4 (List.mem_of_getElem? (i := 195) rfl)
set_option maxRecDepth 20000 in
theorem t_916 : (Jvm.Cond.privateMethod ({ cls := "LineStore$Reader", name := "readAtom", desc := "(LLineStore$Tape;LLineStore$Question;)Z" } : Jvm.MethodName)) ∈ lw_tbl := in_t4 (List.mem_of_getElem? (i := 196) rfl)
set_option maxRecDepth 20000 in
theorem t_917 : (Jvm.Cond.instanceMethod ({ cls := "LineStore$Reader", name := "readAtom", desc := "(LLineStore$Tape;LLineStore$Question;)Z" } : Jvm.MethodName)) ∈ lw_tbl := in_t4 (List.mem_of_getElem? (i := 197) rfl)
set_option maxRecDepth 20000 in
theorem t_918 : (Jvm.Cond.code ({ cls := "LineStore$Reader", name := "readAtom", desc := "(LLineStore$Tape;LLineStore$Question;)Z" } : Jvm.MethodName) prog_9_method_4_code (5 : Nat) (Option.some Jvm.ClassFile.FieldType.boolean)) ∈ lw_tbl := in_t4 (List.mem_of_getElem? (i := 198) rfl)
set_option maxRecDepth 20000 in
theorem t_919 : (Jvm.Cond.methodLink "LineStore$Reader" (27 : Nat) ({ cls := "LineStore$Reader", name := "next", desc := "(LLineStore$Tape;)V" } : Jvm.MethodName)) ∈ lw_tbl := in_t4 (List.mem_of_getElem? (i := 199) rfl)
set_option maxRecDepth 20000 in
theorem t_920 : (Jvm.Cond.privateMethod ({ cls := "LineStore$Reader", name := "next", desc := "(LLineStore$Tape;)V" } : Jvm.MethodName)) ∈ lw_tbl := in_t4 (List.mem_of_getElem? (i := 200) rfl)
set_option maxRecDepth 20000 in
theorem t_921 : (Jvm.Cond.instanceMethod ({ cls := "LineStore$Reader", name := "next", desc := "(LLineStore$Tape;)V" } : Jvm.MethodName)) ∈ lw_tbl := in_t4 (List.mem_of_getElem? (i := 201) rfl)
set_option maxRecDepth 20000 in
theorem t_922 : (Jvm.Cond.code ({ cls := "LineStore$Reader", name := "next", desc := "(LLineStore$Tape;)V" } : Jvm.MethodName) prog_9_method_7_code (3 : Nat) (Option.none : Option Jvm.ClassFile.FieldType)) ∈ lw_tbl := in_t4 (List.mem_of_getElem? (i := 202) rfl)
set_option maxRecDepth 20000 in
theorem t_923 : (Jvm.Cond.methodLink "LineStore$Reader" (52 : Nat) ({ cls := "LineStore$Tape", name := "length", desc := "()I" } : Jvm.MethodName)) ∈ lw_tbl := in_t4 (List.mem_of_getElem? (i := 203) rfl)
set_option maxRecDepth 20000 in
theorem t_924 : (Jvm.Cond.methodLink "LineStore$Reader" (58 : Nat) ({ cls := "LineStore$Tape", name := "at", desc := "(I)I" } : Jvm.MethodName)) ∈ lw_tbl := in_t4 (List.mem_of_getElem? (i := 204) rfl)
set_option maxRecDepth 20000 in
theorem t_925 : (Jvm.Cond.instanceMethod ({ cls := "LineStore$Tape", name := "at", desc := "(I)I" } : Jvm.MethodName)) ∈ lw_tbl := in_t4 (List.mem_of_getElem? (i := 205) rfl)
set_option maxRecDepth 20000 in
theorem t_926 : (Jvm.Cond.selects "LineStore$Tape" ({ cls := "LineStore$Tape", name := "at", desc := "(I)I" } : Jvm.MethodName) ({ cls := "LineStore$Tape", name := "at", desc := "(I)I" } : Jvm.MethodName)) ∈ lw_tbl := in_t4 (List.mem_of_getElem? (i := 206) rfl)
set_option maxRecDepth 20000 in
theorem t_927 : (Jvm.Cond.code ({ cls := "LineStore$Tape", name := "at", desc := "(I)I" } : Jvm.MethodName) prog_10_method_7_code (2 : Nat) (Option.some Jvm.ClassFile.FieldType.int)) ∈ lw_tbl := in_t4 (List.mem_of_getElem? (i := 207) rfl)
set_option maxRecDepth 20000 in
theorem t_928 : (Jvm.Cond.methodLink "LineStore$Reader" (61 : Nat) ({ cls := "LineStore$Reader", name := "isLetter", desc := "(I)Z" } : Jvm.MethodName)) ∈ lw_tbl := in_t4 (List.mem_of_getElem? (i := 208) rfl)
set_option maxRecDepth 20000 in
theorem t_929 : (Jvm.Cond.static ({ cls := "LineStore$Reader", name := "isLetter", desc := "(I)Z" } : Jvm.MethodName)) ∈ lw_tbl := in_t4 (List.mem_of_getElem? (i := 209) rfl)
set_option maxRecDepth 20000 in
theorem t_930 : (Jvm.Cond.code ({ cls := "LineStore$Reader", name := "isLetter", desc := "(I)Z" } : Jvm.MethodName) prog_9_method_10_code (1 : Nat) (Option.some Jvm.ClassFile.FieldType.boolean)) ∈ lw_tbl := in_t4 (List.mem_of_getElem? (i := 210) rfl)
set_option maxRecDepth 20000 in
theorem t_931 : (Jvm.Cond.methodLink "LineStore$Reader" (65 : Nat) ({ cls := "LineStore$Reader", name := "takeWord", desc := "(LLineStore$Tape;)V" } : Jvm.MethodName)) ∈ lw_tbl := in_t4 (List.mem_of_getElem? (i := 211) rfl)
set_option maxRecDepth 20000 in
theorem t_932 : (Jvm.Cond.privateMethod ({ cls := "LineStore$Reader", name := "takeWord", desc := "(LLineStore$Tape;)V" } : Jvm.MethodName)) ∈ lw_tbl := in_t4 (List.mem_of_getElem? (i := 212) rfl)
set_option maxRecDepth 20000 in
theorem t_933 : (Jvm.Cond.instanceMethod ({ cls := "LineStore$Reader", name := "takeWord", desc := "(LLineStore$Tape;)V" } : Jvm.MethodName)) ∈ lw_tbl := in_t4 (List.mem_of_getElem? (i := 213) rfl)
set_option maxRecDepth 20000 in
theorem t_934 : (Jvm.Cond.code ({ cls := "LineStore$Reader", name := "takeWord", desc := "(LLineStore$Tape;)V" } : Jvm.MethodName) prog_9_method_8_code (2 : Nat) (Option.none : Option Jvm.ClassFile.FieldType)) ∈ lw_tbl := in_t4 (List.mem_of_getElem? (i := 214) rfl)
set_option maxRecDepth 20000 in
theorem t_935 : (Jvm.Cond.methodLink "LineStore$Reader" (68 : Nat) ({ cls := "LineStore$Reader", name := "isDigit", desc := "(I)Z" } : Jvm.MethodName)) ∈ lw_tbl := in_t4 (List.mem_of_getElem? (i := 215) rfl)
set_option maxRecDepth 20000 in
theorem t_936 : (Jvm.Cond.static ({ cls := "LineStore$Reader", name := "isDigit", desc := "(I)Z" } : Jvm.MethodName)) ∈ lw_tbl := in_t4 (List.mem_of_getElem? (i := 216) rfl)
set_option maxRecDepth 20000 in
theorem t_937 : (Jvm.Cond.code ({ cls := "LineStore$Reader", name := "isDigit", desc := "(I)Z" } : Jvm.MethodName) prog_9_method_11_code (1 : Nat) (Option.some Jvm.ClassFile.FieldType.boolean)) ∈ lw_tbl := in_t4 (List.mem_of_getElem? (i := 217) rfl)
set_option maxRecDepth 20000 in
theorem t_938 : (Jvm.Cond.methodLink "LineStore$Reader" (71 : Nat) ({ cls := "LineStore$Reader", name := "takeNumber", desc := "(LLineStore$Tape;)V" } : Jvm.MethodName)) ∈ lw_tbl := in_t4 (List.mem_of_getElem? (i := 218) rfl)
set_option maxRecDepth 20000 in
theorem t_939 : (Jvm.Cond.privateMethod ({ cls := "LineStore$Reader", name := "takeNumber", desc := "(LLineStore$Tape;)V" } : Jvm.MethodName)) ∈ lw_tbl := in_t4 (List.mem_of_getElem? (i := 219) rfl)
set_option maxRecDepth 20000 in
theorem t_940 : (Jvm.Cond.instanceMethod ({ cls := "LineStore$Reader", name := "takeNumber", desc := "(LLineStore$Tape;)V" } : Jvm.MethodName)) ∈ lw_tbl := in_t4 (List.mem_of_getElem? (i := 220) rfl)
set_option maxRecDepth 20000 in
theorem t_941 : (Jvm.Cond.code ({ cls := "LineStore$Reader", name := "takeNumber", desc := "(LLineStore$Tape;)V" } : Jvm.MethodName) prog_9_method_9_code (2 : Nat) (Option.none : Option Jvm.ClassFile.FieldType)) ∈ lw_tbl := in_t4 (List.mem_of_getElem? (i := 221) rfl)
set_option maxRecDepth 20000 in
theorem t_942 : (Jvm.Cond.methodLink "LineStore$Reader" (34 : Nat) ({ cls := "LineStore$Reader", name := "readNumber", desc := "(LLineStore$Tape;I)Z" } : Jvm.MethodName)) ∈ lw_tbl := in_t4 (List.mem_of_getElem? (i := 222) rfl)
set_option maxRecDepth 20000 in
theorem t_943 : (Jvm.Cond.privateMethod ({ cls := "LineStore$Reader", name := "readNumber", desc := "(LLineStore$Tape;I)Z" } : Jvm.MethodName)) ∈ lw_tbl := in_t4 (List.mem_of_getElem? (i := 223) rfl)
set_option maxRecDepth 20000 in
theorem t_944 : (Jvm.Cond.instanceMethod ({ cls := "LineStore$Reader", name := "readNumber", desc := "(LLineStore$Tape;I)Z" } : Jvm.MethodName)) ∈ lw_tbl := in_t4 (List.mem_of_getElem? (i := 224) rfl)
set_option maxRecDepth 20000 in
theorem t_945 : (Jvm.Cond.code ({ cls := "LineStore$Reader", name := "readNumber", desc := "(LLineStore$Tape;I)Z" } : Jvm.MethodName) prog_9_method_6_code (3 : Nat) (Option.some Jvm.ClassFile.FieldType.boolean)) ∈ lw_tbl := in_t4 (List.mem_of_getElem? (i := 225) rfl)
set_option maxRecDepth 20000 in
theorem t_946 : (Jvm.Cond.methodLink "LineStore$Reader" (41 : Nat) ({ cls := "LineStore$Question", name := "addAtom", desc := "(IZ)Z" } : Jvm.MethodName)) ∈ lw_tbl := in_t4 (List.mem_of_getElem? (i := 226) rfl)
set_option maxRecDepth 20000 in
theorem t_947 : (Jvm.Cond.instanceMethod ({ cls := "LineStore$Question", name := "addAtom", desc := "(IZ)Z" } : Jvm.MethodName)) ∈ lw_tbl := in_t4 (List.mem_of_getElem? (i := 227) rfl)
set_option maxRecDepth 20000 in
theorem t_948 : (Jvm.Cond.selects "LineStore$Question" ({ cls := "LineStore$Question", name := "addAtom", desc := "(IZ)Z" } : Jvm.MethodName) ({ cls := "LineStore$Question", name := "addAtom", desc := "(IZ)Z" } : Jvm.MethodName)) ∈ lw_tbl := in_t4 (List.mem_of_getElem? (i := 228) rfl)
set_option maxRecDepth 20000 in
theorem t_949 : (Jvm.Cond.code ({ cls := "LineStore$Question", name := "addAtom", desc := "(IZ)Z" } : Jvm.MethodName) prog_8_method_3_code (3 : Nat) (Option.some Jvm.ClassFile.FieldType.boolean)) ∈ lw_tbl := in_t4 (List.mem_of_getElem? (i := 229) rfl)
set_option maxRecDepth 20000 in
theorem t_950 : (Jvm.Cond.methodLink "LineStore$Reader" (45 : Nat) ({ cls := "LineStore$Reader", name := "readPart", desc := "(LLineStore$Tape;LLineStore$Question;)Z" } : Jvm.MethodName)) ∈ lw_tbl := in_t4 (List.mem_of_getElem? (i := 230) rfl)
set_option maxRecDepth 20000 in
theorem t_951 : (Jvm.Cond.privateMethod ({ cls := "LineStore$Reader", name := "readPart", desc := "(LLineStore$Tape;LLineStore$Question;)Z" } : Jvm.MethodName)) ∈ lw_tbl := in_t4 (List.mem_of_getElem? (i := 231) rfl)
set_option maxRecDepth 20000 in
theorem t_952 : (Jvm.Cond.instanceMethod ({ cls := "LineStore$Reader", name := "readPart", desc := "(LLineStore$Tape;LLineStore$Question;)Z" } : Jvm.MethodName)) ∈ lw_tbl := in_t4 (List.mem_of_getElem? (i := 232) rfl)
set_option maxRecDepth 20000 in
theorem t_953 : (Jvm.Cond.code ({ cls := "LineStore$Reader", name := "readPart", desc := "(LLineStore$Tape;LLineStore$Question;)Z" } : Jvm.MethodName) prog_9_method_5_code (4 : Nat) (Option.some Jvm.ClassFile.FieldType.boolean)) ∈ lw_tbl := in_t4 (List.mem_of_getElem? (i := 233) rfl)
set_option maxRecDepth 20000 in
theorem t_954 : (Jvm.Cond.methodLink "LineStore$Reader" (48 : Nat) ({ cls := "LineStore$Question", name := "addPart", desc := "(II)Z" } : Jvm.MethodName)) ∈ lw_tbl := in_t4 (List.mem_of_getElem? (i := 234) rfl)
set_option maxRecDepth 20000 in
theorem t_955 : (Jvm.Cond.instanceMethod ({ cls := "LineStore$Question", name := "addPart", desc := "(II)Z" } : Jvm.MethodName)) ∈ lw_tbl := in_t4 (List.mem_of_getElem? (i := 235) rfl)
set_option maxRecDepth 20000 in
theorem t_956 : (Jvm.Cond.selects "LineStore$Question" ({ cls := "LineStore$Question", name := "addPart", desc := "(II)Z" } : Jvm.MethodName) ({ cls := "LineStore$Question", name := "addPart", desc := "(II)Z" } : Jvm.MethodName)) ∈ lw_tbl := in_t4 (List.mem_of_getElem? (i := 236) rfl)
set_option maxRecDepth 20000 in
theorem t_957 : (Jvm.Cond.code ({ cls := "LineStore$Question", name := "addPart", desc := "(II)Z" } : Jvm.MethodName) prog_8_method_4_code (5 : Nat) (Option.some Jvm.ClassFile.FieldType.boolean)) ∈ lw_tbl := in_t4 (List.mem_of_getElem? (i := 237) rfl)
set_option maxRecDepth 20000 in
theorem t_958 : (Jvm.Cond.methodLink "LineStore" (211 : Nat) ({ cls := "LineStore$Tape", name := "clear", desc := "()V" } : Jvm.MethodName)) ∈ lw_tbl := in_t4 (List.mem_of_getElem? (i := 238) rfl)
set_option maxRecDepth 20000 in
theorem t_959 : (Jvm.Cond.instanceMethod ({ cls := "LineStore$Tape", name := "clear", desc := "()V" } : Jvm.MethodName)) ∈ lw_tbl := in_t4 (List.mem_of_getElem? (i := 239) rfl)
set_option maxRecDepth 20000 in
theorem t_960 : (Jvm.Cond.selects "LineStore$Tape" ({ cls := "LineStore$Tape", name := "clear", desc := "()V" } : Jvm.MethodName) ({ cls := "LineStore$Tape", name := "clear", desc := "()V" } : Jvm.MethodName)) ∈ lw_tbl := in_t5 (List.mem_of_getElem? (i := 0) rfl)
set_option maxRecDepth 20000 in
theorem t_961 : (Jvm.Cond.code ({ cls := "LineStore$Tape", name := "clear", desc := "()V" } : Jvm.MethodName) prog_10_method_5_code (1 : Nat) (Option.none : Option Jvm.ClassFile.FieldType)) ∈ lw_tbl := in_t5 (List.mem_of_getElem? (i := 1) rfl)
set_option maxRecDepth 20000 in
theorem t_962 : (Jvm.Cond.methodLink "LineStore" (212 : Nat) ({ cls := "LineStore$Reader", name := "begin", desc := "()I" } : Jvm.MethodName)) ∈ lw_tbl := in_t5 (List.mem_of_getElem? (i := 2) rfl)
set_option maxRecDepth 20000 in
theorem t_963 : (Jvm.Cond.instanceMethod ({ cls := "LineStore$Reader", name := "begin", desc := "()I" } : Jvm.MethodName)) ∈ lw_tbl := in_t5 (List.mem_of_getElem? (i := 3) rfl)
set_option maxRecDepth 20000 in
theorem t_964 : (Jvm.Cond.selects "LineStore$Reader" ({ cls := "LineStore$Reader", name := "begin", desc := "()I" } : Jvm.MethodName) ({ cls := "LineStore$Reader", name := "begin", desc := "()I" } : Jvm.MethodName)) ∈ lw_tbl := in_t5 (List.mem_of_getElem? (i := 4) rfl)
set_option maxRecDepth 20000 in
theorem t_965 : (Jvm.Cond.code ({ cls := "LineStore$Reader", name := "begin", desc := "()I" } : Jvm.MethodName) prog_9_method_2_code (1 : Nat) (Option.some Jvm.ClassFile.FieldType.int)) ∈ lw_tbl := in_t5 (List.mem_of_getElem? (i := 5) rfl)
set_option maxRecDepth 20000 in
theorem t_966 : (Jvm.Cond.stringRef "LineStore" (215 : Nat) "the text is wrong") ∈ lw_tbl := in_t5 (List.mem_of_getElem? (i := 6) rfl)
set_option maxRecDepth 20000 in
theorem t_967 : (Jvm.Cond.methodLink "LineStoreLaw" (143 : Nat) ({ cls := "LineStoreLaw", name := "ways", desc := "(LLineStore;IIII[J)I" } : Jvm.MethodName)) ∈ lw_tbl := in_t5 (List.mem_of_getElem? (i := 7) rfl)
set_option maxRecDepth 20000 in
theorem t_968 : (Jvm.Cond.static ({ cls := "LineStoreLaw", name := "ways", desc := "(LLineStore;IIII[J)I" } : Jvm.MethodName)) ∈ lw_tbl := in_t5 (List.mem_of_getElem? (i := 8) rfl)
set_option maxRecDepth 20000 in
theorem t_969 : (Jvm.Cond.codeWith ({ cls := "LineStoreLaw", name := "ways", desc := "(LLineStore;IIII[J)I" } : Jvm.MethodName) method_14_code (7 : Nat) (Option.some Jvm.ClassFile.FieldType.int) [((0 : Nat), (14 : Nat), (17 : Nat), (13 : Nat))]) ∈ lw_tbl := in_t5 (List.mem_of_getElem? (i := 9) rfl)
set_option maxRecDepth 20000 in
theorem t_970 : (Jvm.Cond.methodLink "LineStoreLaw" (59 : Nat) ({ cls := "LineStore", name := "ways", desc := "(IIII)I" } : Jvm.MethodName)) ∈ lw_tbl := in_t5 (List.mem_of_getElem? (i := 10) rfl)
set_option maxRecDepth 20000 in
theorem t_971 : (Jvm.Cond.instanceMethod ({ cls := "LineStore", name := "ways", desc := "(IIII)I" } : Jvm.MethodName)) ∈ lw_tbl := in_t5 (List.mem_of_getElem? (i := 11) rfl)
set_option maxRecDepth 20000 in
theorem t_972 : (Jvm.Cond.selects "LineStore" ({ cls := "LineStore", name := "ways", desc := "(IIII)I" } : Jvm.MethodName) ({ cls := "LineStore", name := "ways", desc := "(IIII)I" } : Jvm.MethodName)) ∈ lw_tbl := in_t5 (List.mem_of_getElem? (i := 12) rfl)
set_option maxRecDepth 20000 in
theorem t_973 : (Jvm.Cond.code ({ cls := "LineStore", name := "ways", desc := "(IIII)I" } : Jvm.MethodName) prog_1_method_19_code (5 : Nat) (Option.some Jvm.ClassFile.FieldType.int)) ∈ lw_tbl := in_t5 (List.mem_of_getElem? (i := 13) rfl)
set_option maxRecDepth 20000 in
theorem t_974 : (Jvm.Cond.methodLink "LineStore" (236 : Nat) ({ cls := "LineStore$Lines", name := "fewestBetween", desc := "(IIIILLineStore$Ones;)I" } : Jvm.MethodName)) ∈ lw_tbl := in_t5 (List.mem_of_getElem? (i := 14) rfl)
set_option maxRecDepth 20000 in
theorem t_975 : (Jvm.Cond.instanceMethod ({ cls := "LineStore$Lines", name := "fewestBetween", desc := "(IIIILLineStore$Ones;)I" } : Jvm.MethodName)) ∈ lw_tbl := in_t5 (List.mem_of_getElem? (i := 15) rfl)
set_option maxRecDepth 20000 in
theorem t_976 : (Jvm.Cond.selects "LineStore$Lines" ({ cls := "LineStore$Lines", name := "fewestBetween", desc := "(IIIILLineStore$Ones;)I" } : Jvm.MethodName) ({ cls := "LineStore$Lines", name := "fewestBetween", desc := "(IIIILLineStore$Ones;)I" } : Jvm.MethodName)) ∈ lw_tbl := in_t5 (List.mem_of_getElem? (i := 16) rfl)
set_option maxRecDepth 20000 in
theorem t_977 : (Jvm.Cond.code ({ cls := "LineStore$Lines", name := "fewestBetween", desc := "(IIIILLineStore$Ones;)I" } : Jvm.MethodName) prog_5_method_12_code (11 : Nat) (Option.some Jvm.ClassFile.FieldType.int)) ∈ lw_tbl := in_t5 (List.mem_of_getElem? (i := 17) rfl)
set_option maxRecDepth 20000 in
theorem t_978 : (Jvm.Cond.methodLink "LineStore$Lines" (125 : Nat) ({ cls := "LineStore$Lines", name := "nextTo", desc := "(JIILLineStore$Ones;)J" } : Jvm.MethodName)) ∈ lw_tbl := in_t5 (List.mem_of_getElem? (i := 18) rfl)
set_option maxRecDepth 20000 in
theorem t_979 : (Jvm.Cond.privateMethod ({ cls := "LineStore$Lines", name := "nextTo", desc := "(JIILLineStore$Ones;)J" } : Jvm.MethodName)) ∈ lw_tbl := in_t5 (List.mem_of_getElem? (i := 19) rfl)
set_option maxRecDepth 20000 in
theorem t_980 : (Jvm.Cond.instanceMethod ({ cls := "LineStore$Lines", name := "nextTo", desc := "(JIILLineStore$Ones;)J" } : Jvm.MethodName)) ∈ lw_tbl := in_t5 (List.mem_of_getElem? (i := 20) rfl)
set_option maxRecDepth 20000 in
theorem t_981 : (Jvm.Cond.code ({ cls := "LineStore$Lines", name := "nextTo", desc := "(JIILLineStore$Ones;)J" } : Jvm.MethodName) prog_5_method_13_code (12 : Nat) (Option.some Jvm.ClassFile.FieldType.long)) ∈ lw_tbl := in_t5 (List.mem_of_getElem? (i := 21) rfl)
set_option maxRecDepth 20000 in
theorem t_982 : (Jvm.Cond.methodLink "LineStore$Lines" (129 : Nat) ({ cls := "LineStore$Ends", name := "allThings", desc := "(LLineStore$Ones;)J" } : Jvm.MethodName)) ∈ lw_tbl := in_t5 (List.mem_of_getElem? (i := 22) rfl)
set_option maxRecDepth 20000 in
theorem t_983 : (Jvm.Cond.instanceMethod ({ cls := "LineStore$Ends", name := "allThings", desc := "(LLineStore$Ones;)J" } : Jvm.MethodName)) ∈ lw_tbl := in_t5 (List.mem_of_getElem? (i := 23) rfl)
set_option maxRecDepth 20000 in
theorem t_984 : (Jvm.Cond.selects "LineStore$Ends" ({ cls := "LineStore$Ends", name := "allThings", desc := "(LLineStore$Ones;)J" } : Jvm.MethodName) ({ cls := "LineStore$Ends", name := "allThings", desc := "(LLineStore$Ones;)J" } : Jvm.MethodName)) ∈ lw_tbl := in_t5 (List.mem_of_getElem? (i := 24) rfl)
set_option maxRecDepth 20000 in
theorem t_985 : (Jvm.Cond.code ({ cls := "LineStore$Ends", name := "allThings", desc := "(LLineStore$Ones;)J" } : Jvm.MethodName) prog_2_method_12_code (5 : Nat) (Option.some Jvm.ClassFile.FieldType.long)) ∈ lw_tbl := in_t5 (List.mem_of_getElem? (i := 25) rfl)
set_option maxRecDepth 20000 in
theorem t_986 : (Jvm.Cond.methodLink "LineStoreLaw" (147 : Nat) ({ cls := "LineStoreLaw", name := "degree", desc := "(LLineStore;IIII[J)I" } : Jvm.MethodName)) ∈ lw_tbl := in_t5 (List.mem_of_getElem? (i := 26) rfl)
set_option maxRecDepth 20000 in
theorem t_987 : (Jvm.Cond.static ({ cls := "LineStoreLaw", name := "degree", desc := "(LLineStore;IIII[J)I" } : Jvm.MethodName)) ∈ lw_tbl := in_t5 (List.mem_of_getElem? (i := 27) rfl)
set_option maxRecDepth 20000 in
theorem t_988 : (Jvm.Cond.codeWith ({ cls := "LineStoreLaw", name := "degree", desc := "(LLineStore;IIII[J)I" } : Jvm.MethodName) method_15_code (7 : Nat) (Option.some Jvm.ClassFile.FieldType.int) [((0 : Nat), (14 : Nat), (17 : Nat), (13 : Nat))]) ∈ lw_tbl := in_t5 (List.mem_of_getElem? (i := 28) rfl)
set_option maxRecDepth 20000 in
theorem t_989 : (Jvm.Cond.methodLink "LineStoreLaw" (63 : Nat) ({ cls := "LineStore", name := "degree", desc := "(IIII)I" } : Jvm.MethodName)) ∈ lw_tbl := in_t5 (List.mem_of_getElem? (i := 29) rfl)
set_option maxRecDepth 20000 in
theorem t_990 : (Jvm.Cond.instanceMethod ({ cls := "LineStore", name := "degree", desc := "(IIII)I" } : Jvm.MethodName)) ∈ lw_tbl := in_t5 (List.mem_of_getElem? (i := 30) rfl)
set_option maxRecDepth 20000 in
theorem t_991 : (Jvm.Cond.selects "LineStore" ({ cls := "LineStore", name := "degree", desc := "(IIII)I" } : Jvm.MethodName) ({ cls := "LineStore", name := "degree", desc := "(IIII)I" } : Jvm.MethodName)) ∈ lw_tbl := in_t5 (List.mem_of_getElem? (i := 31) rfl)
set_option maxRecDepth 20000 in
theorem t_992 : (Jvm.Cond.code ({ cls := "LineStore", name := "degree", desc := "(IIII)I" } : Jvm.MethodName) prog_1_method_20_code (5 : Nat) (Option.some Jvm.ClassFile.FieldType.int)) ∈ lw_tbl := in_t5 (List.mem_of_getElem? (i := 32) rfl)
set_option maxRecDepth 20000 in
theorem t_993 : (Jvm.Cond.methodLink "LineStore" (240 : Nat) ({ cls := "LineStore$Lines", name := "withThing", desc := "(IIIILLineStore$Ones;)I" } : Jvm.MethodName)) ∈ lw_tbl := in_t5 (List.mem_of_getElem? (i := 33) rfl)
set_option maxRecDepth 20000 in
theorem t_994 : (Jvm.Cond.instanceMethod ({ cls := "LineStore$Lines", name := "withThing", desc := "(IIIILLineStore$Ones;)I" } : Jvm.MethodName)) ∈ lw_tbl := in_t5 (List.mem_of_getElem? (i := 34) rfl)
set_option maxRecDepth 20000 in
theorem t_995 : (Jvm.Cond.selects "LineStore$Lines" ({ cls := "LineStore$Lines", name := "withThing", desc := "(IIIILLineStore$Ones;)I" } : Jvm.MethodName) ({ cls := "LineStore$Lines", name := "withThing", desc := "(IIIILLineStore$Ones;)I" } : Jvm.MethodName)) ∈ lw_tbl := in_t5 (List.mem_of_getElem? (i := 35) rfl)
set_option maxRecDepth 20000 in
theorem t_996 : (Jvm.Cond.code ({ cls := "LineStore$Lines", name := "withThing", desc := "(IIIILLineStore$Ones;)I" } : Jvm.MethodName) prog_5_method_14_code (9 : Nat) (Option.some Jvm.ClassFile.FieldType.int)) ∈ lw_tbl := in_t5 (List.mem_of_getElem? (i := 36) rfl)
set_option maxRecDepth 20000 in
theorem t_997 : (Jvm.Cond.methodLink "LineStoreLaw" (86 : Nat) ({ cls := "LineStoreModel", name := "thrown", desc := "()I" } : Jvm.MethodName)) ∈ lw_tbl := in_t5 (List.mem_of_getElem? (i := 37) rfl)
set_option maxRecDepth 20000 in
theorem t_998 : (Jvm.Cond.instanceMethod ({ cls := "LineStoreModel", name := "thrown", desc := "()I" } : Jvm.MethodName)) ∈ lw_tbl := in_t5 (List.mem_of_getElem? (i := 38) rfl)
set_option maxRecDepth 20000 in
theorem t_999 : (Jvm.Cond.selects "LineStoreModel" ({ cls := "LineStoreModel", name := "thrown", desc := "()I" } : Jvm.MethodName) ({ cls := "LineStoreModel", name := "thrown", desc := "()I" } : Jvm.MethodName)) ∈ lw_tbl := in_t5 (List.mem_of_getElem? (i := 39) rfl)
set_option maxRecDepth 20000 in
theorem t_1000 : (Jvm.Cond.code ({ cls := "LineStoreModel", name := "thrown", desc := "()I" } : Jvm.MethodName) prog_12_method_1_code (1 : Nat) (Option.some Jvm.ClassFile.FieldType.int)) ∈ lw_tbl := in_t5 (List.mem_of_getElem? (i := 40) rfl)
set_option maxRecDepth 20000 in
theorem t_1001 : (Jvm.Cond.classLink "LineStoreLaw" (67 : Nat) "LineStoreModel") ∈ lw_tbl := in_t5 (List.mem_of_getElem? (i := 41) rfl)
set_option maxRecDepth 20000 in
theorem t_1002 : (Jvm.Cond.instantiable "LineStoreModel" (38 : Nat)) ∈ lw_tbl := in_t5 (List.mem_of_getElem? (i := 42) rfl)
set_option maxRecDepth 20000 in
theorem t_1003 : (Jvm.Cond.methodLink "LineStoreLaw" (69 : Nat) ({ cls := "LineStoreModel", name := "<init>", desc := "()V" } : Jvm.MethodName)) ∈ lw_tbl := in_t5 (List.mem_of_getElem? (i := 43) rfl)
set_option maxRecDepth 20000 in
theorem t_1004 : (Jvm.Cond.instanceMethod ({ cls := "LineStoreModel", name := "<init>", desc := "()V" } : Jvm.MethodName)) ∈ lw_tbl := in_t5 (List.mem_of_getElem? (i := 44) rfl)
set_option maxRecDepth 20000 in
theorem t_1005 : (Jvm.Cond.code ({ cls := "LineStoreModel", name := "<init>", desc := "()V" } : Jvm.MethodName) prog_12_method_4_code (2 : Nat) (Option.none : Option Jvm.ClassFile.FieldType)) ∈ lw_tbl := in_t5 (List.mem_of_getElem? (i := 45) rfl)
set_option maxRecDepth 20000 in
theorem t_1006 : (Jvm.Cond.methodLink "LineStoreModel" (7 : Nat) ({ cls := "java/lang/Object", name := "<init>", desc := "()V" } : Jvm.MethodName)) ∈ lw_tbl := in_t5 (List.mem_of_getElem? (i := 46) rfl)
set_option maxRecDepth 20000 in
theorem t_1007 : (Jvm.Cond.constant "LineStoreModel" (82 : Nat) (384000 : Int32)) ∈ lw_tbl := in_t5 (List.mem_of_getElem? (i := 47) rfl)
set_option maxRecDepth 20000 in
theorem t_1008 : (Jvm.Cond.methodLink "LineStoreModel" (101 : Nat) ({ cls := "LineStoreModel", name := "counts", desc := "()V" } : Jvm.MethodName)) ∈ lw_tbl := in_t5 (List.mem_of_getElem? (i := 48) rfl)
set_option maxRecDepth 20000 in
theorem t_1009 : (Jvm.Cond.privateMethod ({ cls := "LineStoreModel", name := "counts", desc := "()V" } : Jvm.MethodName)) ∈ lw_tbl := in_t5 (List.mem_of_getElem? (i := 49) rfl)
set_option maxRecDepth 20000 in
theorem t_1010 : (Jvm.Cond.instanceMethod ({ cls := "LineStoreModel", name := "counts", desc := "()V" } : Jvm.MethodName)) ∈ lw_tbl := in_t5 (List.mem_of_getElem? (i := 50) rfl)
set_option maxRecDepth 20000 in
theorem t_1011 : (Jvm.Cond.code ({ cls := "LineStoreModel", name := "counts", desc := "()V" } : Jvm.MethodName) prog_12_method_22_code (5 : Nat) (Option.none : Option Jvm.ClassFile.FieldType)) ∈ lw_tbl := in_t5 (List.mem_of_getElem? (i := 51) rfl)
set_option maxRecDepth 20000 in
theorem t_1012 : (Jvm.Cond.methodLink "LineStoreModel" (155 : Nat) ({ cls := "java/lang/Math", name := "min", desc := "(II)I" } : Jvm.MethodName)) ∈ lw_tbl := in_t5 (List.mem_of_getElem? (i := 52) rfl)
set_option maxRecDepth 20000 in
theorem t_1013 : (Jvm.Cond.fieldLink "LineStoreModel" (3 : Nat) "LineStoreModel" "thrown" "I") ∈ lw_tbl := in_t5 (List.mem_of_getElem? (i := 53) rfl)
set_option maxRecDepth 20000 in
theorem t_1014 : (Jvm.Cond.fieldLink "LineStoreModel" (13 : Nat) "LineStoreModel" "least" "[I") ∈ lw_tbl := in_t5 (List.mem_of_getElem? (i := 54) rfl)
set_option maxRecDepth 20000 in
theorem t_1015 : (Jvm.Cond.fieldLink "LineStoreModel" (17 : Nat) "LineStoreModel" "most" "[I") ∈ lw_tbl := in_t5 (List.mem_of_getElem? (i := 55) rfl)
set_option maxRecDepth 20000 in
theorem t_1016 : (Jvm.Cond.fieldLink "LineStoreModel" (20 : Nat) "LineStoreModel" "alone" "[I") ∈ lw_tbl := in_t5 (List.mem_of_getElem? (i := 56) rfl)
set_option maxRecDepth 20000 in
theorem t_1017 : (Jvm.Cond.fieldLink "LineStoreModel" (23 : Nat) "LineStoreModel" "holds" "[Z") ∈ lw_tbl := in_t5 (List.mem_of_getElem? (i := 57) rfl)
set_option maxRecDepth 20000 in
theorem t_1018 : (Jvm.Cond.fieldLink "LineStoreModel" (27 : Nat) "LineStoreModel" "kind" "[I") ∈ lw_tbl := in_t5 (List.mem_of_getElem? (i := 58) rfl)
set_option maxRecDepth 20000 in
theorem t_1019 : (Jvm.Cond.fieldLink "LineStoreModel" (30 : Nat) "LineStoreModel" "from" "[I") ∈ lw_tbl := in_t5 (List.mem_of_getElem? (i := 59) rfl)
set_option maxRecDepth 20000 in
theorem t_1020 : (Jvm.Cond.fieldLink "LineStoreModel" (33 : Nat) "LineStoreModel" "to" "[I") ∈ lw_tbl := in_t5 (List.mem_of_getElem? (i := 60) rfl)
set_option maxRecDepth 20000 in
theorem t_1021 : (Jvm.Cond.fieldLink "LineStoreModel" (36 : Nat) "LineStoreModel" "many" "[I") ∈ lw_tbl := in_t5 (List.mem_of_getElem? (i := 61) rfl)
set_option maxRecDepth 20000 in
theorem t_1022 : (Jvm.Cond.fieldLink "LineStoreModel" (39 : Nat) "LineStoreModel" "role" "[I") ∈ lw_tbl := in_t5 (List.mem_of_getElem? (i := 62) rfl)
set_option maxRecDepth 20000 in
theorem t_1023 : (Jvm.Cond.fieldLink "LineStoreModel" (42 : Nat) "LineStoreModel" "end" "[I") ∈ lw_tbl := in_t5 (List.mem_of_getElem? (i := 63) rfl)
set_option maxRecDepth 20000 in
theorem t_1024 : (Jvm.Cond.fieldLink "LineStoreModel" (108 : Nat) "LineStoreModel" "lines" "I") ∈ lw_tbl := in_t5 (List.mem_of_getElem? (i := 64) rfl)
set_option maxRecDepth 20000 in
theorem t_1025 : (Jvm.Cond.fieldLink "LineStoreModel" (45 : Nat) "LineStoreModel" "as" "[I") ∈ lw_tbl := in_t5 (List.mem_of_getElem? (i := 65) rfl)
set_option maxRecDepth 20000 in
theorem t_1026 : (Jvm.Cond.fieldLink "LineStoreModel" (48 : Nat) "LineStoreModel" "oneA" "[I") ∈ lw_tbl := in_t5 (List.mem_of_getElem? (i := 66) rfl)
set_option maxRecDepth 20000 in
theorem t_1027 : (Jvm.Cond.fieldLink "LineStoreModel" (51 : Nat) "LineStoreModel" "oneB" "[I") ∈ lw_tbl := in_t5 (List.mem_of_getElem? (i := 67) rfl)
set_option maxRecDepth 20000 in
theorem t_1028 : (Jvm.Cond.fieldLink "LineStoreModel" (152 : Nat) "LineStoreModel" "ones" "I") ∈ lw_tbl := in_t5 (List.mem_of_getElem? (i := 68) rfl)
set_option maxRecDepth 20000 in
theorem t_1029 : (Jvm.Cond.fieldLink "LineStoreModel" (54 : Nat) "LineStoreModel" "struck" "[I") ∈ lw_tbl := in_t5 (List.mem_of_getElem? (i := 69) rfl)
set_option maxRecDepth 20000 in
theorem t_1030 : (Jvm.Cond.fieldLink "LineStoreModel" (57 : Nat) "LineStoreModel" "aKind" "[I") ∈ lw_tbl := in_t5 (List.mem_of_getElem? (i := 70) rfl)
set_option maxRecDepth 20000 in
theorem t_1031 : (Jvm.Cond.fieldLink "LineStoreModel" (60 : Nat) "LineStoreModel" "isNot" "[Z") ∈ lw_tbl := in_t5 (List.mem_of_getElem? (i := 71) rfl)
set_option maxRecDepth 20000 in
theorem t_1032 : (Jvm.Cond.fieldLink "LineStoreModel" (63 : Nat) "LineStoreModel" "aParts" "[I") ∈ lw_tbl := in_t5 (List.mem_of_getElem? (i := 72) rfl)
set_option maxRecDepth 20000 in
theorem t_1033 : (Jvm.Cond.fieldLink "LineStoreModel" (66 : Nat) "LineStoreModel" "pRole" "[I") ∈ lw_tbl := in_t5 (List.mem_of_getElem? (i := 73) rfl)
set_option maxRecDepth 20000 in
theorem t_1034 : (Jvm.Cond.fieldLink "LineStoreModel" (69 : Nat) "LineStoreModel" "pThing" "[I") ∈ lw_tbl := in_t5 (List.mem_of_getElem? (i := 74) rfl)
set_option maxRecDepth 20000 in
theorem t_1035 : (Jvm.Cond.fieldLink "LineStoreModel" (226 : Nat) "LineStoreModel" "atoms" "I") ∈ lw_tbl := in_t5 (List.mem_of_getElem? (i := 75) rfl)
set_option maxRecDepth 20000 in
theorem t_1036 : (Jvm.Cond.fieldLink "LineStoreModel" (229 : Nat) "LineStoreModel" "variables" "I") ∈ lw_tbl := in_t5 (List.mem_of_getElem? (i := 76) rfl)
set_option maxRecDepth 20000 in
theorem t_1037 : (Jvm.Cond.fieldLink "LineStoreModel" (207 : Nat) "LineStoreModel" "seen" "I") ∈ lw_tbl := in_t5 (List.mem_of_getElem? (i := 77) rfl)
set_option maxRecDepth 20000 in
theorem t_1038 : (Jvm.Cond.fieldLink "LineStoreModel" (72 : Nat) "LineStoreModel" "tape" "[B") ∈ lw_tbl := in_t5 (List.mem_of_getElem? (i := 78) rfl)
set_option maxRecDepth 20000 in
theorem t_1039 : (Jvm.Cond.fieldLink "LineStoreModel" (158 : Nat) "LineStoreModel" "taped" "I") ∈ lw_tbl := in_t5 (List.mem_of_getElem? (i := 79) rfl)
set_option maxRecDepth 20000 in
theorem t_1040 : (Jvm.Cond.fieldLink "LineStoreModel" (161 : Nat) "LineStoreModel" "point" "I") ∈ lw_tbl := in_t5 (List.mem_of_getElem? (i := 80) rfl)
set_option maxRecDepth 20000 in
theorem t_1041 : (Jvm.Cond.fieldLink "LineStoreModel" (164 : Nat) "LineStoreModel" "size" "I") ∈ lw_tbl := in_t5 (List.mem_of_getElem? (i := 81) rfl)
set_option maxRecDepth 20000 in
theorem t_1042 : (Jvm.Cond.fieldLink "LineStoreModel" (170 : Nat) "LineStoreModel" "begin" "I") ∈ lw_tbl := in_t5 (List.mem_of_getElem? (i := 82) rfl)
set_option maxRecDepth 20000 in
theorem t_1043 : (Jvm.Cond.fieldLink "LineStoreModel" (76 : Nat) "LineStoreModel" "faultAt" "I") ∈ lw_tbl := in_t5 (List.mem_of_getElem? (i := 83) rfl)
set_option maxRecDepth 20000 in
theorem t_1044 : (Jvm.Cond.fieldLink "LineStoreModel" (79 : Nat) "LineStoreModel" "five" "[I") ∈ lw_tbl := in_t5 (List.mem_of_getElem? (i := 84) rfl)
set_option maxRecDepth 20000 in
theorem t_1045 : (Jvm.Cond.fieldLink "LineStoreModel" (83 : Nat) "LineStoreModel" "isTrue" "[Z") ∈ lw_tbl := in_t5 (List.mem_of_getElem? (i := 85) rfl)
set_option maxRecDepth 20000 in
theorem t_1046 : (Jvm.Cond.fieldLink "LineStoreModel" (86 : Nat) "LineStoreModel" "given" "[I") ∈ lw_tbl := in_t5 (List.mem_of_getElem? (i := 86) rfl)
set_option maxRecDepth 20000 in
theorem t_1047 : (Jvm.Cond.fieldLink "LineStoreModel" (89 : Nat) "LineStoreModel" "found" "[I") ∈ lw_tbl := in_t5 (List.mem_of_getElem? (i := 87) rfl)
set_option maxRecDepth 20000 in
theorem t_1048 : (Jvm.Cond.fieldLink "LineStoreModel" (92 : Nat) "LineStoreModel" "isReached" "[Z") ∈ lw_tbl := in_t5 (List.mem_of_getElem? (i := 88) rfl)
set_option maxRecDepth 20000 in
theorem t_1049 : (Jvm.Cond.fieldLink "LineStoreModel" (95 : Nat) "LineStoreModel" "isUsed" "[Z") ∈ lw_tbl := in_t5 (List.mem_of_getElem? (i := 89) rfl)
set_option maxRecDepth 20000 in
theorem t_1050 : (Jvm.Cond.fieldLink "LineStoreModel" (98 : Nat) "LineStoreModel" "isNext" "[Z") ∈ lw_tbl := in_t5 (List.mem_of_getElem? (i := 90) rfl)
set_option maxRecDepth 20000 in
theorem t_1051 : (Jvm.Cond.lays "LineStoreModel" "LineStoreModel" "thrown" "I") ∈ lw_tbl := in_t5 (List.mem_of_getElem? (i := 91) rfl)
set_option maxRecDepth 20000 in
theorem t_1052 : (Jvm.Cond.soleField "LineStoreModel" "thrown") ∈ lw_tbl := in_t5 (List.mem_of_getElem? (i := 92) rfl)
set_option maxRecDepth 20000 in
theorem t_1053 : (Jvm.Cond.laysFinal "LineStoreModel" "LineStoreModel" "least" "[I") ∈ lw_tbl := in_t5 (List.mem_of_getElem? (i := 93) rfl)
set_option maxRecDepth 20000 in
theorem t_1054 : (Jvm.Cond.soleField "LineStoreModel" "least") ∈ lw_tbl := in_t5 (List.mem_of_getElem? (i := 94) rfl)
set_option maxRecDepth 20000 in
theorem t_1055 : (Jvm.Cond.laysFinal "LineStoreModel" "LineStoreModel" "most" "[I") ∈ lw_tbl := in_t5 (List.mem_of_getElem? (i := 95) rfl)
set_option maxRecDepth 20000 in
theorem t_1056 : (Jvm.Cond.soleField "LineStoreModel" "most") ∈ lw_tbl := in_t5 (List.mem_of_getElem? (i := 96) rfl)
set_option maxRecDepth 20000 in
theorem t_1057 : (Jvm.Cond.laysFinal "LineStoreModel" "LineStoreModel" "alone" "[I") ∈ lw_tbl := in_t5 (List.mem_of_getElem? (i := 97) rfl)
set_option maxRecDepth 20000 in
theorem t_1058 : (Jvm.Cond.soleField "LineStoreModel" "alone") ∈ lw_tbl := in_t5 (List.mem_of_getElem? (i := 98) rfl)
set_option maxRecDepth 20000 in
theorem t_1059 : (Jvm.Cond.laysFinal "LineStoreModel" "LineStoreModel" "holds" "[Z") ∈ lw_tbl := in_t5 (List.mem_of_getElem? (i := 99) rfl)
set_option maxRecDepth 20000 in
theorem t_1060 : (Jvm.Cond.soleField "LineStoreModel" "holds") ∈ lw_tbl := in_t5 (List.mem_of_getElem? (i := 100) rfl)
set_option maxRecDepth 20000 in
theorem t_1061 : (Jvm.Cond.laysFinal "LineStoreModel" "LineStoreModel" "kind" "[I") ∈ lw_tbl := in_t5 (List.mem_of_getElem? (i := 101) rfl)
set_option maxRecDepth 20000 in
theorem t_1062 : (Jvm.Cond.soleField "LineStoreModel" "kind") ∈ lw_tbl := in_t5 (List.mem_of_getElem? (i := 102) rfl)
set_option maxRecDepth 20000 in
theorem t_1063 : (Jvm.Cond.laysFinal "LineStoreModel" "LineStoreModel" "from" "[I") ∈ lw_tbl := in_t5 (List.mem_of_getElem? (i := 103) rfl)
set_option maxRecDepth 20000 in
theorem t_1064 : (Jvm.Cond.soleField "LineStoreModel" "from") ∈ lw_tbl := in_t5 (List.mem_of_getElem? (i := 104) rfl)
set_option maxRecDepth 20000 in
theorem t_1065 : (Jvm.Cond.laysFinal "LineStoreModel" "LineStoreModel" "to" "[I") ∈ lw_tbl := in_t5 (List.mem_of_getElem? (i := 105) rfl)
set_option maxRecDepth 20000 in
theorem t_1066 : (Jvm.Cond.soleField "LineStoreModel" "to") ∈ lw_tbl := in_t5 (List.mem_of_getElem? (i := 106) rfl)
set_option maxRecDepth 20000 in
theorem t_1067 : (Jvm.Cond.laysFinal "LineStoreModel" "LineStoreModel" "many" "[I") ∈ lw_tbl := in_t5 (List.mem_of_getElem? (i := 107) rfl)
set_option maxRecDepth 20000 in
theorem t_1068 : (Jvm.Cond.soleField "LineStoreModel" "many") ∈ lw_tbl := in_t5 (List.mem_of_getElem? (i := 108) rfl)
set_option maxRecDepth 20000 in
theorem t_1069 : (Jvm.Cond.laysFinal "LineStoreModel" "LineStoreModel" "role" "[I") ∈ lw_tbl := in_t5 (List.mem_of_getElem? (i := 109) rfl)
set_option maxRecDepth 20000 in
theorem t_1070 : (Jvm.Cond.soleField "LineStoreModel" "role") ∈ lw_tbl := in_t5 (List.mem_of_getElem? (i := 110) rfl)
set_option maxRecDepth 20000 in
theorem t_1071 : (Jvm.Cond.laysFinal "LineStoreModel" "LineStoreModel" "end" "[I") ∈ lw_tbl := in_t5 (List.mem_of_getElem? (i := 111) rfl)
set_option maxRecDepth 20000 in
theorem t_1072 : (Jvm.Cond.soleField "LineStoreModel" "end") ∈ lw_tbl := in_t5 (List.mem_of_getElem? (i := 112) rfl)
set_option maxRecDepth 20000 in
theorem t_1073 : (Jvm.Cond.lays "LineStoreModel" "LineStoreModel" "lines" "I") ∈ lw_tbl := in_t5 (List.mem_of_getElem? (i := 113) rfl)
set_option maxRecDepth 20000 in
theorem t_1074 : (Jvm.Cond.soleField "LineStoreModel" "lines") ∈ lw_tbl := in_t5 (List.mem_of_getElem? (i := 114) rfl)
set_option maxRecDepth 20000 in
theorem t_1075 : (Jvm.Cond.laysFinal "LineStoreModel" "LineStoreModel" "as" "[I") ∈ lw_tbl := in_t5 (List.mem_of_getElem? (i := 115) rfl)
set_option maxRecDepth 20000 in
theorem t_1076 : (Jvm.Cond.soleField "LineStoreModel" "as") ∈ lw_tbl := in_t5 (List.mem_of_getElem? (i := 116) rfl)
set_option maxRecDepth 20000 in
theorem t_1077 : (Jvm.Cond.laysFinal "LineStoreModel" "LineStoreModel" "oneA" "[I") ∈ lw_tbl := in_t5 (List.mem_of_getElem? (i := 117) rfl)
set_option maxRecDepth 20000 in
theorem t_1078 : (Jvm.Cond.soleField "LineStoreModel" "oneA") ∈ lw_tbl := in_t5 (List.mem_of_getElem? (i := 118) rfl)
set_option maxRecDepth 20000 in
theorem t_1079 : (Jvm.Cond.laysFinal "LineStoreModel" "LineStoreModel" "oneB" "[I") ∈ lw_tbl := in_t5 (List.mem_of_getElem? (i := 119) rfl)
set_option maxRecDepth 20000 in
theorem t_1080 : (Jvm.Cond.soleField "LineStoreModel" "oneB") ∈ lw_tbl := in_t5 (List.mem_of_getElem? (i := 120) rfl)
set_option maxRecDepth 20000 in
theorem t_1081 : (Jvm.Cond.lays "LineStoreModel" "LineStoreModel" "ones" "I") ∈ lw_tbl := in_t5 (List.mem_of_getElem? (i := 121) rfl)
set_option maxRecDepth 20000 in
theorem t_1082 : (Jvm.Cond.soleField "LineStoreModel" "ones") ∈ lw_tbl := in_t5 (List.mem_of_getElem? (i := 122) rfl)
set_option maxRecDepth 20000 in
theorem t_1083 : (Jvm.Cond.laysFinal "LineStoreModel" "LineStoreModel" "struck" "[I") ∈ lw_tbl := in_t5 (List.mem_of_getElem? (i := 123) rfl)
set_option maxRecDepth 20000 in
theorem t_1084 : (Jvm.Cond.soleField "LineStoreModel" "struck") ∈ lw_tbl := in_t5 (List.mem_of_getElem? (i := 124) rfl)
set_option maxRecDepth 20000 in
theorem t_1085 : (Jvm.Cond.laysFinal "LineStoreModel" "LineStoreModel" "aKind" "[I") ∈ lw_tbl := in_t5 (List.mem_of_getElem? (i := 125) rfl)
set_option maxRecDepth 20000 in
theorem t_1086 : (Jvm.Cond.soleField "LineStoreModel" "aKind") ∈ lw_tbl := in_t5 (List.mem_of_getElem? (i := 126) rfl)
set_option maxRecDepth 20000 in
theorem t_1087 : (Jvm.Cond.laysFinal "LineStoreModel" "LineStoreModel" "isNot" "[Z") ∈ lw_tbl := in_t5 (List.mem_of_getElem? (i := 127) rfl)
set_option maxRecDepth 20000 in
theorem t_1088 : (Jvm.Cond.soleField "LineStoreModel" "isNot") ∈ lw_tbl := in_t5 (List.mem_of_getElem? (i := 128) rfl)
set_option maxRecDepth 20000 in
theorem t_1089 : (Jvm.Cond.laysFinal "LineStoreModel" "LineStoreModel" "aParts" "[I") ∈ lw_tbl := in_t5 (List.mem_of_getElem? (i := 129) rfl)
set_option maxRecDepth 20000 in
theorem t_1090 : (Jvm.Cond.soleField "LineStoreModel" "aParts") ∈ lw_tbl := in_t5 (List.mem_of_getElem? (i := 130) rfl)
set_option maxRecDepth 20000 in
theorem t_1091 : (Jvm.Cond.laysFinal "LineStoreModel" "LineStoreModel" "pRole" "[I") ∈ lw_tbl := in_t5 (List.mem_of_getElem? (i := 131) rfl)
set_option maxRecDepth 20000 in
theorem t_1092 : (Jvm.Cond.soleField "LineStoreModel" "pRole") ∈ lw_tbl := in_t5 (List.mem_of_getElem? (i := 132) rfl)
set_option maxRecDepth 20000 in
theorem t_1093 : (Jvm.Cond.laysFinal "LineStoreModel" "LineStoreModel" "pThing" "[I") ∈ lw_tbl := in_t5 (List.mem_of_getElem? (i := 133) rfl)
set_option maxRecDepth 20000 in
theorem t_1094 : (Jvm.Cond.soleField "LineStoreModel" "pThing") ∈ lw_tbl := in_t5 (List.mem_of_getElem? (i := 134) rfl)
set_option maxRecDepth 20000 in
theorem t_1095 : (Jvm.Cond.lays "LineStoreModel" "LineStoreModel" "atoms" "I") ∈ lw_tbl := in_t5 (List.mem_of_getElem? (i := 135) rfl)
set_option maxRecDepth 20000 in
theorem t_1096 : (Jvm.Cond.soleField "LineStoreModel" "atoms") ∈ lw_tbl := in_t5 (List.mem_of_getElem? (i := 136) rfl)
set_option maxRecDepth 20000 in
theorem t_1097 : (Jvm.Cond.lays "LineStoreModel" "LineStoreModel" "variables" "I") ∈ lw_tbl := in_t5 (List.mem_of_getElem? (i := 137) rfl)
set_option maxRecDepth 20000 in
theorem t_1098 : (Jvm.Cond.soleField "LineStoreModel" "variables") ∈ lw_tbl := in_t5 (List.mem_of_getElem? (i := 138) rfl)
set_option maxRecDepth 20000 in
theorem t_1099 : (Jvm.Cond.lays "LineStoreModel" "LineStoreModel" "seen" "I") ∈ lw_tbl := in_t5 (List.mem_of_getElem? (i := 139) rfl)
set_option maxRecDepth 20000 in
theorem t_1100 : (Jvm.Cond.soleField "LineStoreModel" "seen") ∈ lw_tbl := in_t5 (List.mem_of_getElem? (i := 140) rfl)
set_option maxRecDepth 20000 in
theorem t_1101 : (Jvm.Cond.laysFinal "LineStoreModel" "LineStoreModel" "tape" "[B") ∈ lw_tbl := in_t5 (List.mem_of_getElem? (i := 141) rfl)
set_option maxRecDepth 20000 in
theorem t_1102 : (Jvm.Cond.soleField "LineStoreModel" "tape") ∈ lw_tbl := in_t5 (List.mem_of_getElem? (i := 142) rfl)
set_option maxRecDepth 20000 in
theorem t_1103 : (Jvm.Cond.lays "LineStoreModel" "LineStoreModel" "taped" "I") ∈ lw_tbl := in_t5 (List.mem_of_getElem? (i := 143) rfl)
set_option maxRecDepth 20000 in
theorem t_1104 : (Jvm.Cond.soleField "LineStoreModel" "taped") ∈ lw_tbl := in_t5 (List.mem_of_getElem? (i := 144) rfl)
set_option maxRecDepth 20000 in
theorem t_1105 : (Jvm.Cond.lays "LineStoreModel" "LineStoreModel" "point" "I") ∈ lw_tbl := in_t5 (List.mem_of_getElem? (i := 145) rfl)
set_option maxRecDepth 20000 in
theorem t_1106 : (Jvm.Cond.soleField "LineStoreModel" "point") ∈ lw_tbl := in_t5 (List.mem_of_getElem? (i := 146) rfl)
set_option maxRecDepth 20000 in
theorem t_1107 : (Jvm.Cond.lays "LineStoreModel" "LineStoreModel" "size" "I") ∈ lw_tbl := in_t5 (List.mem_of_getElem? (i := 147) rfl)
set_option maxRecDepth 20000 in
theorem t_1108 : (Jvm.Cond.soleField "LineStoreModel" "size") ∈ lw_tbl := in_t5 (List.mem_of_getElem? (i := 148) rfl)
set_option maxRecDepth 20000 in
theorem t_1109 : (Jvm.Cond.lays "LineStoreModel" "LineStoreModel" "begin" "I") ∈ lw_tbl := in_t5 (List.mem_of_getElem? (i := 149) rfl)
set_option maxRecDepth 20000 in
theorem t_1110 : (Jvm.Cond.soleField "LineStoreModel" "begin") ∈ lw_tbl := in_t5 (List.mem_of_getElem? (i := 150) rfl)
set_option maxRecDepth 20000 in
theorem t_1111 : (Jvm.Cond.lays "LineStoreModel" "LineStoreModel" "faultAt" "I") ∈ lw_tbl := in_t5 (List.mem_of_getElem? (i := 151) rfl)
set_option maxRecDepth 20000 in
theorem t_1112 : (Jvm.Cond.soleField "LineStoreModel" "faultAt") ∈ lw_tbl := in_t5 (List.mem_of_getElem? (i := 152) rfl)
set_option maxRecDepth 20000 in
theorem t_1113 : (Jvm.Cond.laysFinal "LineStoreModel" "LineStoreModel" "five" "[I") ∈ lw_tbl := in_t5 (List.mem_of_getElem? (i := 153) rfl)
set_option maxRecDepth 20000 in
theorem t_1114 : (Jvm.Cond.soleField "LineStoreModel" "five") ∈ lw_tbl := in_t5 (List.mem_of_getElem? (i := 154) rfl)
set_option maxRecDepth 20000 in
theorem t_1115 : (Jvm.Cond.laysFinal "LineStoreModel" "LineStoreModel" "isTrue" "[Z") ∈ lw_tbl := in_t5 (List.mem_of_getElem? (i := 155) rfl)
set_option maxRecDepth 20000 in
theorem t_1116 : (Jvm.Cond.soleField "LineStoreModel" "isTrue") ∈ lw_tbl := in_t5 (List.mem_of_getElem? (i := 156) rfl)
set_option maxRecDepth 20000 in
theorem t_1117 : (Jvm.Cond.laysFinal "LineStoreModel" "LineStoreModel" "given" "[I") ∈ lw_tbl := in_t5 (List.mem_of_getElem? (i := 157) rfl)
set_option maxRecDepth 20000 in
theorem t_1118 : (Jvm.Cond.soleField "LineStoreModel" "given") ∈ lw_tbl := in_t5 (List.mem_of_getElem? (i := 158) rfl)
set_option maxRecDepth 20000 in
theorem t_1119 : (Jvm.Cond.laysFinal "LineStoreModel" "LineStoreModel" "found" "[I") ∈ lw_tbl := in_t5 (List.mem_of_getElem? (i := 159) rfl)
set_option maxRecDepth 20000 in
theorem t_1120 : (Jvm.Cond.soleField "LineStoreModel" "found") ∈ lw_tbl := in_t5 (List.mem_of_getElem? (i := 160) rfl)
set_option maxRecDepth 20000 in
theorem t_1121 : (Jvm.Cond.laysFinal "LineStoreModel" "LineStoreModel" "isReached" "[Z") ∈ lw_tbl := in_t5 (List.mem_of_getElem? (i := 161) rfl)
set_option maxRecDepth 20000 in
theorem t_1122 : (Jvm.Cond.soleField "LineStoreModel" "isReached") ∈ lw_tbl := in_t5 (List.mem_of_getElem? (i := 162) rfl)
set_option maxRecDepth 20000 in
theorem t_1123 : (Jvm.Cond.laysFinal "LineStoreModel" "LineStoreModel" "isUsed" "[Z") ∈ lw_tbl := in_t5 (List.mem_of_getElem? (i := 163) rfl)
set_option maxRecDepth 20000 in
theorem t_1124 : (Jvm.Cond.soleField "LineStoreModel" "isUsed") ∈ lw_tbl := in_t5 (List.mem_of_getElem? (i := 164) rfl)
set_option maxRecDepth 20000 in
theorem t_1125 : (Jvm.Cond.laysFinal "LineStoreModel" "LineStoreModel" "isNext" "[Z") ∈ lw_tbl := in_t5 (List.mem_of_getElem? (i := 165) rfl)
set_option maxRecDepth 20000 in
theorem t_1126 : (Jvm.Cond.soleField "LineStoreModel" "isNext") ∈ lw_tbl := in_t5 (List.mem_of_getElem? (i := 166) rfl)
set_option maxRecDepth 20000 in
theorem t_1127 : (Jvm.Cond.superclass "LineStoreModel" "java/lang/Object") ∈ lw_tbl := in_t5 (List.mem_of_getElem? (i := 167) rfl)
set_option maxRecDepth 20000 in
theorem t_1128 : (Jvm.Cond.methodLink "LineStoreLaw" (85 : Nat) ({ cls := "LineStoreModel", name := "ends", desc := "(IIII)V" } : Jvm.MethodName)) ∈ lw_tbl := in_t5 (List.mem_of_getElem? (i := 168) rfl)
set_option maxRecDepth 20000 in
theorem t_1129 : (Jvm.Cond.instanceMethod ({ cls := "LineStoreModel", name := "ends", desc := "(IIII)V" } : Jvm.MethodName)) ∈ lw_tbl := in_t5 (List.mem_of_getElem? (i := 169) rfl)
set_option maxRecDepth 20000 in
theorem t_1130 : (Jvm.Cond.selects "LineStoreModel" ({ cls := "LineStoreModel", name := "ends", desc := "(IIII)V" } : Jvm.MethodName) ({ cls := "LineStoreModel", name := "ends", desc := "(IIII)V" } : Jvm.MethodName)) ∈ lw_tbl := in_t5 (List.mem_of_getElem? (i := 170) rfl)
set_option maxRecDepth 20000 in
theorem t_1131 : (Jvm.Cond.code ({ cls := "LineStoreModel", name := "ends", desc := "(IIII)V" } : Jvm.MethodName) prog_12_method_9_code (5 : Nat) (Option.none : Option Jvm.ClassFile.FieldType)) ∈ lw_tbl := in_t5 (List.mem_of_getElem? (i := 171) rfl)
set_option maxRecDepth 20000 in
theorem t_1132 : (Jvm.Cond.methodLink "LineStoreModel" (111 : Nat) ({ cls := "LineStoreModel", name := "noKind", desc := "(I)Z" } : Jvm.MethodName)) ∈ lw_tbl := in_t5 (List.mem_of_getElem? (i := 172) rfl)
set_option maxRecDepth 20000 in
theorem t_1133 : (Jvm.Cond.static ({ cls := "LineStoreModel", name := "noKind", desc := "(I)Z" } : Jvm.MethodName)) ∈ lw_tbl := in_t5 (List.mem_of_getElem? (i := 173) rfl)
set_option maxRecDepth 20000 in
theorem t_1134 : (Jvm.Cond.code ({ cls := "LineStoreModel", name := "noKind", desc := "(I)Z" } : Jvm.MethodName) prog_12_method_7_code (1 : Nat) (Option.some Jvm.ClassFile.FieldType.boolean)) ∈ lw_tbl := in_t5 (List.mem_of_getElem? (i := 174) rfl)
set_option maxRecDepth 20000 in
theorem t_1135 : (Jvm.Cond.methodLink "LineStoreModel" (104 : Nat) ({ cls := "LineStoreModel", name := "in", desc := "(III)Z" } : Jvm.MethodName)) ∈ lw_tbl := in_t5 (List.mem_of_getElem? (i := 175) rfl)
set_option maxRecDepth 20000 in
theorem t_1136 : (Jvm.Cond.static ({ cls := "LineStoreModel", name := "in", desc := "(III)Z" } : Jvm.MethodName)) ∈ lw_tbl := in_t5 (List.mem_of_getElem? (i := 176) rfl)
set_option maxRecDepth 20000 in
theorem t_1137 : (Jvm.Cond.code ({ cls := "LineStoreModel", name := "in", desc := "(III)Z" } : Jvm.MethodName) prog_12_method_3_code (3 : Nat) (Option.some Jvm.ClassFile.FieldType.boolean)) ∈ lw_tbl := in_t5 (List.mem_of_getElem? (i := 177) rfl)
set_option maxRecDepth 20000 in
theorem t_1138 : (Jvm.Cond.methodLink "LineStoreModel" (115 : Nat) ({ cls := "LineStoreModel", name := "noRole", desc := "(I)Z" } : Jvm.MethodName)) ∈ lw_tbl := in_t5 (List.mem_of_getElem? (i := 178) rfl)
set_option maxRecDepth 20000 in
theorem t_1139 : (Jvm.Cond.static ({ cls := "LineStoreModel", name := "noRole", desc := "(I)Z" } : Jvm.MethodName)) ∈ lw_tbl := in_t5 (List.mem_of_getElem? (i := 179) rfl)
set_option maxRecDepth 20000 in
theorem t_1140 : (Jvm.Cond.code ({ cls := "LineStoreModel", name := "noRole", desc := "(I)Z" } : Jvm.MethodName) prog_12_method_6_code (1 : Nat) (Option.some Jvm.ClassFile.FieldType.boolean)) ∈ lw_tbl := in_t5 (List.mem_of_getElem? (i := 180) rfl)
set_option maxRecDepth 20000 in
theorem t_1141 : (Jvm.Cond.methodLink "LineStoreModel" (118 : Nat) ({ cls := "LineStoreModel", name := "throwsIf", desc := "(ZI)Z" } : Jvm.MethodName)) ∈ lw_tbl := in_t5 (List.mem_of_getElem? (i := 181) rfl)
set_option maxRecDepth 20000 in
theorem t_1142 : (Jvm.Cond.privateMethod ({ cls := "LineStoreModel", name := "throwsIf", desc := "(ZI)Z" } : Jvm.MethodName)) ∈ lw_tbl := in_t5 (List.mem_of_getElem? (i := 182) rfl)
set_option maxRecDepth 20000 in
theorem t_1143 : (Jvm.Cond.instanceMethod ({ cls := "LineStoreModel", name := "throwsIf", desc := "(ZI)Z" } : Jvm.MethodName)) ∈ lw_tbl := in_t5 (List.mem_of_getElem? (i := 183) rfl)
set_option maxRecDepth 20000 in
theorem t_1144 : (Jvm.Cond.code ({ cls := "LineStoreModel", name := "throwsIf", desc := "(ZI)Z" } : Jvm.MethodName) prog_12_method_2_code (3 : Nat) (Option.some Jvm.ClassFile.FieldType.boolean)) ∈ lw_tbl := in_t5 (List.mem_of_getElem? (i := 184) rfl)
set_option maxRecDepth 20000 in
theorem t_1145 : (Jvm.Cond.methodLink "LineStoreLaw" (92 : Nat) ({ cls := "LineStoreModel", name := "alone", desc := "(III)V" } : Jvm.MethodName)) ∈ lw_tbl := in_t5 (List.mem_of_getElem? (i := 185) rfl)
set_option maxRecDepth 20000 in
theorem t_1146 : (Jvm.Cond.instanceMethod ({ cls := "LineStoreModel", name := "alone", desc := "(III)V" } : Jvm.MethodName)) ∈ lw_tbl := in_t5 (List.mem_of_getElem? (i := 186) rfl)
set_option maxRecDepth 20000 in
theorem t_1147 : (Jvm.Cond.selects "LineStoreModel" ({ cls := "LineStoreModel", name := "alone", desc := "(III)V" } : Jvm.MethodName) ({ cls := "LineStoreModel", name := "alone", desc := "(III)V" } : Jvm.MethodName)) ∈ lw_tbl := in_t5 (List.mem_of_getElem? (i := 187) rfl)
set_option maxRecDepth 20000 in
theorem t_1148 : (Jvm.Cond.code ({ cls := "LineStoreModel", name := "alone", desc := "(III)V" } : Jvm.MethodName) prog_12_method_10_code (4 : Nat) (Option.none : Option Jvm.ClassFile.FieldType)) ∈ lw_tbl := in_t5 (List.mem_of_getElem? (i := 188) rfl)
set_option maxRecDepth 20000 in
theorem t_1149 : (Jvm.Cond.methodLink "LineStoreLaw" (96 : Nat) ({ cls := "LineStoreModel", name := "holds", desc := "(IZ)Z" } : Jvm.MethodName)) ∈ lw_tbl := in_t5 (List.mem_of_getElem? (i := 189) rfl)
set_option maxRecDepth 20000 in
theorem t_1150 : (Jvm.Cond.instanceMethod ({ cls := "LineStoreModel", name := "holds", desc := "(IZ)Z" } : Jvm.MethodName)) ∈ lw_tbl := in_t5 (List.mem_of_getElem? (i := 190) rfl)
set_option maxRecDepth 20000 in
theorem t_1151 : (Jvm.Cond.selects "LineStoreModel" ({ cls := "LineStoreModel", name := "holds", desc := "(IZ)Z" } : Jvm.MethodName) ({ cls := "LineStoreModel", name := "holds", desc := "(IZ)Z" } : Jvm.MethodName)) ∈ lw_tbl := in_t5 (List.mem_of_getElem? (i := 191) rfl)
set_option maxRecDepth 20000 in
theorem t_1152 : (Jvm.Cond.code ({ cls := "LineStoreModel", name := "holds", desc := "(IZ)Z" } : Jvm.MethodName) prog_12_method_11_code (4 : Nat) (Option.some Jvm.ClassFile.FieldType.boolean)) ∈ lw_tbl := in_t5 (List.mem_of_getElem? (i := 192) rfl)
set_option maxRecDepth 20000 in
theorem t_1153 : (Jvm.Cond.methodLink "LineStoreLaw" (100 : Nat) ({ cls := "LineStoreModel", name := "draft", desc := "(IZI)I" } : Jvm.MethodName)) ∈ lw_tbl := in_t5 (List.mem_of_getElem? (i := 193) rfl)
set_option maxRecDepth 20000 in
theorem t_1154 : (Jvm.Cond.instanceMethod ({ cls := "LineStoreModel", name := "draft", desc := "(IZI)I" } : Jvm.MethodName)) ∈ lw_tbl := in_t5 (List.mem_of_getElem? (i := 194) rfl)
set_option maxRecDepth 20000 in
theorem t_1155 : (Jvm.Cond.selects "LineStoreModel" ({ cls := "LineStoreModel", name := "draft", desc := "(IZI)I" } : Jvm.MethodName) ({ cls := "LineStoreModel", name := "draft", desc := "(IZI)I" } : Jvm.MethodName)) ∈ lw_tbl := in_t5 (List.mem_of_getElem? (i := 195) rfl)
set_option maxRecDepth 20000 in
theorem t_1156 : (Jvm.Cond.code ({ cls := "LineStoreModel", name := "draft", desc := "(IZI)I" } : Jvm.MethodName) prog_12_method_12_code (4 : Nat) (Option.some Jvm.ClassFile.FieldType.int)) ∈ lw_tbl := in_t5 (List.mem_of_getElem? (i := 196) rfl)
set_option maxRecDepth 20000 in
theorem t_1157 : (Jvm.Cond.methodLink "LineStoreModel" (122 : Nat) ({ cls := "LineStoreModel", name := "noLine", desc := "(I)Z" } : Jvm.MethodName)) ∈ lw_tbl := in_t5 (List.mem_of_getElem? (i := 197) rfl)
set_option maxRecDepth 20000 in
theorem t_1158 : (Jvm.Cond.privateMethod ({ cls := "LineStoreModel", name := "noLine", desc := "(I)Z" } : Jvm.MethodName)) ∈ lw_tbl := in_t5 (List.mem_of_getElem? (i := 198) rfl)
set_option maxRecDepth 20000 in
theorem t_1159 : (Jvm.Cond.instanceMethod ({ cls := "LineStoreModel", name := "noLine", desc := "(I)Z" } : Jvm.MethodName)) ∈ lw_tbl := in_t5 (List.mem_of_getElem? (i := 199) rfl)
set_option maxRecDepth 20000 in
theorem t_1160 : (Jvm.Cond.code ({ cls := "LineStoreModel", name := "noLine", desc := "(I)Z" } : Jvm.MethodName) prog_12_method_8_code (2 : Nat) (Option.some Jvm.ClassFile.FieldType.boolean)) ∈ lw_tbl := in_t5 (List.mem_of_getElem? (i := 200) rfl)
set_option maxRecDepth 20000 in
theorem t_1161 : (Jvm.Cond.methodLink "LineStoreModel" (125 : Nat) ({ cls := "LineStoreModel", name := "noThing", desc := "(I)Z" } : Jvm.MethodName)) ∈ lw_tbl := in_t5 (List.mem_of_getElem? (i := 201) rfl)
set_option maxRecDepth 20000 in
theorem t_1162 : (Jvm.Cond.static ({ cls := "LineStoreModel", name := "noThing", desc := "(I)Z" } : Jvm.MethodName)) ∈ lw_tbl := in_t5 (List.mem_of_getElem? (i := 202) rfl)
set_option maxRecDepth 20000 in
theorem t_1163 : (Jvm.Cond.code ({ cls := "LineStoreModel", name := "noThing", desc := "(I)Z" } : Jvm.MethodName) prog_12_method_5_code (1 : Nat) (Option.some Jvm.ClassFile.FieldType.boolean)) ∈ lw_tbl := in_t5 (List.mem_of_getElem? (i := 203) rfl)
set_option maxRecDepth 20000 in
theorem t_1164 : (Jvm.Cond.methodLink "LineStoreLaw" (104 : Nat) ({ cls := "LineStoreModel", name := "put", desc := "(III)I" } : Jvm.MethodName)) ∈ lw_tbl := in_t5 (List.mem_of_getElem? (i := 204) rfl)
set_option maxRecDepth 20000 in
theorem t_1165 : (Jvm.Cond.instanceMethod ({ cls := "LineStoreModel", name := "put", desc := "(III)I" } : Jvm.MethodName)) ∈ lw_tbl := in_t5 (List.mem_of_getElem? (i := 205) rfl)
set_option maxRecDepth 20000 in
theorem t_1166 : (Jvm.Cond.selects "LineStoreModel" ({ cls := "LineStoreModel", name := "put", desc := "(III)I" } : Jvm.MethodName) ({ cls := "LineStoreModel", name := "put", desc := "(III)I" } : Jvm.MethodName)) ∈ lw_tbl := in_t5 (List.mem_of_getElem? (i := 206) rfl)
set_option maxRecDepth 20000 in
theorem t_1167 : (Jvm.Cond.code ({ cls := "LineStoreModel", name := "put", desc := "(III)I" } : Jvm.MethodName) prog_12_method_17_code (7 : Nat) (Option.some Jvm.ClassFile.FieldType.int)) ∈ lw_tbl := in_t5 (List.mem_of_getElem? (i := 207) rfl)
set_option maxRecDepth 20000 in
theorem t_1168 : (Jvm.Cond.methodLink "LineStoreModel" (139 : Nat) ({ cls := "LineStoreModel", name := "refused", desc := "(III)I" } : Jvm.MethodName)) ∈ lw_tbl := in_t5 (List.mem_of_getElem? (i := 208) rfl)
set_option maxRecDepth 20000 in
theorem t_1169 : (Jvm.Cond.privateMethod ({ cls := "LineStoreModel", name := "refused", desc := "(III)I" } : Jvm.MethodName)) ∈ lw_tbl := in_t5 (List.mem_of_getElem? (i := 209) rfl)
set_option maxRecDepth 20000 in
theorem t_1170 : (Jvm.Cond.instanceMethod ({ cls := "LineStoreModel", name := "refused", desc := "(III)I" } : Jvm.MethodName)) ∈ lw_tbl := in_t5 (List.mem_of_getElem? (i := 210) rfl)
set_option maxRecDepth 20000 in
theorem t_1171 : (Jvm.Cond.code ({ cls := "LineStoreModel", name := "refused", desc := "(III)I" } : Jvm.MethodName) prog_12_method_16_code (8 : Nat) (Option.some Jvm.ClassFile.FieldType.int)) ∈ lw_tbl := in_t5 (List.mem_of_getElem? (i := 211) rfl)
set_option maxRecDepth 20000 in
theorem t_1172 : (Jvm.Cond.methodLink "LineStoreModel" (135 : Nat) ({ cls := "LineStoreModel", name := "degreeOf", desc := "(IIII)I" } : Jvm.MethodName)) ∈ lw_tbl := in_t5 (List.mem_of_getElem? (i := 212) rfl)
set_option maxRecDepth 20000 in
theorem t_1173 : (Jvm.Cond.privateMethod ({ cls := "LineStoreModel", name := "degreeOf", desc := "(IIII)I" } : Jvm.MethodName)) ∈ lw_tbl := in_t5 (List.mem_of_getElem? (i := 213) rfl)
set_option maxRecDepth 20000 in
theorem t_1174 : (Jvm.Cond.instanceMethod ({ cls := "LineStoreModel", name := "degreeOf", desc := "(IIII)I" } : Jvm.MethodName)) ∈ lw_tbl := in_t5 (List.mem_of_getElem? (i := 214) rfl)
set_option maxRecDepth 20000 in
theorem t_1175 : (Jvm.Cond.code ({ cls := "LineStoreModel", name := "degreeOf", desc := "(IIII)I" } : Jvm.MethodName) prog_12_method_15_code (7 : Nat) (Option.some Jvm.ClassFile.FieldType.int)) ∈ lw_tbl := in_t5 (List.mem_of_getElem? (i := 215) rfl)
set_option maxRecDepth 20000 in
theorem t_1176 : (Jvm.Cond.methodLink "LineStoreModel" (128 : Nat) ({ cls := "LineStoreModel", name := "isOn", desc := "(II)Z" } : Jvm.MethodName)) ∈ lw_tbl := in_t5 (List.mem_of_getElem? (i := 216) rfl)
set_option maxRecDepth 20000 in
theorem t_1177 : (Jvm.Cond.privateMethod ({ cls := "LineStoreModel", name := "isOn", desc := "(II)Z" } : Jvm.MethodName)) ∈ lw_tbl := in_t5 (List.mem_of_getElem? (i := 217) rfl)
set_option maxRecDepth 20000 in
theorem t_1178 : (Jvm.Cond.instanceMethod ({ cls := "LineStoreModel", name := "isOn", desc := "(II)Z" } : Jvm.MethodName)) ∈ lw_tbl := in_t5 (List.mem_of_getElem? (i := 218) rfl)
set_option maxRecDepth 20000 in
theorem t_1179 : (Jvm.Cond.code ({ cls := "LineStoreModel", name := "isOn", desc := "(II)Z" } : Jvm.MethodName) prog_12_method_14_code (3 : Nat) (Option.some Jvm.ClassFile.FieldType.boolean)) ∈ lw_tbl := in_t5 (List.mem_of_getElem? (i := 219) rfl)
set_option maxRecDepth 20000 in
theorem t_1180 : (Jvm.Cond.methodLink "LineStoreModel" (132 : Nat) ({ cls := "LineStoreModel", name := "has", desc := "(III)Z" } : Jvm.MethodName)) ∈ lw_tbl := in_t5 (List.mem_of_getElem? (i := 220) rfl)
set_option maxRecDepth 20000 in
theorem t_1181 : (Jvm.Cond.privateMethod ({ cls := "LineStoreModel", name := "has", desc := "(III)Z" } : Jvm.MethodName)) ∈ lw_tbl := in_t5 (List.mem_of_getElem? (i := 221) rfl)
set_option maxRecDepth 20000 in
theorem t_1182 : (Jvm.Cond.instanceMethod ({ cls := "LineStoreModel", name := "has", desc := "(III)Z" } : Jvm.MethodName)) ∈ lw_tbl := in_t5 (List.mem_of_getElem? (i := 222) rfl)
set_option maxRecDepth 20000 in
theorem t_1183 : (Jvm.Cond.code ({ cls := "LineStoreModel", name := "has", desc := "(III)Z" } : Jvm.MethodName) prog_12_method_13_code (6 : Nat) (Option.some Jvm.ClassFile.FieldType.boolean)) ∈ lw_tbl := in_t5 (List.mem_of_getElem? (i := 223) rfl)
set_option maxRecDepth 20000 in
theorem t_1184 : (Jvm.Cond.methodLink "LineStoreLaw" (108 : Nat) ({ cls := "LineStoreModel", name := "strike", desc := "(II)I" } : Jvm.MethodName)) ∈ lw_tbl := in_t5 (List.mem_of_getElem? (i := 224) rfl)
set_option maxRecDepth 20000 in
theorem t_1185 : (Jvm.Cond.instanceMethod ({ cls := "LineStoreModel", name := "strike", desc := "(II)I" } : Jvm.MethodName)) ∈ lw_tbl := in_t5 (List.mem_of_getElem? (i := 225) rfl)
set_option maxRecDepth 20000 in
theorem t_1186 : (Jvm.Cond.selects "LineStoreModel" ({ cls := "LineStoreModel", name := "strike", desc := "(II)I" } : Jvm.MethodName) ({ cls := "LineStoreModel", name := "strike", desc := "(II)I" } : Jvm.MethodName)) ∈ lw_tbl := in_t5 (List.mem_of_getElem? (i := 226) rfl)
set_option maxRecDepth 20000 in
theorem t_1187 : (Jvm.Cond.code ({ cls := "LineStoreModel", name := "strike", desc := "(II)I" } : Jvm.MethodName) prog_12_method_19_code (6 : Nat) (Option.some Jvm.ClassFile.FieldType.int)) ∈ lw_tbl := in_t5 (List.mem_of_getElem? (i := 227) rfl)
set_option maxRecDepth 20000 in
theorem t_1188 : (Jvm.Cond.methodLink "LineStoreModel" (143 : Nat) ({ cls := "LineStoreModel", name := "hangs", desc := "(II)Z" } : Jvm.MethodName)) ∈ lw_tbl := in_t5 (List.mem_of_getElem? (i := 228) rfl)
set_option maxRecDepth 20000 in
theorem t_1189 : (Jvm.Cond.privateMethod ({ cls := "LineStoreModel", name := "hangs", desc := "(II)Z" } : Jvm.MethodName)) ∈ lw_tbl := in_t5 (List.mem_of_getElem? (i := 229) rfl)
set_option maxRecDepth 20000 in
theorem t_1190 : (Jvm.Cond.instanceMethod ({ cls := "LineStoreModel", name := "hangs", desc := "(II)Z" } : Jvm.MethodName)) ∈ lw_tbl := in_t5 (List.mem_of_getElem? (i := 230) rfl)
set_option maxRecDepth 20000 in
theorem t_1191 : (Jvm.Cond.code ({ cls := "LineStoreModel", name := "hangs", desc := "(II)Z" } : Jvm.MethodName) prog_12_method_18_code (5 : Nat) (Option.some Jvm.ClassFile.FieldType.boolean)) ∈ lw_tbl := in_t5 (List.mem_of_getElem? (i := 231) rfl)
set_option maxRecDepth 20000 in
theorem t_1192 : (Jvm.Cond.methodLink "LineStoreModel" (146 : Nat) ({ cls := "java/lang/Math", name := "max", desc := "(II)I" } : Jvm.MethodName)) ∈ lw_tbl := in_t5 (List.mem_of_getElem? (i := 232) rfl)
set_option maxRecDepth 20000 in
theorem t_1193 : (Jvm.Cond.methodLink "LineStoreLaw" (123 : Nat) ({ cls := "LineStoreModel", name := "look", desc := "(II)I" } : Jvm.MethodName)) ∈ lw_tbl := in_t5 (List.mem_of_getElem? (i := 233) rfl)
set_option maxRecDepth 20000 in
theorem t_1194 : (Jvm.Cond.instanceMethod ({ cls := "LineStoreModel", name := "look", desc := "(II)I" } : Jvm.MethodName)) ∈ lw_tbl := in_t5 (List.mem_of_getElem? (i := 234) rfl)
set_option maxRecDepth 20000 in
theorem t_1195 : (Jvm.Cond.selects "LineStoreModel" ({ cls := "LineStoreModel", name := "look", desc := "(II)I" } : Jvm.MethodName) ({ cls := "LineStoreModel", name := "look", desc := "(II)I" } : Jvm.MethodName)) ∈ lw_tbl := in_t5 (List.mem_of_getElem? (i := 235) rfl)
set_option maxRecDepth 20000 in
theorem t_1196 : (Jvm.Cond.code ({ cls := "LineStoreModel", name := "look", desc := "(II)I" } : Jvm.MethodName) prog_12_method_20_code (5 : Nat) (Option.some Jvm.ClassFile.FieldType.int)) ∈ lw_tbl := in_t5 (List.mem_of_getElem? (i := 236) rfl)
set_option maxRecDepth 20000 in
theorem t_1197 : (Jvm.Cond.methodLink "LineStoreLaw" (126 : Nat) ({ cls := "LineStoreModel", name := "ended", desc := "(III)I" } : Jvm.MethodName)) ∈ lw_tbl := in_t5 (List.mem_of_getElem? (i := 237) rfl)
set_option maxRecDepth 20000 in
theorem t_1198 : (Jvm.Cond.instanceMethod ({ cls := "LineStoreModel", name := "ended", desc := "(III)I" } : Jvm.MethodName)) ∈ lw_tbl := in_t5 (List.mem_of_getElem? (i := 238) rfl)
set_option maxRecDepth 20000 in
theorem t_1199 : (Jvm.Cond.selects "LineStoreModel" ({ cls := "LineStoreModel", name := "ended", desc := "(III)I" } : Jvm.MethodName) ({ cls := "LineStoreModel", name := "ended", desc := "(III)I" } : Jvm.MethodName)) ∈ lw_tbl := in_t5 (List.mem_of_getElem? (i := 239) rfl)
set_option maxRecDepth 20000 in
theorem t_1200 : (Jvm.Cond.code ({ cls := "LineStoreModel", name := "ended", desc := "(III)I" } : Jvm.MethodName) prog_12_method_21_code (5 : Nat) (Option.some Jvm.ClassFile.FieldType.int)) ∈ lw_tbl := in_t6 (List.mem_of_getElem? (i := 0) rfl)
set_option maxRecDepth 20000 in
theorem t_1201 : (Jvm.Cond.methodLink "LineStoreLaw" (111 : Nat) ({ cls := "LineStoreModel", name := "one", desc := "(II)Z" } : Jvm.MethodName)) ∈ lw_tbl := in_t6 (List.mem_of_getElem? (i := 1) rfl)
set_option maxRecDepth 20000 in
theorem t_1202 : (Jvm.Cond.instanceMethod ({ cls := "LineStoreModel", name := "one", desc := "(II)Z" } : Jvm.MethodName)) ∈ lw_tbl := in_t6 (List.mem_of_getElem? (i := 2) rfl)
set_option maxRecDepth 20000 in
theorem t_1203 : (Jvm.Cond.selects "LineStoreModel" ({ cls := "LineStoreModel", name := "one", desc := "(II)Z" } : Jvm.MethodName) ({ cls := "LineStoreModel", name := "one", desc := "(II)Z" } : Jvm.MethodName)) ∈ lw_tbl := in_t6 (List.mem_of_getElem? (i := 3) rfl)
set_option maxRecDepth 20000 in
theorem t_1204 : (Jvm.Cond.code ({ cls := "LineStoreModel", name := "one", desc := "(II)Z" } : Jvm.MethodName) prog_12_method_23_code (3 : Nat) (Option.some Jvm.ClassFile.FieldType.boolean)) ∈ lw_tbl := in_t6 (List.mem_of_getElem? (i := 4) rfl)
set_option maxRecDepth 20000 in
theorem t_1205 : (Jvm.Cond.methodLink "LineStoreLaw" (116 : Nat) ({ cls := "LineStoreModel", name := "part", desc := "()Z" } : Jvm.MethodName)) ∈ lw_tbl := in_t6 (List.mem_of_getElem? (i := 5) rfl)
set_option maxRecDepth 20000 in
theorem t_1206 : (Jvm.Cond.instanceMethod ({ cls := "LineStoreModel", name := "part", desc := "()Z" } : Jvm.MethodName)) ∈ lw_tbl := in_t6 (List.mem_of_getElem? (i := 6) rfl)
set_option maxRecDepth 20000 in
theorem t_1207 : (Jvm.Cond.selects "LineStoreModel" ({ cls := "LineStoreModel", name := "part", desc := "()Z" } : Jvm.MethodName) ({ cls := "LineStoreModel", name := "part", desc := "()Z" } : Jvm.MethodName)) ∈ lw_tbl := in_t6 (List.mem_of_getElem? (i := 7) rfl)
set_option maxRecDepth 20000 in
theorem t_1208 : (Jvm.Cond.code ({ cls := "LineStoreModel", name := "part", desc := "()Z" } : Jvm.MethodName) prog_12_method_24_code (1 : Nat) (Option.some Jvm.ClassFile.FieldType.boolean)) ∈ lw_tbl := in_t6 (List.mem_of_getElem? (i := 8) rfl)
set_option maxRecDepth 20000 in
theorem t_1209 : (Jvm.Cond.methodLink "LineStoreLaw" (120 : Nat) ({ cls := "LineStoreModel", name := "as", desc := "(I)I" } : Jvm.MethodName)) ∈ lw_tbl := in_t6 (List.mem_of_getElem? (i := 9) rfl)
set_option maxRecDepth 20000 in
theorem t_1210 : (Jvm.Cond.instanceMethod ({ cls := "LineStoreModel", name := "as", desc := "(I)I" } : Jvm.MethodName)) ∈ lw_tbl := in_t6 (List.mem_of_getElem? (i := 10) rfl)
set_option maxRecDepth 20000 in
theorem t_1211 : (Jvm.Cond.selects "LineStoreModel" ({ cls := "LineStoreModel", name := "as", desc := "(I)I" } : Jvm.MethodName) ({ cls := "LineStoreModel", name := "as", desc := "(I)I" } : Jvm.MethodName)) ∈ lw_tbl := in_t6 (List.mem_of_getElem? (i := 11) rfl)
set_option maxRecDepth 20000 in
theorem t_1212 : (Jvm.Cond.code ({ cls := "LineStoreModel", name := "as", desc := "(I)I" } : Jvm.MethodName) prog_12_method_25_code (2 : Nat) (Option.some Jvm.ClassFile.FieldType.int)) ∈ lw_tbl := in_t6 (List.mem_of_getElem? (i := 12) rfl)
set_option maxRecDepth 20000 in
theorem t_1213 : (Jvm.Cond.methodLink "LineStoreLaw" (74 : Nat) ({ cls := "LineStoreModel", name := "feed", desc := "(IIIII)I" } : Jvm.MethodName)) ∈ lw_tbl := in_t6 (List.mem_of_getElem? (i := 13) rfl)
set_option maxRecDepth 20000 in
theorem t_1214 : (Jvm.Cond.instanceMethod ({ cls := "LineStoreModel", name := "feed", desc := "(IIIII)I" } : Jvm.MethodName)) ∈ lw_tbl := in_t6 (List.mem_of_getElem? (i := 14) rfl)
set_option maxRecDepth 20000 in
theorem t_1215 : (Jvm.Cond.selects "LineStoreModel" ({ cls := "LineStoreModel", name := "feed", desc := "(IIIII)I" } : Jvm.MethodName) ({ cls := "LineStoreModel", name := "feed", desc := "(IIIII)I" } : Jvm.MethodName)) ∈ lw_tbl := in_t6 (List.mem_of_getElem? (i := 15) rfl)
set_option maxRecDepth 20000 in
theorem t_1216 : (Jvm.Cond.code ({ cls := "LineStoreModel", name := "feed", desc := "(IIIII)I" } : Jvm.MethodName) prog_12_method_26_code (7 : Nat) (Option.some Jvm.ClassFile.FieldType.int)) ∈ lw_tbl := in_t6 (List.mem_of_getElem? (i := 16) rfl)
set_option maxRecDepth 20000 in
theorem t_1217 : (Jvm.Cond.methodLink "LineStoreLaw" (79 : Nat) ({ cls := "LineStoreModel", name := "end", desc := "(I)Z" } : Jvm.MethodName)) ∈ lw_tbl := in_t6 (List.mem_of_getElem? (i := 17) rfl)
set_option maxRecDepth 20000 in
theorem t_1218 : (Jvm.Cond.instanceMethod ({ cls := "LineStoreModel", name := "end", desc := "(I)Z" } : Jvm.MethodName)) ∈ lw_tbl := in_t6 (List.mem_of_getElem? (i := 18) rfl)
set_option maxRecDepth 20000 in
theorem t_1219 : (Jvm.Cond.selects "LineStoreModel" ({ cls := "LineStoreModel", name := "end", desc := "(I)Z" } : Jvm.MethodName) ({ cls := "LineStoreModel", name := "end", desc := "(I)Z" } : Jvm.MethodName)) ∈ lw_tbl := in_t6 (List.mem_of_getElem? (i := 19) rfl)
set_option maxRecDepth 20000 in
theorem t_1220 : (Jvm.Cond.code ({ cls := "LineStoreModel", name := "end", desc := "(I)Z" } : Jvm.MethodName) prog_12_method_27_code (2 : Nat) (Option.some Jvm.ClassFile.FieldType.boolean)) ∈ lw_tbl := in_t6 (List.mem_of_getElem? (i := 20) rfl)
set_option maxRecDepth 20000 in
theorem t_1221 : (Jvm.Cond.methodLink "LineStoreLaw" (130 : Nat) ({ cls := "LineStoreModel", name := "question", desc := "()I" } : Jvm.MethodName)) ∈ lw_tbl := in_t6 (List.mem_of_getElem? (i := 21) rfl)
set_option maxRecDepth 20000 in
theorem t_1222 : (Jvm.Cond.instanceMethod ({ cls := "LineStoreModel", name := "question", desc := "()I" } : Jvm.MethodName)) ∈ lw_tbl := in_t6 (List.mem_of_getElem? (i := 22) rfl)
set_option maxRecDepth 20000 in
theorem t_1223 : (Jvm.Cond.selects "LineStoreModel" ({ cls := "LineStoreModel", name := "question", desc := "()I" } : Jvm.MethodName) ({ cls := "LineStoreModel", name := "question", desc := "()I" } : Jvm.MethodName)) ∈ lw_tbl := in_t6 (List.mem_of_getElem? (i := 23) rfl)
set_option maxRecDepth 20000 in
theorem t_1224 : (Jvm.Cond.code ({ cls := "LineStoreModel", name := "question", desc := "()I" } : Jvm.MethodName) prog_12_method_37_code (4 : Nat) (Option.some Jvm.ClassFile.FieldType.int)) ∈ lw_tbl := in_t6 (List.mem_of_getElem? (i := 24) rfl)
set_option maxRecDepth 20000 in
theorem t_1225 : (Jvm.Cond.methodLink "LineStoreModel" (223 : Nat) ({ cls := "LineStoreModel", name := "readAll", desc := "()I" } : Jvm.MethodName)) ∈ lw_tbl := in_t6 (List.mem_of_getElem? (i := 25) rfl)
set_option maxRecDepth 20000 in
theorem t_1226 : (Jvm.Cond.privateMethod ({ cls := "LineStoreModel", name := "readAll", desc := "()I" } : Jvm.MethodName)) ∈ lw_tbl := in_t6 (List.mem_of_getElem? (i := 26) rfl)
set_option maxRecDepth 20000 in
theorem t_1227 : (Jvm.Cond.instanceMethod ({ cls := "LineStoreModel", name := "readAll", desc := "()I" } : Jvm.MethodName)) ∈ lw_tbl := in_t6 (List.mem_of_getElem? (i := 27) rfl)
set_option maxRecDepth 20000 in
theorem t_1228 : (Jvm.Cond.code ({ cls := "LineStoreModel", name := "readAll", desc := "()I" } : Jvm.MethodName) prog_12_method_36_code (2 : Nat) (Option.some Jvm.ClassFile.FieldType.int)) ∈ lw_tbl := in_t6 (List.mem_of_getElem? (i := 28) rfl)
set_option maxRecDepth 20000 in
theorem t_1229 : (Jvm.Cond.methodLink "LineStoreModel" (220 : Nat) ({ cls := "LineStoreModel", name := "readAtom", desc := "(I)Z" } : Jvm.MethodName)) ∈ lw_tbl := in_t6 (List.mem_of_getElem? (i := 29) rfl)
set_option maxRecDepth 20000 in
theorem t_1230 : (Jvm.Cond.privateMethod ({ cls := "LineStoreModel", name := "readAtom", desc := "(I)Z" } : Jvm.MethodName)) ∈ lw_tbl := in_t6 (List.mem_of_getElem? (i := 30) rfl)
set_option maxRecDepth 20000 in
theorem t_1231 : (Jvm.Cond.instanceMethod ({ cls := "LineStoreModel", name := "readAtom", desc := "(I)Z" } : Jvm.MethodName)) ∈ lw_tbl := in_t6 (List.mem_of_getElem? (i := 31) rfl)
set_option maxRecDepth 20000 in
theorem t_1232 : (Jvm.Cond.code ({ cls := "LineStoreModel", name := "readAtom", desc := "(I)Z" } : Jvm.MethodName) prog_12_method_35_code (3 : Nat) (Option.some Jvm.ClassFile.FieldType.boolean)) ∈ lw_tbl := in_t6 (List.mem_of_getElem? (i := 32) rfl)
set_option maxRecDepth 20000 in
theorem t_1233 : (Jvm.Cond.methodLink "LineStoreModel" (186 : Nat) ({ cls := "LineStoreModel", name := "word", desc := "()V" } : Jvm.MethodName)) ∈ lw_tbl := in_t6 (List.mem_of_getElem? (i := 33) rfl)
set_option maxRecDepth 20000 in
theorem t_1234 : (Jvm.Cond.privateMethod ({ cls := "LineStoreModel", name := "word", desc := "()V" } : Jvm.MethodName)) ∈ lw_tbl := in_t6 (List.mem_of_getElem? (i := 34) rfl)
set_option maxRecDepth 20000 in
theorem t_1235 : (Jvm.Cond.instanceMethod ({ cls := "LineStoreModel", name := "word", desc := "()V" } : Jvm.MethodName)) ∈ lw_tbl := in_t6 (List.mem_of_getElem? (i := 35) rfl)
set_option maxRecDepth 20000 in
theorem t_1236 : (Jvm.Cond.code ({ cls := "LineStoreModel", name := "word", desc := "()V" } : Jvm.MethodName) prog_12_method_30_code (1 : Nat) (Option.none : Option Jvm.ClassFile.FieldType)) ∈ lw_tbl := in_t6 (List.mem_of_getElem? (i := 36) rfl)
set_option maxRecDepth 20000 in
theorem t_1237 : (Jvm.Cond.methodLink "LineStoreModel" (173 : Nat) ({ cls := "LineStoreModel", name := "blanks", desc := "()V" } : Jvm.MethodName)) ∈ lw_tbl := in_t6 (List.mem_of_getElem? (i := 37) rfl)
set_option maxRecDepth 20000 in
theorem t_1238 : (Jvm.Cond.privateMethod ({ cls := "LineStoreModel", name := "blanks", desc := "()V" } : Jvm.MethodName)) ∈ lw_tbl := in_t6 (List.mem_of_getElem? (i := 38) rfl)
set_option maxRecDepth 20000 in
theorem t_1239 : (Jvm.Cond.instanceMethod ({ cls := "LineStoreModel", name := "blanks", desc := "()V" } : Jvm.MethodName)) ∈ lw_tbl := in_t6 (List.mem_of_getElem? (i := 39) rfl)
set_option maxRecDepth 20000 in
theorem t_1240 : (Jvm.Cond.code ({ cls := "LineStoreModel", name := "blanks", desc := "()V" } : Jvm.MethodName) prog_12_method_29_code (1 : Nat) (Option.none : Option Jvm.ClassFile.FieldType)) ∈ lw_tbl := in_t6 (List.mem_of_getElem? (i := 40) rfl)
set_option maxRecDepth 20000 in
theorem t_1241 : (Jvm.Cond.methodLink "LineStoreModel" (167 : Nat) ({ cls := "LineStoreModel", name := "isAt", desc := "(II)Z" } : Jvm.MethodName)) ∈ lw_tbl := in_t6 (List.mem_of_getElem? (i := 41) rfl)
set_option maxRecDepth 20000 in
theorem t_1242 : (Jvm.Cond.privateMethod ({ cls := "LineStoreModel", name := "isAt", desc := "(II)Z" } : Jvm.MethodName)) ∈ lw_tbl := in_t6 (List.mem_of_getElem? (i := 42) rfl)
set_option maxRecDepth 20000 in
theorem t_1243 : (Jvm.Cond.instanceMethod ({ cls := "LineStoreModel", name := "isAt", desc := "(II)Z" } : Jvm.MethodName)) ∈ lw_tbl := in_t6 (List.mem_of_getElem? (i := 43) rfl)
set_option maxRecDepth 20000 in
theorem t_1244 : (Jvm.Cond.code ({ cls := "LineStoreModel", name := "isAt", desc := "(II)Z" } : Jvm.MethodName) prog_12_method_28_code (3 : Nat) (Option.some Jvm.ClassFile.FieldType.boolean)) ∈ lw_tbl := in_t6 (List.mem_of_getElem? (i := 44) rfl)
set_option maxRecDepth 20000 in
theorem t_1245 : (Jvm.Cond.stringRef "LineStoreModel" (210 : Nat) "not") ∈ lw_tbl := in_t6 (List.mem_of_getElem? (i := 45) rfl)
set_option maxRecDepth 20000 in
theorem t_1246 : (Jvm.Cond.methodLink "LineStoreModel" (191 : Nat) ({ cls := "LineStoreModel", name := "isWord", desc := "(Ljava/lang/String;)Z" } : Jvm.MethodName)) ∈ lw_tbl := in_t6 (List.mem_of_getElem? (i := 46) rfl)
set_option maxRecDepth 20000 in
theorem t_1247 : (Jvm.Cond.privateMethod ({ cls := "LineStoreModel", name := "isWord", desc := "(Ljava/lang/String;)Z" } : Jvm.MethodName)) ∈ lw_tbl := in_t6 (List.mem_of_getElem? (i := 47) rfl)
set_option maxRecDepth 20000 in
theorem t_1248 : (Jvm.Cond.instanceMethod ({ cls := "LineStoreModel", name := "isWord", desc := "(Ljava/lang/String;)Z" } : Jvm.MethodName)) ∈ lw_tbl := in_t6 (List.mem_of_getElem? (i := 48) rfl)
set_option maxRecDepth 20000 in
theorem t_1249 : (Jvm.Cond.code ({ cls := "LineStoreModel", name := "isWord", desc := "(Ljava/lang/String;)Z" } : Jvm.MethodName) prog_12_method_31_code (4 : Nat) (Option.some Jvm.ClassFile.FieldType.boolean)) ∈ lw_tbl := in_t6 (List.mem_of_getElem? (i := 49) rfl)
set_option maxRecDepth 20000 in
theorem t_1250 : (Jvm.Cond.methodLink "LineStoreModel" (176 : Nat) ({ cls := "java/lang/String", name := "length", desc := "()I" } : Jvm.MethodName)) ∈ lw_tbl := in_t6 (List.mem_of_getElem? (i := 50) rfl)
set_option maxRecDepth 20000 in
theorem t_1251 : (Jvm.Cond.instanceMethod ({ cls := "java/lang/String", name := "length", desc := "()I" } : Jvm.MethodName)) ∈ lw_tbl := in_t6 (List.mem_of_getElem? (i := 51) rfl)
set_option maxRecDepth 20000 in
theorem t_1252 : (Jvm.Cond.selects "java/lang/String" ({ cls := "java/lang/String", name := "length", desc := "()I" } : Jvm.MethodName) ({ cls := "java/lang/String", name := "length", desc := "()I" } : Jvm.MethodName)) ∈ lw_tbl := in_t6 (List.mem_of_getElem? (i := 52) rfl)
set_option maxRecDepth 20000 in
theorem t_1253 : (Jvm.Cond.code ({ cls := "java/lang/String", name := "length", desc := "()I" } : Jvm.MethodName) prog_23_method_54_code (1 : Nat) (Option.some Jvm.ClassFile.FieldType.int)) ∈ lw_tbl := in_t6 (List.mem_of_getElem? (i := 53) rfl)
set_option maxRecDepth 20000 in
theorem t_1254 : (Jvm.Cond.methodLink "java/lang/String" (335 : Nat) ({ cls := "java/lang/String", name := "coder", desc := "()B" } : Jvm.MethodName)) ∈ lw_tbl := in_t6 (List.mem_of_getElem? (i := 54) rfl)
set_option maxRecDepth 20000 in
theorem t_1255 : (Jvm.Cond.instanceMethod ({ cls := "java/lang/String", name := "coder", desc := "()B" } : Jvm.MethodName)) ∈ lw_tbl := in_t6 (List.mem_of_getElem? (i := 55) rfl)
set_option maxRecDepth 20000 in
theorem t_1256 : (Jvm.Cond.selects "java/lang/String" ({ cls := "java/lang/String", name := "coder", desc := "()B" } : Jvm.MethodName) ({ cls := "java/lang/String", name := "coder", desc := "()B" } : Jvm.MethodName)) ∈ lw_tbl := in_t6 (List.mem_of_getElem? (i := 56) rfl)
set_option maxRecDepth 20000 in
theorem t_1257 : (Jvm.Cond.code ({ cls := "java/lang/String", name := "coder", desc := "()B" } : Jvm.MethodName) prog_23_method_152_code (1 : Nat) (Option.some Jvm.ClassFile.FieldType.byte)) ∈ lw_tbl := in_t6 (List.mem_of_getElem? (i := 57) rfl)
set_option maxRecDepth 20000 in
theorem t_1258 : (Jvm.Cond.fieldLink "java/lang/String" (38 : Nat) "java/lang/String" "COMPACT_STRINGS" "Z") ∈ lw_tbl := in_t6 (List.mem_of_getElem? (i := 58) rfl)
set_option maxRecDepth 20000 in
theorem t_1259 : (Jvm.Cond.laysStatic "java/lang/String" "COMPACT_STRINGS" "Z") ∈ lw_tbl := in_t6 (List.mem_of_getElem? (i := 59) rfl)
set_option maxRecDepth 20000 in
theorem t_1260 : (Jvm.Cond.methodLink "LineStoreModel" (182 : Nat) ({ cls := "java/lang/String", name := "charAt", desc := "(I)C" } : Jvm.MethodName)) ∈ lw_tbl := in_t6 (List.mem_of_getElem? (i := 60) rfl)
set_option maxRecDepth 20000 in
theorem t_1261 : (Jvm.Cond.instanceMethod ({ cls := "java/lang/String", name := "charAt", desc := "(I)C" } : Jvm.MethodName)) ∈ lw_tbl := in_t6 (List.mem_of_getElem? (i := 61) rfl)
set_option maxRecDepth 20000 in
theorem t_1262 : (Jvm.Cond.selects "java/lang/String" ({ cls := "java/lang/String", name := "charAt", desc := "(I)C" } : Jvm.MethodName) ({ cls := "java/lang/String", name := "charAt", desc := "(I)C" } : Jvm.MethodName)) ∈ lw_tbl := in_t6 (List.mem_of_getElem? (i := 62) rfl)
set_option maxRecDepth 20000 in
theorem t_1263 : (Jvm.Cond.code ({ cls := "java/lang/String", name := "charAt", desc := "(I)C" } : Jvm.MethodName) prog_23_method_56_code (2 : Nat) (Option.some Jvm.ClassFile.FieldType.char)) ∈ lw_tbl := in_t6 (List.mem_of_getElem? (i := 63) rfl)
set_option maxRecDepth 20000 in
theorem t_1264 : (Jvm.Cond.methodLink "java/lang/String" (492 : Nat) ({ cls := "java/lang/String", name := "isLatin1", desc := "()Z" } : Jvm.MethodName)) ∈ lw_tbl := in_t6 (List.mem_of_getElem? (i := 64) rfl)
set_option maxRecDepth 20000 in
theorem t_1265 : (Jvm.Cond.instanceMethod ({ cls := "java/lang/String", name := "isLatin1", desc := "()Z" } : Jvm.MethodName)) ∈ lw_tbl := in_t6 (List.mem_of_getElem? (i := 65) rfl)
set_option maxRecDepth 20000 in
theorem t_1266 : (Jvm.Cond.selects "java/lang/String" ({ cls := "java/lang/String", name := "isLatin1", desc := "()Z" } : Jvm.MethodName) ({ cls := "java/lang/String", name := "isLatin1", desc := "()Z" } : Jvm.MethodName)) ∈ lw_tbl := in_t6 (List.mem_of_getElem? (i := 66) rfl)
set_option maxRecDepth 20000 in
theorem t_1267 : (Jvm.Cond.code ({ cls := "java/lang/String", name := "isLatin1", desc := "()Z" } : Jvm.MethodName) prog_23_method_154_code (1 : Nat) (Option.some Jvm.ClassFile.FieldType.boolean)) ∈ lw_tbl := in_t6 (List.mem_of_getElem? (i := 67) rfl)
set_option maxRecDepth 20000 in
theorem t_1268 : (Jvm.Cond.methodLink "java/lang/String" (495 : Nat) ({ cls := "java/lang/StringLatin1", name := "charAt", desc := "([BI)C" } : Jvm.MethodName)) ∈ lw_tbl := in_t6 (List.mem_of_getElem? (i := 68) rfl)
set_option maxRecDepth 20000 in
theorem t_1269 : (Jvm.Cond.static ({ cls := "java/lang/StringLatin1", name := "charAt", desc := "([BI)C" } : Jvm.MethodName)) ∈ lw_tbl := in_t6 (List.mem_of_getElem? (i := 69) rfl)
set_option maxRecDepth 20000 in
theorem t_1270 : (Jvm.Cond.code ({ cls := "java/lang/StringLatin1", name := "charAt", desc := "([BI)C" } : Jvm.MethodName) prog_24_method_2_code (2 : Nat) (Option.some Jvm.ClassFile.FieldType.char)) ∈ lw_tbl := in_t6 (List.mem_of_getElem? (i := 70) rfl)
set_option maxRecDepth 20000 in
theorem t_1271 : (Jvm.Cond.methodLink "java/lang/StringLatin1" (9 : Nat) ({ cls := "java/lang/String", name := "checkIndex", desc := "(II)V" } : Jvm.MethodName)) ∈ lw_tbl := in_t6 (List.mem_of_getElem? (i := 71) rfl)
set_option maxRecDepth 20000 in
theorem t_1272 : (Jvm.Cond.static ({ cls := "java/lang/String", name := "checkIndex", desc := "(II)V" } : Jvm.MethodName)) ∈ lw_tbl := in_t6 (List.mem_of_getElem? (i := 72) rfl)
set_option maxRecDepth 20000 in
theorem t_1273 : (Jvm.Cond.code ({ cls := "java/lang/String", name := "checkIndex", desc := "(II)V" } : Jvm.MethodName) prog_23_method_155_code (2 : Nat) (Option.none : Option Jvm.ClassFile.FieldType)) ∈ lw_tbl := in_t6 (List.mem_of_getElem? (i := 73) rfl)
set_option maxRecDepth 20000 in
theorem t_1274 : (Jvm.Cond.fieldLink "java/lang/String" (1053 : Nat) "jdk/internal/util/Preconditions" "SIOOBE_FORMATTER" "Ljava/util/function/BiFunction;") ∈ lw_tbl := in_t6 (List.mem_of_getElem? (i := 74) rfl)
set_option maxRecDepth 20000 in
theorem t_1275 : (Jvm.Cond.laysStatic "jdk/internal/util/Preconditions" "SIOOBE_FORMATTER" "Ljava/util/function/BiFunction;") ∈ lw_tbl := in_t6 (List.mem_of_getElem? (i := 75) rfl)
set_option maxRecDepth 20000 in
theorem t_1276 : (Jvm.Cond.methodLink "java/lang/String" (1059 : Nat) ({ cls := "jdk/internal/util/Preconditions", name := "checkIndex", desc := "(IILjava/util/function/BiFunction;)I" } : Jvm.MethodName)) ∈ lw_tbl := in_t6 (List.mem_of_getElem? (i := 76) rfl)
set_option maxRecDepth 20000 in
theorem t_1277 : (Jvm.Cond.methodLink "java/lang/String" (498 : Nat) ({ cls := "java/lang/StringUTF16", name := "charAt", desc := "([BI)C" } : Jvm.MethodName)) ∈ lw_tbl := in_t6 (List.mem_of_getElem? (i := 77) rfl)
set_option maxRecDepth 20000 in
theorem t_1278 : (Jvm.Cond.static ({ cls := "java/lang/StringUTF16", name := "charAt", desc := "([BI)C" } : Jvm.MethodName)) ∈ lw_tbl := in_t6 (List.mem_of_getElem? (i := 78) rfl)
set_option maxRecDepth 20000 in
theorem t_1279 : (Jvm.Cond.code ({ cls := "java/lang/StringUTF16", name := "charAt", desc := "([BI)C" } : Jvm.MethodName) prog_25_method_83_code (2 : Nat) (Option.some Jvm.ClassFile.FieldType.char)) ∈ lw_tbl := in_t6 (List.mem_of_getElem? (i := 79) rfl)
set_option maxRecDepth 20000 in
theorem t_1280 : (Jvm.Cond.methodLink "java/lang/StringUTF16" (67 : Nat) ({ cls := "java/lang/StringUTF16", name := "checkIndex", desc := "(I[B)V" } : Jvm.MethodName)) ∈ lw_tbl := in_t6 (List.mem_of_getElem? (i := 80) rfl)
set_option maxRecDepth 20000 in
theorem t_1281 : (Jvm.Cond.static ({ cls := "java/lang/StringUTF16", name := "checkIndex", desc := "(I[B)V" } : Jvm.MethodName)) ∈ lw_tbl := in_t6 (List.mem_of_getElem? (i := 81) rfl)
set_option maxRecDepth 20000 in
theorem t_1282 : (Jvm.Cond.code ({ cls := "java/lang/StringUTF16", name := "checkIndex", desc := "(I[B)V" } : Jvm.MethodName) prog_25_method_91_code (2 : Nat) (Option.none : Option Jvm.ClassFile.FieldType)) ∈ lw_tbl := in_t6 (List.mem_of_getElem? (i := 82) rfl)
set_option maxRecDepth 20000 in
theorem t_1283 : (Jvm.Cond.methodLink "java/lang/StringUTF16" (48 : Nat) ({ cls := "java/lang/StringUTF16", name := "length", desc := "([B)I" } : Jvm.MethodName)) ∈ lw_tbl := in_t6 (List.mem_of_getElem? (i := 83) rfl)
set_option maxRecDepth 20000 in
theorem t_1284 : (Jvm.Cond.static ({ cls := "java/lang/StringUTF16", name := "length", desc := "([B)I" } : Jvm.MethodName)) ∈ lw_tbl := in_t6 (List.mem_of_getElem? (i := 84) rfl)
set_option maxRecDepth 20000 in
theorem t_1285 : (Jvm.Cond.code ({ cls := "java/lang/StringUTF16", name := "length", desc := "([B)I" } : Jvm.MethodName) prog_25_method_6_code (1 : Nat) (Option.some Jvm.ClassFile.FieldType.int)) ∈ lw_tbl := in_t6 (List.mem_of_getElem? (i := 85) rfl)
set_option maxRecDepth 20000 in
theorem t_1286 : (Jvm.Cond.methodLink "java/lang/StringUTF16" (414 : Nat) ({ cls := "java/lang/String", name := "checkIndex", desc := "(II)V" } : Jvm.MethodName)) ∈ lw_tbl := in_t6 (List.mem_of_getElem? (i := 86) rfl)
set_option maxRecDepth 20000 in
theorem t_1287 : (Jvm.Cond.methodLink "java/lang/StringUTF16" (71 : Nat) ({ cls := "java/lang/StringUTF16", name := "getChar", desc := "([BI)C" } : Jvm.MethodName)) ∈ lw_tbl := in_t6 (List.mem_of_getElem? (i := 87) rfl)
set_option maxRecDepth 20000 in
theorem t_1288 : (Jvm.Cond.static ({ cls := "java/lang/StringUTF16", name := "getChar", desc := "([BI)C" } : Jvm.MethodName)) ∈ lw_tbl := in_t6 (List.mem_of_getElem? (i := 88) rfl)
set_option maxRecDepth 20000 in
theorem t_1289 : (Jvm.Cond.code ({ cls := "java/lang/StringUTF16", name := "getChar", desc := "([BI)C" } : Jvm.MethodName) prog_25_method_5_code (2 : Nat) (Option.some Jvm.ClassFile.FieldType.char)) ∈ lw_tbl := in_t6 (List.mem_of_getElem? (i := 89) rfl)
set_option maxRecDepth 20000 in
theorem t_1290 : (Jvm.Cond.fieldLink "java/lang/StringUTF16" (44 : Nat) "java/lang/StringUTF16" "$assertionsDisabled" "Z") ∈ lw_tbl := in_t6 (List.mem_of_getElem? (i := 90) rfl)
set_option maxRecDepth 20000 in
theorem t_1291 : (Jvm.Cond.laysStatic "java/lang/StringUTF16" "$assertionsDisabled" "Z") ∈ lw_tbl := in_t6 (List.mem_of_getElem? (i := 91) rfl)
set_option maxRecDepth 20000 in
theorem t_1292 : (Jvm.Cond.fieldLink "java/lang/StringUTF16" (59 : Nat) "java/lang/StringUTF16" "HI_BYTE_SHIFT" "I") ∈ lw_tbl := in_t6 (List.mem_of_getElem? (i := 92) rfl)
set_option maxRecDepth 20000 in
theorem t_1293 : (Jvm.Cond.laysStatic "java/lang/StringUTF16" "HI_BYTE_SHIFT" "I") ∈ lw_tbl := in_t6 (List.mem_of_getElem? (i := 93) rfl)
set_option maxRecDepth 20000 in
theorem t_1294 : (Jvm.Cond.fieldLink "java/lang/StringUTF16" (63 : Nat) "java/lang/StringUTF16" "LO_BYTE_SHIFT" "I") ∈ lw_tbl := in_t6 (List.mem_of_getElem? (i := 94) rfl)
set_option maxRecDepth 20000 in
theorem t_1295 : (Jvm.Cond.laysStatic "java/lang/StringUTF16" "LO_BYTE_SHIFT" "I") ∈ lw_tbl := in_t6 (List.mem_of_getElem? (i := 95) rfl)
set_option maxRecDepth 20000 in
theorem t_1296 : (Jvm.Cond.stringRef "LineStoreModel" (212 : Nat) "k") ∈ lw_tbl := in_t6 (List.mem_of_getElem? (i := 96) rfl)
set_option maxRecDepth 20000 in
theorem t_1297 : (Jvm.Cond.methodLink "LineStoreModel" (195 : Nat) ({ cls := "LineStoreModel", name := "number", desc := "(I)I" } : Jvm.MethodName)) ∈ lw_tbl := in_t6 (List.mem_of_getElem? (i := 97) rfl)
set_option maxRecDepth 20000 in
theorem t_1298 : (Jvm.Cond.privateMethod ({ cls := "LineStoreModel", name := "number", desc := "(I)I" } : Jvm.MethodName)) ∈ lw_tbl := in_t6 (List.mem_of_getElem? (i := 98) rfl)
set_option maxRecDepth 20000 in
theorem t_1299 : (Jvm.Cond.instanceMethod ({ cls := "LineStoreModel", name := "number", desc := "(I)I" } : Jvm.MethodName)) ∈ lw_tbl := in_t6 (List.mem_of_getElem? (i := 99) rfl)
set_option maxRecDepth 20000 in
theorem t_1300 : (Jvm.Cond.code ({ cls := "LineStoreModel", name := "number", desc := "(I)I" } : Jvm.MethodName) prog_12_method_33_code (3 : Nat) (Option.some Jvm.ClassFile.FieldType.int)) ∈ lw_tbl := in_t6 (List.mem_of_getElem? (i := 100) rfl)
set_option maxRecDepth 20000 in
theorem t_1301 : (Jvm.Cond.methodLink "LineStoreModel" (214 : Nat) ({ cls := "LineStoreModel", name := "sign", desc := "(I)Z" } : Jvm.MethodName)) ∈ lw_tbl := in_t6 (List.mem_of_getElem? (i := 101) rfl)
set_option maxRecDepth 20000 in
theorem t_1302 : (Jvm.Cond.privateMethod ({ cls := "LineStoreModel", name := "sign", desc := "(I)Z" } : Jvm.MethodName)) ∈ lw_tbl := in_t6 (List.mem_of_getElem? (i := 102) rfl)
set_option maxRecDepth 20000 in
theorem t_1303 : (Jvm.Cond.instanceMethod ({ cls := "LineStoreModel", name := "sign", desc := "(I)Z" } : Jvm.MethodName)) ∈ lw_tbl := in_t6 (List.mem_of_getElem? (i := 103) rfl)
set_option maxRecDepth 20000 in
theorem t_1304 : (Jvm.Cond.code ({ cls := "LineStoreModel", name := "sign", desc := "(I)Z" } : Jvm.MethodName) prog_12_method_32_code (2 : Nat) (Option.some Jvm.ClassFile.FieldType.boolean)) ∈ lw_tbl := in_t6 (List.mem_of_getElem? (i := 104) rfl)
set_option maxRecDepth 20000 in
theorem t_1305 : (Jvm.Cond.methodLink "LineStoreModel" (217 : Nat) ({ cls := "LineStoreModel", name := "readPart", desc := "(I)Z" } : Jvm.MethodName)) ∈ lw_tbl := in_t6 (List.mem_of_getElem? (i := 105) rfl)
set_option maxRecDepth 20000 in
theorem t_1306 : (Jvm.Cond.privateMethod ({ cls := "LineStoreModel", name := "readPart", desc := "(I)Z" } : Jvm.MethodName)) ∈ lw_tbl := in_t6 (List.mem_of_getElem? (i := 106) rfl)
set_option maxRecDepth 20000 in
theorem t_1307 : (Jvm.Cond.instanceMethod ({ cls := "LineStoreModel", name := "readPart", desc := "(I)Z" } : Jvm.MethodName)) ∈ lw_tbl := in_t6 (List.mem_of_getElem? (i := 107) rfl)
set_option maxRecDepth 20000 in
theorem t_1308 : (Jvm.Cond.code ({ cls := "LineStoreModel", name := "readPart", desc := "(I)Z" } : Jvm.MethodName) prog_12_method_34_code (4 : Nat) (Option.some Jvm.ClassFile.FieldType.boolean)) ∈ lw_tbl := in_t6 (List.mem_of_getElem? (i := 108) rfl)
set_option maxRecDepth 20000 in
theorem t_1309 : (Jvm.Cond.stringRef "LineStoreModel" (189 : Nat) "\x72") ∈ lw_tbl := in_t6 (List.mem_of_getElem? (i := 109) rfl)
set_option maxRecDepth 20000 in
theorem t_1310 : (Jvm.Cond.stringRef "LineStoreModel" (199 : Nat) "t") ∈ lw_tbl := in_t6 (List.mem_of_getElem? (i := 110) rfl)
set_option maxRecDepth 20000 in
theorem t_1311 : (Jvm.Cond.stringRef "LineStoreModel" (201 : Nat) "a") ∈ lw_tbl := in_t6 (List.mem_of_getElem? (i := 111) rfl)
set_option maxRecDepth 20000 in
theorem t_1312 : (Jvm.Cond.stringRef "LineStoreModel" (203 : Nat) "b") ∈ lw_tbl := in_t6 (List.mem_of_getElem? (i := 112) rfl)
set_option maxRecDepth 20000 in
theorem t_1313 : (Jvm.Cond.stringRef "LineStoreModel" (205 : Nat) "c") ∈ lw_tbl := in_t6 (List.mem_of_getElem? (i := 113) rfl)
set_option maxRecDepth 20000 in
theorem t_1314 : (Jvm.Cond.methodLink "LineStoreLaw" (134 : Nat) ({ cls := "LineStoreModel", name := "fault", desc := "()I" } : Jvm.MethodName)) ∈ lw_tbl := in_t6 (List.mem_of_getElem? (i := 114) rfl)
set_option maxRecDepth 20000 in
theorem t_1315 : (Jvm.Cond.instanceMethod ({ cls := "LineStoreModel", name := "fault", desc := "()I" } : Jvm.MethodName)) ∈ lw_tbl := in_t6 (List.mem_of_getElem? (i := 115) rfl)
set_option maxRecDepth 20000 in
theorem t_1316 : (Jvm.Cond.selects "LineStoreModel" ({ cls := "LineStoreModel", name := "fault", desc := "()I" } : Jvm.MethodName) ({ cls := "LineStoreModel", name := "fault", desc := "()I" } : Jvm.MethodName)) ∈ lw_tbl := in_t6 (List.mem_of_getElem? (i := 116) rfl)
set_option maxRecDepth 20000 in
theorem t_1317 : (Jvm.Cond.code ({ cls := "LineStoreModel", name := "fault", desc := "()I" } : Jvm.MethodName) prog_12_method_38_code (1 : Nat) (Option.some Jvm.ClassFile.FieldType.int)) ∈ lw_tbl := in_t6 (List.mem_of_getElem? (i := 117) rfl)
set_option maxRecDepth 20000 in
theorem t_1318 : (Jvm.Cond.methodLink "LineStoreLaw" (138 : Nat) ({ cls := "LineStoreModel", name := "answers", desc := "(I)I" } : Jvm.MethodName)) ∈ lw_tbl := in_t6 (List.mem_of_getElem? (i := 118) rfl)
set_option maxRecDepth 20000 in
theorem t_1319 : (Jvm.Cond.instanceMethod ({ cls := "LineStoreModel", name := "answers", desc := "(I)I" } : Jvm.MethodName)) ∈ lw_tbl := in_t6 (List.mem_of_getElem? (i := 119) rfl)
set_option maxRecDepth 20000 in
theorem t_1320 : (Jvm.Cond.selects "LineStoreModel" ({ cls := "LineStoreModel", name := "answers", desc := "(I)I" } : Jvm.MethodName) ({ cls := "LineStoreModel", name := "answers", desc := "(I)I" } : Jvm.MethodName)) ∈ lw_tbl := in_t6 (List.mem_of_getElem? (i := 120) rfl)
set_option maxRecDepth 20000 in
theorem t_1321 : (Jvm.Cond.code ({ cls := "LineStoreModel", name := "answers", desc := "(I)I" } : Jvm.MethodName) prog_12_method_46_code (2 : Nat) (Option.some Jvm.ClassFile.FieldType.int)) ∈ lw_tbl := in_t6 (List.mem_of_getElem? (i := 121) rfl)
set_option maxRecDepth 20000 in
theorem t_1322 : (Jvm.Cond.methodLink "LineStoreModel" (253 : Nat) ({ cls := "LineStoreModel", name := "goes", desc := "(II)I" } : Jvm.MethodName)) ∈ lw_tbl := in_t6 (List.mem_of_getElem? (i := 122) rfl)
set_option maxRecDepth 20000 in
theorem t_1323 : (Jvm.Cond.privateMethod ({ cls := "LineStoreModel", name := "goes", desc := "(II)I" } : Jvm.MethodName)) ∈ lw_tbl := in_t6 (List.mem_of_getElem? (i := 123) rfl)
set_option maxRecDepth 20000 in
theorem t_1324 : (Jvm.Cond.instanceMethod ({ cls := "LineStoreModel", name := "goes", desc := "(II)I" } : Jvm.MethodName)) ∈ lw_tbl := in_t6 (List.mem_of_getElem? (i := 124) rfl)
set_option maxRecDepth 20000 in
theorem t_1325 : (Jvm.Cond.code ({ cls := "LineStoreModel", name := "goes", desc := "(II)I" } : Jvm.MethodName) prog_12_method_45_code (7 : Nat) (Option.some Jvm.ClassFile.FieldType.int)) ∈ lw_tbl := in_t6 (List.mem_of_getElem? (i := 125) rfl)
set_option maxRecDepth 20000 in
theorem t_1326 : (Jvm.Cond.methodLink "LineStoreModel" (243 : Nat) ({ cls := "LineStoreModel", name := "asks", desc := "(I)V" } : Jvm.MethodName)) ∈ lw_tbl := in_t6 (List.mem_of_getElem? (i := 126) rfl)
set_option maxRecDepth 20000 in
theorem t_1327 : (Jvm.Cond.privateMethod ({ cls := "LineStoreModel", name := "asks", desc := "(I)V" } : Jvm.MethodName)) ∈ lw_tbl := in_t6 (List.mem_of_getElem? (i := 127) rfl)
set_option maxRecDepth 20000 in
theorem t_1328 : (Jvm.Cond.instanceMethod ({ cls := "LineStoreModel", name := "asks", desc := "(I)V" } : Jvm.MethodName)) ∈ lw_tbl := in_t6 (List.mem_of_getElem? (i := 128) rfl)
set_option maxRecDepth 20000 in
theorem t_1329 : (Jvm.Cond.code ({ cls := "LineStoreModel", name := "asks", desc := "(I)V" } : Jvm.MethodName) prog_12_method_42_code (4 : Nat) (Option.none : Option Jvm.ClassFile.FieldType)) ∈ lw_tbl := in_t6 (List.mem_of_getElem? (i := 129) rfl)
set_option maxRecDepth 20000 in
theorem t_1330 : (Jvm.Cond.constant "LineStoreModel" (239 : Nat) (64000 : Int32)) ∈ lw_tbl := in_t6 (List.mem_of_getElem? (i := 130) rfl)
set_option maxRecDepth 20000 in
theorem t_1331 : (Jvm.Cond.methodLink "LineStoreModel" (235 : Nat) ({ cls := "LineStoreModel", name := "fits", desc := "(III)V" } : Jvm.MethodName)) ∈ lw_tbl := in_t6 (List.mem_of_getElem? (i := 131) rfl)
set_option maxRecDepth 20000 in
theorem t_1332 : (Jvm.Cond.privateMethod ({ cls := "LineStoreModel", name := "fits", desc := "(III)V" } : Jvm.MethodName)) ∈ lw_tbl := in_t6 (List.mem_of_getElem? (i := 132) rfl)
set_option maxRecDepth 20000 in
theorem t_1333 : (Jvm.Cond.instanceMethod ({ cls := "LineStoreModel", name := "fits", desc := "(III)V" } : Jvm.MethodName)) ∈ lw_tbl := in_t6 (List.mem_of_getElem? (i := 133) rfl)
set_option maxRecDepth 20000 in
theorem t_1334 : (Jvm.Cond.code ({ cls := "LineStoreModel", name := "fits", desc := "(III)V" } : Jvm.MethodName) prog_12_method_41_code (9 : Nat) (Option.none : Option Jvm.ClassFile.FieldType)) ∈ lw_tbl := in_t6 (List.mem_of_getElem? (i := 134) rfl)
set_option maxRecDepth 20000 in
theorem t_1335 : (Jvm.Cond.methodLink "LineStoreModel" (232 : Nat) ({ cls := "LineStoreModel", name := "placeOf", desc := "(IIII)I" } : Jvm.MethodName)) ∈ lw_tbl := in_t6 (List.mem_of_getElem? (i := 135) rfl)
set_option maxRecDepth 20000 in
theorem t_1336 : (Jvm.Cond.static ({ cls := "LineStoreModel", name := "placeOf", desc := "(IIII)I" } : Jvm.MethodName)) ∈ lw_tbl := in_t6 (List.mem_of_getElem? (i := 136) rfl)
set_option maxRecDepth 20000 in
theorem t_1337 : (Jvm.Cond.code ({ cls := "LineStoreModel", name := "placeOf", desc := "(IIII)I" } : Jvm.MethodName) prog_12_method_40_code (4 : Nat) (Option.some Jvm.ClassFile.FieldType.int)) ∈ lw_tbl := in_t6 (List.mem_of_getElem? (i := 137) rfl)
set_option maxRecDepth 20000 in
theorem t_1338 : (Jvm.Cond.methodLink "LineStoreModel" (247 : Nat) ({ cls := "LineStoreModel", name := "isOpen", desc := "(II)Z" } : Jvm.MethodName)) ∈ lw_tbl := in_t6 (List.mem_of_getElem? (i := 138) rfl)
set_option maxRecDepth 20000 in
theorem t_1339 : (Jvm.Cond.privateMethod ({ cls := "LineStoreModel", name := "isOpen", desc := "(II)Z" } : Jvm.MethodName)) ∈ lw_tbl := in_t6 (List.mem_of_getElem? (i := 139) rfl)
set_option maxRecDepth 20000 in
theorem t_1340 : (Jvm.Cond.instanceMethod ({ cls := "LineStoreModel", name := "isOpen", desc := "(II)Z" } : Jvm.MethodName)) ∈ lw_tbl := in_t6 (List.mem_of_getElem? (i := 140) rfl)
set_option maxRecDepth 20000 in
theorem t_1341 : (Jvm.Cond.code ({ cls := "LineStoreModel", name := "isOpen", desc := "(II)Z" } : Jvm.MethodName) prog_12_method_44_code (3 : Nat) (Option.some Jvm.ClassFile.FieldType.boolean)) ∈ lw_tbl := in_t6 (List.mem_of_getElem? (i := 141) rfl)
set_option maxRecDepth 20000 in
theorem t_1342 : (Jvm.Cond.methodLink "LineStoreModel" (250 : Nat) ({ cls := "LineStoreModel", name := "isAnswer", desc := "(III)Z" } : Jvm.MethodName)) ∈ lw_tbl := in_t6 (List.mem_of_getElem? (i := 142) rfl)
set_option maxRecDepth 20000 in
theorem t_1343 : (Jvm.Cond.privateMethod ({ cls := "LineStoreModel", name := "isAnswer", desc := "(III)Z" } : Jvm.MethodName)) ∈ lw_tbl := in_t6 (List.mem_of_getElem? (i := 143) rfl)
set_option maxRecDepth 20000 in
theorem t_1344 : (Jvm.Cond.instanceMethod ({ cls := "LineStoreModel", name := "isAnswer", desc := "(III)Z" } : Jvm.MethodName)) ∈ lw_tbl := in_t6 (List.mem_of_getElem? (i := 144) rfl)
set_option maxRecDepth 20000 in
theorem t_1345 : (Jvm.Cond.code ({ cls := "LineStoreModel", name := "isAnswer", desc := "(III)Z" } : Jvm.MethodName) prog_12_method_43_code (7 : Nat) (Option.some Jvm.ClassFile.FieldType.boolean)) ∈ lw_tbl := in_t6 (List.mem_of_getElem? (i := 145) rfl)
set_option maxRecDepth 20000 in
theorem t_1346 : (Jvm.Cond.methodLink "LineStoreModel" (240 : Nat) ({ cls := "LineStoreModel", name := "usedBy", desc := "(I)I" } : Jvm.MethodName)) ∈ lw_tbl := in_t6 (List.mem_of_getElem? (i := 146) rfl)
set_option maxRecDepth 20000 in
theorem t_1347 : (Jvm.Cond.privateMethod ({ cls := "LineStoreModel", name := "usedBy", desc := "(I)I" } : Jvm.MethodName)) ∈ lw_tbl := in_t6 (List.mem_of_getElem? (i := 147) rfl)
set_option maxRecDepth 20000 in
theorem t_1348 : (Jvm.Cond.instanceMethod ({ cls := "LineStoreModel", name := "usedBy", desc := "(I)I" } : Jvm.MethodName)) ∈ lw_tbl := in_t6 (List.mem_of_getElem? (i := 148) rfl)
set_option maxRecDepth 20000 in
theorem t_1349 : (Jvm.Cond.code ({ cls := "LineStoreModel", name := "usedBy", desc := "(I)I" } : Jvm.MethodName) prog_12_method_39_code (4 : Nat) (Option.some Jvm.ClassFile.FieldType.int)) ∈ lw_tbl := in_t6 (List.mem_of_getElem? (i := 149) rfl)
set_option maxRecDepth 20000 in
theorem t_1350 : (Jvm.Cond.methodLink "LineStoreLaw" (142 : Nat) ({ cls := "LineStoreModel", name := "answer", desc := "(III)I" } : Jvm.MethodName)) ∈ lw_tbl := in_t6 (List.mem_of_getElem? (i := 150) rfl)
set_option maxRecDepth 20000 in
theorem t_1351 : (Jvm.Cond.instanceMethod ({ cls := "LineStoreModel", name := "answer", desc := "(III)I" } : Jvm.MethodName)) ∈ lw_tbl := in_t6 (List.mem_of_getElem? (i := 151) rfl)
set_option maxRecDepth 20000 in
theorem t_1352 : (Jvm.Cond.selects "LineStoreModel" ({ cls := "LineStoreModel", name := "answer", desc := "(III)I" } : Jvm.MethodName) ({ cls := "LineStoreModel", name := "answer", desc := "(III)I" } : Jvm.MethodName)) ∈ lw_tbl := in_t6 (List.mem_of_getElem? (i := 152) rfl)
set_option maxRecDepth 20000 in
theorem t_1353 : (Jvm.Cond.code ({ cls := "LineStoreModel", name := "answer", desc := "(III)I" } : Jvm.MethodName) prog_12_method_47_code (5 : Nat) (Option.some Jvm.ClassFile.FieldType.int)) ∈ lw_tbl := in_t6 (List.mem_of_getElem? (i := 153) rfl)
set_option maxRecDepth 20000 in
theorem t_1354 : (Jvm.Cond.methodLink "LineStoreLaw" (146 : Nat) ({ cls := "LineStoreModel", name := "ways", desc := "(IIII)I" } : Jvm.MethodName)) ∈ lw_tbl := in_t6 (List.mem_of_getElem? (i := 154) rfl)
set_option maxRecDepth 20000 in
theorem t_1355 : (Jvm.Cond.instanceMethod ({ cls := "LineStoreModel", name := "ways", desc := "(IIII)I" } : Jvm.MethodName)) ∈ lw_tbl := in_t6 (List.mem_of_getElem? (i := 155) rfl)
set_option maxRecDepth 20000 in
theorem t_1356 : (Jvm.Cond.selects "LineStoreModel" ({ cls := "LineStoreModel", name := "ways", desc := "(IIII)I" } : Jvm.MethodName) ({ cls := "LineStoreModel", name := "ways", desc := "(IIII)I" } : Jvm.MethodName)) ∈ lw_tbl := in_t6 (List.mem_of_getElem? (i := 156) rfl)
set_option maxRecDepth 20000 in
theorem t_1357 : (Jvm.Cond.code ({ cls := "LineStoreModel", name := "ways", desc := "(IIII)I" } : Jvm.MethodName) prog_12_method_49_code (8 : Nat) (Option.some Jvm.ClassFile.FieldType.int)) ∈ lw_tbl := in_t6 (List.mem_of_getElem? (i := 157) rfl)
set_option maxRecDepth 20000 in
theorem t_1358 : (Jvm.Cond.methodLink "LineStoreModel" (256 : Nat) ({ cls := "LineStoreModel", name := "touches", desc := "(I)Z" } : Jvm.MethodName)) ∈ lw_tbl := in_t6 (List.mem_of_getElem? (i := 158) rfl)
set_option maxRecDepth 20000 in
theorem t_1359 : (Jvm.Cond.privateMethod ({ cls := "LineStoreModel", name := "touches", desc := "(I)Z" } : Jvm.MethodName)) ∈ lw_tbl := in_t6 (List.mem_of_getElem? (i := 159) rfl)
set_option maxRecDepth 20000 in
theorem t_1360 : (Jvm.Cond.instanceMethod ({ cls := "LineStoreModel", name := "touches", desc := "(I)Z" } : Jvm.MethodName)) ∈ lw_tbl := in_t6 (List.mem_of_getElem? (i := 160) rfl)
set_option maxRecDepth 20000 in
theorem t_1361 : (Jvm.Cond.code ({ cls := "LineStoreModel", name := "touches", desc := "(I)Z" } : Jvm.MethodName) prog_12_method_48_code (4 : Nat) (Option.some Jvm.ClassFile.FieldType.boolean)) ∈ lw_tbl := in_t6 (List.mem_of_getElem? (i := 161) rfl)
set_option maxRecDepth 20000 in
theorem t_1362 : (Jvm.Cond.methodLink "LineStoreLaw" (149 : Nat) ({ cls := "LineStoreModel", name := "degree", desc := "(IIII)I" } : Jvm.MethodName)) ∈ lw_tbl := in_t6 (List.mem_of_getElem? (i := 162) rfl)
set_option maxRecDepth 20000 in
theorem t_1363 : (Jvm.Cond.instanceMethod ({ cls := "LineStoreModel", name := "degree", desc := "(IIII)I" } : Jvm.MethodName)) ∈ lw_tbl := in_t6 (List.mem_of_getElem? (i := 163) rfl)
set_option maxRecDepth 20000 in
theorem t_1364 : (Jvm.Cond.selects "LineStoreModel" ({ cls := "LineStoreModel", name := "degree", desc := "(IIII)I" } : Jvm.MethodName) ({ cls := "LineStoreModel", name := "degree", desc := "(IIII)I" } : Jvm.MethodName)) ∈ lw_tbl := in_t6 (List.mem_of_getElem? (i := 164) rfl)
set_option maxRecDepth 20000 in
theorem t_1365 : (Jvm.Cond.code ({ cls := "LineStoreModel", name := "degree", desc := "(IIII)I" } : Jvm.MethodName) prog_12_method_50_code (5 : Nat) (Option.some Jvm.ClassFile.FieldType.int)) ∈ lw_tbl := in_t6 (List.mem_of_getElem? (i := 165) rfl)
set_option maxRecDepth 20000 in
theorem t_1366 : (Jvm.Cond.methodLink "LineStoreLaw" (153 : Nat) ({ cls := "LineStoreModel", name := "count", desc := "(I)I" } : Jvm.MethodName)) ∈ lw_tbl := in_t6 (List.mem_of_getElem? (i := 166) rfl)
set_option maxRecDepth 20000 in
theorem t_1367 : (Jvm.Cond.instanceMethod ({ cls := "LineStoreModel", name := "count", desc := "(I)I" } : Jvm.MethodName)) ∈ lw_tbl := in_t6 (List.mem_of_getElem? (i := 167) rfl)
set_option maxRecDepth 20000 in
theorem t_1368 : (Jvm.Cond.selects "LineStoreModel" ({ cls := "LineStoreModel", name := "count", desc := "(I)I" } : Jvm.MethodName) ({ cls := "LineStoreModel", name := "count", desc := "(I)I" } : Jvm.MethodName)) ∈ lw_tbl := in_t6 (List.mem_of_getElem? (i := 168) rfl)
set_option maxRecDepth 20000 in
theorem t_1369 : (Jvm.Cond.code ({ cls := "LineStoreModel", name := "count", desc := "(I)I" } : Jvm.MethodName) prog_12_method_51_code (4 : Nat) (Option.some Jvm.ClassFile.FieldType.int)) ∈ lw_tbl := in_t6 (List.mem_of_getElem? (i := 169) rfl)
set_option maxRecDepth 20000 in
theorem t_1370 : (Jvm.Cond.methodLink "LineStoreModel" (259 : Nat) ({ cls := "java/lang/Integer", name := "bitCount", desc := "(I)I" } : Jvm.MethodName)) ∈ lw_tbl := in_t6 (List.mem_of_getElem? (i := 170) rfl)
set_option maxRecDepth 20000 in
theorem t_1371 : (Jvm.Cond.sameMethod "java/lang/Throwable" "java/lang/Throwable" "fillInStackTrace" "(I)Ljava/lang/Throwable;") ∈ lw_tbl := in_t6 (List.mem_of_getElem? (i := 171) rfl)
set_option maxRecDepth 20000 in
theorem t_1372 : (Jvm.Cond.castable "LineStore" "java/lang/Object") ∈ lw_tbl := in_t6 (List.mem_of_getElem? (i := 172) rfl)
set_option maxRecDepth 20000 in
theorem t_1373 : (Jvm.Cond.castable "LineStore$Tape" "java/lang/Object") ∈ lw_tbl := in_t6 (List.mem_of_getElem? (i := 173) rfl)
set_option maxRecDepth 20000 in
theorem t_1374 : (Jvm.Cond.castable "LineStore$Laws" "java/lang/Object") ∈ lw_tbl := in_t6 (List.mem_of_getElem? (i := 174) rfl)
set_option maxRecDepth 20000 in
theorem t_1375 : (Jvm.Cond.castable "LineStore$Ones" "java/lang/Object") ∈ lw_tbl := in_t6 (List.mem_of_getElem? (i := 175) rfl)
set_option maxRecDepth 20000 in
theorem t_1376 : (Jvm.Cond.castable "LineStore$Ends" "java/lang/Object") ∈ lw_tbl := in_t6 (List.mem_of_getElem? (i := 176) rfl)
set_option maxRecDepth 20000 in
theorem t_1377 : (Jvm.Cond.castable "LineStore$Lines" "java/lang/Object") ∈ lw_tbl := in_t6 (List.mem_of_getElem? (i := 177) rfl)
set_option maxRecDepth 20000 in
theorem t_1378 : (Jvm.Cond.castable "java/util/ArrayList" "java/lang/Object") ∈ lw_tbl := in_t6 (List.mem_of_getElem? (i := 178) rfl)
set_option maxRecDepth 20000 in
theorem t_1379 : (Jvm.Cond.castable "LineStore$Reader" "java/lang/Object") ∈ lw_tbl := in_t6 (List.mem_of_getElem? (i := 179) rfl)
set_option maxRecDepth 20000 in
theorem t_1380 : (Jvm.Cond.castable "LineStore$Matcher" "java/lang/Object") ∈ lw_tbl := in_t6 (List.mem_of_getElem? (i := 180) rfl)
set_option maxRecDepth 20000 in
theorem t_1381 : (Jvm.Cond.castable "LineStore$Question" "java/lang/Object") ∈ lw_tbl := in_t6 (List.mem_of_getElem? (i := 181) rfl)
set_option maxRecDepth 20000 in
theorem t_1382 : (Jvm.Cond.castable "LineStoreModel" "java/lang/Object") ∈ lw_tbl := in_t6 (List.mem_of_getElem? (i := 182) rfl)
set_option maxRecDepth 20000 in
theorem t_1383 : (Jvm.Cond.castable "java/lang/IndexOutOfBoundsException" "java/lang/Object") ∈ lw_tbl := in_t6 (List.mem_of_getElem? (i := 183) rfl)
set_option maxRecDepth 20000 in
theorem t_1384 : (Jvm.Cond.castable "java/lang/IllegalArgumentException" "java/lang/Object") ∈ lw_tbl := in_t6 (List.mem_of_getElem? (i := 184) rfl)
set_option maxRecDepth 20000 in
theorem t_1385 : (Jvm.Cond.castable "java/lang/UnsupportedOperationException" "java/lang/Object") ∈ lw_tbl := in_t6 (List.mem_of_getElem? (i := 185) rfl)
set_option maxRecDepth 20000 in
theorem t_1386 : (Jvm.Cond.castable "LineStore$Line" "java/lang/Object") ∈ lw_tbl := in_t6 (List.mem_of_getElem? (i := 186) rfl)
set_option maxRecDepth 20000 in
theorem t_1387 : (Jvm.Cond.castable "java/util/NoSuchElementException" "java/lang/Object") ∈ lw_tbl := in_t6 (List.mem_of_getElem? (i := 187) rfl)
set_option maxRecDepth 20000 in
theorem t_1388 : (Jvm.Cond.castable "java/lang/Throwable" "java/lang/Object") ∈ lw_tbl := in_t6 (List.mem_of_getElem? (i := 188) rfl)
set_option maxRecDepth 20000 in
theorem t_1389 : (Jvm.Cond.castable "java/lang/String" "java/lang/Object") ∈ lw_tbl := in_t6 (List.mem_of_getElem? (i := 189) rfl)
set_option maxRecDepth 20000 in
theorem t_1390 : (Jvm.Cond.sameMethod "[Ljava/lang/Object;" "java/lang/Object" "getClass" "()Ljava/lang/Class;") ∈ lw_tbl := in_t6 (List.mem_of_getElem? (i := 190) rfl)
set_option maxRecDepth 20000 in
theorem t_1391 : (Jvm.Cond.selects "[Ljava/lang/Object;" ({ cls := "java/lang/Object", name := "getClass", desc := "()Ljava/lang/Class;" } : Jvm.MethodName) ({ cls := "java/lang/Object", name := "getClass", desc := "()Ljava/lang/Class;" } : Jvm.MethodName)) ∈ lw_tbl := in_t6 (List.mem_of_getElem? (i := 191) rfl)
set_option maxRecDepth 20000 in
theorem t_1392 : (Jvm.Cond.declares ({ cls := "java/lang/Object", name := "getClass", desc := "()Ljava/lang/Class;" } : Jvm.MethodName)) ∈ lw_tbl := in_t6 (List.mem_of_getElem? (i := 192) rfl)
set_option maxRecDepth 20000 in
theorem t_1393 : (Jvm.Cond.castable "[I" "java/lang/Object") ∈ lw_tbl := in_t6 (List.mem_of_getElem? (i := 193) rfl)
set_option maxRecDepth 20000 in
theorem t_1394 : (Jvm.Cond.castable "[Z" "java/lang/Object") ∈ lw_tbl := in_t6 (List.mem_of_getElem? (i := 194) rfl)
set_option maxRecDepth 20000 in
theorem t_1395 : (Jvm.Cond.castable "[J" "java/lang/Object") ∈ lw_tbl := in_t6 (List.mem_of_getElem? (i := 195) rfl)
set_option maxRecDepth 20000 in
theorem t_1396 : (Jvm.Cond.castable "[B" "java/lang/Object") ∈ lw_tbl := in_t6 (List.mem_of_getElem? (i := 196) rfl)
set_option maxRecDepth 20000 in
theorem t_1397 : (Jvm.Cond.castable "[Ljava/lang/Object;" "java/lang/Object") ∈ lw_tbl := in_t6 (List.mem_of_getElem? (i := 197) rfl)
set_option maxRecDepth 20000 in
theorem t_1398 : (Jvm.Cond.fieldLink "java/lang/String" (9 : Nat) "java/lang/String" "value" "[B") ∈ lw_tbl := in_t6 (List.mem_of_getElem? (i := 198) rfl)
set_option maxRecDepth 20000 in
theorem t_1399 : (Jvm.Cond.fieldLink "java/lang/String" (15 : Nat) "java/lang/String" "coder" "B") ∈ lw_tbl := in_t6 (List.mem_of_getElem? (i := 199) rfl)
