set_option maxRecDepth 100000 in
theorem w0 : (Jvm.Cond.initialized "RestrictedFundsLaw") ∈ WS := ws_in (List.mem_of_getElem? (i := 0) rfl) rfl
set_option maxRecDepth 100000 in
theorem w1 : (Jvm.Cond.initialized "RestrictedFunds") ∈ WS := ws_in (List.mem_of_getElem? (i := 1) rfl) rfl
set_option maxRecDepth 100000 in
theorem w2 : (Jvm.Cond.initialized "java/util/AbstractCollection") ∈ WS := ws_in (List.mem_of_getElem? (i := 2) rfl) rfl
set_option maxRecDepth 100000 in
theorem w3 : (Jvm.Cond.initialized "java/util/AbstractList") ∈ WS := ws_in (List.mem_of_getElem? (i := 3) rfl) rfl
set_option maxRecDepth 100000 in
theorem w4 : (Jvm.Cond.initialized "java/util/ArrayList") ∈ WS := ws_in (List.mem_of_getElem? (i := 4) rfl) rfl
set_option maxRecDepth 100000 in
theorem w5 : (Jvm.Cond.initialized "RestrictedFunds$Plan") ∈ WS := ws_in (List.mem_of_getElem? (i := 5) rfl) rfl
set_option maxRecDepth 100000 in
theorem w6 : (Jvm.Cond.initialized "RestrictedFundsModel") ∈ WS := ws_in (List.mem_of_getElem? (i := 6) rfl) rfl
set_option maxRecDepth 100000 in
theorem w7 : (Jvm.Cond.initialized "java/lang/Throwable") ∈ WS := ws_in (List.mem_of_getElem? (i := 7) rfl) rfl
set_option maxRecDepth 100000 in
theorem w8 : (Jvm.Cond.initialized "java/lang/Exception") ∈ WS := ws_in (List.mem_of_getElem? (i := 8) rfl) rfl
set_option maxRecDepth 100000 in
theorem w9 : (Jvm.Cond.initialized "java/lang/RuntimeException") ∈ WS := ws_in (List.mem_of_getElem? (i := 9) rfl) rfl
set_option maxRecDepth 100000 in
theorem w10 : (Jvm.Cond.initialized "java/lang/IllegalArgumentException") ∈ WS := ws_in (List.mem_of_getElem? (i := 10) rfl) rfl
set_option maxRecDepth 100000 in
theorem w11 : (Jvm.Cond.initialized "java/lang/IllegalStateException") ∈ WS := ws_in (List.mem_of_getElem? (i := 11) rfl) rfl
set_option maxRecDepth 100000 in
theorem w12 : (Jvm.Cond.initialized "RestrictedFunds$Pot") ∈ WS := ws_in (List.mem_of_getElem? (i := 12) rfl) rfl
set_option maxRecDepth 100000 in
theorem w13 : (Jvm.Cond.initialized "RestrictedFunds$Fund") ∈ WS := ws_in (List.mem_of_getElem? (i := 13) rfl) rfl
set_option maxRecDepth 100000 in
theorem w14 : (Jvm.Cond.initialized "jdk/internal/util/ArraysSupport") ∈ WS := ws_in (List.mem_of_getElem? (i := 14) rfl) rfl
set_option maxRecDepth 100000 in
theorem w15 : (Jvm.Cond.initialized "java/lang/Math") ∈ WS := ws_in (List.mem_of_getElem? (i := 15) rfl) rfl
set_option maxRecDepth 100000 in
theorem w16 : (Jvm.Cond.initialized "java/util/Arrays") ∈ WS := ws_in (List.mem_of_getElem? (i := 16) rfl) rfl
set_option maxRecDepth 100000 in
theorem w17 : (Jvm.Cond.initialized "java/lang/System") ∈ WS := ws_in (List.mem_of_getElem? (i := 17) rfl) rfl
set_option maxRecDepth 100000 in
theorem w18 : (Jvm.Cond.initialized "java/lang/IndexOutOfBoundsException") ∈ WS := ws_in (List.mem_of_getElem? (i := 18) rfl) rfl
set_option maxRecDepth 100000 in
theorem w19 : (Jvm.Cond.initialized "java/util/Objects") ∈ WS := ws_in (List.mem_of_getElem? (i := 19) rfl) rfl
set_option maxRecDepth 100000 in
theorem w20 : (Jvm.Cond.initialized "jdk/internal/util/Preconditions") ∈ WS := ws_in (List.mem_of_getElem? (i := 20) rfl) rfl
set_option maxRecDepth 100000 in
theorem w21 : (Jvm.Cond.initialized "RestrictedFunds$Commitment") ∈ WS := ws_in (List.mem_of_getElem? (i := 21) rfl) rfl
set_option maxRecDepth 100000 in
theorem w22 : (Jvm.Cond.initialized "RestrictedFunds$Cost") ∈ WS := ws_in (List.mem_of_getElem? (i := 22) rfl) rfl
set_option maxRecDepth 100000 in
theorem w23 : (Jvm.Cond.initialized "java/lang/AbstractStringBuilder") ∈ WS := ws_in (List.mem_of_getElem? (i := 23) rfl) rfl
set_option maxRecDepth 100000 in
theorem w24 : (Jvm.Cond.initialized "java/lang/StringBuilder") ∈ WS := ws_in (List.mem_of_getElem? (i := 24) rfl) rfl
set_option maxRecDepth 100000 in
theorem w25 : (Jvm.Cond.initialized "java/lang/String") ∈ WS := ws_in (List.mem_of_getElem? (i := 25) rfl) rfl
set_option maxRecDepth 100000 in
theorem w26 : (Jvm.Cond.initialized "java/lang/StringUTF16") ∈ WS := ws_in (List.mem_of_getElem? (i := 26) rfl) rfl
set_option maxRecDepth 100000 in
theorem w27 : (Jvm.Cond.initialized "java/lang/StringLatin1") ∈ WS := ws_in (List.mem_of_getElem? (i := 27) rfl) rfl
set_option maxRecDepth 100000 in
theorem w28 : (Jvm.Cond.initialized "java/lang/Number") ∈ WS := ws_in (List.mem_of_getElem? (i := 28) rfl) rfl
set_option maxRecDepth 100000 in
theorem w29 : (Jvm.Cond.initialized "java/lang/Integer") ∈ WS := ws_in (List.mem_of_getElem? (i := 29) rfl) rfl
set_option maxRecDepth 100000 in
theorem w30 : (Jvm.Cond.classLink "RestrictedFundsLaw" (8 : Nat) "RestrictedFunds") ∈ WS := ws_in (List.mem_of_getElem? (i := 30) rfl) rfl
set_option maxRecDepth 100000 in
theorem w31 : (Jvm.Cond.instantiable "RestrictedFunds" (6 : Nat)) ∈ WS := ws_in (List.mem_of_getElem? (i := 31) rfl) rfl
set_option maxRecDepth 100000 in
theorem w32 : (Jvm.Cond.methodLink "RestrictedFundsLaw" (79 : Nat) ({ cls := "RestrictedFunds", name := "<init>", desc := "()V" } : Jvm.MethodName)) ∈ WS := ws_in (List.mem_of_getElem? (i := 32) rfl) rfl
set_option maxRecDepth 100000 in
theorem w33 : (Jvm.Cond.instanceMethod ({ cls := "RestrictedFunds", name := "<init>", desc := "()V" } : Jvm.MethodName)) ∈ WS := ws_in (List.mem_of_getElem? (i := 33) rfl) rfl
set_option maxRecDepth 100000 in
theorem w34 : (Jvm.Cond.code ({ cls := "RestrictedFunds", name := "<init>", desc := "()V" } : Jvm.MethodName) prog_1_method_1_code (1 : Nat) (Option.none : Option Jvm.ClassFile.FieldType)) ∈ WS := ws_in (List.mem_of_getElem? (i := 34) rfl) rfl
set_option maxRecDepth 100000 in
theorem w35 : (Jvm.Cond.methodLink "RestrictedFunds" (3 : Nat) ({ cls := "java/lang/Object", name := "<init>", desc := "()V" } : Jvm.MethodName)) ∈ WS := ws_in (List.mem_of_getElem? (i := 35) rfl) rfl
set_option maxRecDepth 100000 in
theorem w36 : (Jvm.Cond.instanceMethod ({ cls := "java/lang/Object", name := "<init>", desc := "()V" } : Jvm.MethodName)) ∈ WS := ws_in (List.mem_of_getElem? (i := 36) rfl) rfl
set_option maxRecDepth 100000 in
theorem w37 : (Jvm.Cond.code ({ cls := "java/lang/Object", name := "<init>", desc := "()V" } : Jvm.MethodName) object_method_1_code (1 : Nat) (Option.none : Option Jvm.ClassFile.FieldType)) ∈ WS := ws_in (List.mem_of_getElem? (i := 37) rfl) rfl
set_option maxRecDepth 100000 in
theorem w38 : (Jvm.Cond.classLink "RestrictedFunds" (9 : Nat) "java/util/ArrayList") ∈ WS := ws_in (List.mem_of_getElem? (i := 38) rfl) rfl
set_option maxRecDepth 100000 in
theorem w39 : (Jvm.Cond.instantiable "java/util/ArrayList" (3 : Nat)) ∈ WS := ws_in (List.mem_of_getElem? (i := 39) rfl) rfl
set_option maxRecDepth 100000 in
theorem w40 : (Jvm.Cond.methodLink "RestrictedFunds" (11 : Nat) ({ cls := "java/util/ArrayList", name := "<init>", desc := "()V" } : Jvm.MethodName)) ∈ WS := ws_in (List.mem_of_getElem? (i := 40) rfl) rfl
set_option maxRecDepth 100000 in
theorem w41 : (Jvm.Cond.instanceMethod ({ cls := "java/util/ArrayList", name := "<init>", desc := "()V" } : Jvm.MethodName)) ∈ WS := ws_in (List.mem_of_getElem? (i := 41) rfl) rfl
set_option maxRecDepth 100000 in
theorem w42 : (Jvm.Cond.code ({ cls := "java/util/ArrayList", name := "<init>", desc := "()V" } : Jvm.MethodName) prog_34_method_2_code (1 : Nat) (Option.none : Option Jvm.ClassFile.FieldType)) ∈ WS := ws_in (List.mem_of_getElem? (i := 42) rfl) rfl
set_option maxRecDepth 100000 in
theorem w43 : (Jvm.Cond.methodLink "java/util/ArrayList" (1 : Nat) ({ cls := "java/util/AbstractList", name := "<init>", desc := "()V" } : Jvm.MethodName)) ∈ WS := ws_in (List.mem_of_getElem? (i := 43) rfl) rfl
set_option maxRecDepth 100000 in
theorem w44 : (Jvm.Cond.instanceMethod ({ cls := "java/util/AbstractList", name := "<init>", desc := "()V" } : Jvm.MethodName)) ∈ WS := ws_in (List.mem_of_getElem? (i := 44) rfl) rfl
set_option maxRecDepth 100000 in
theorem w45 : (Jvm.Cond.code ({ cls := "java/util/AbstractList", name := "<init>", desc := "()V" } : Jvm.MethodName) prog_33_method_1_code (1 : Nat) (Option.none : Option Jvm.ClassFile.FieldType)) ∈ WS := ws_in (List.mem_of_getElem? (i := 45) rfl) rfl
set_option maxRecDepth 100000 in
theorem w46 : (Jvm.Cond.methodLink "java/util/AbstractList" (1 : Nat) ({ cls := "java/util/AbstractCollection", name := "<init>", desc := "()V" } : Jvm.MethodName)) ∈ WS := ws_in (List.mem_of_getElem? (i := 46) rfl) rfl
set_option maxRecDepth 100000 in
theorem w47 : (Jvm.Cond.instanceMethod ({ cls := "java/util/AbstractCollection", name := "<init>", desc := "()V" } : Jvm.MethodName)) ∈ WS := ws_in (List.mem_of_getElem? (i := 47) rfl) rfl
set_option maxRecDepth 100000 in
theorem w48 : (Jvm.Cond.code ({ cls := "java/util/AbstractCollection", name := "<init>", desc := "()V" } : Jvm.MethodName) prog_32_method_1_code (1 : Nat) (Option.none : Option Jvm.ClassFile.FieldType)) ∈ WS := ws_in (List.mem_of_getElem? (i := 48) rfl) rfl
set_option maxRecDepth 100000 in
theorem w49 : (Jvm.Cond.methodLink "java/util/AbstractCollection" (1 : Nat) ({ cls := "java/lang/Object", name := "<init>", desc := "()V" } : Jvm.MethodName)) ∈ WS := ws_in (List.mem_of_getElem? (i := 49) rfl) rfl
set_option maxRecDepth 100000 in
theorem w50 : (Jvm.Cond.fieldLink "java/util/ArrayList" (39 : Nat) "java/util/ArrayList" "DEFAULTCAPACITY_EMPTY_ELEMENTDATA" "[Ljava/lang/Object;") ∈ WS := ws_in (List.mem_of_getElem? (i := 50) rfl) rfl
set_option maxRecDepth 100000 in
theorem w52 : (Jvm.Cond.fieldLink "java/util/ArrayList" (9 : Nat) "java/util/ArrayList" "elementData" "[Ljava/lang/Object;") ∈ WS := ws_in (List.mem_of_getElem? (i := 52) rfl) rfl
set_option maxRecDepth 100000 in
theorem w53 : (Jvm.Cond.fieldLink "java/util/ArrayList" (48 : Nat) "java/util/ArrayList" "size" "I") ∈ WS := ws_in (List.mem_of_getElem? (i := 53) rfl) rfl
set_option maxRecDepth 100000 in
theorem w54 : (Jvm.Cond.fieldLink "java/util/AbstractList" (7 : Nat) "java/util/AbstractList" "modCount" "I") ∈ WS := ws_in (List.mem_of_getElem? (i := 54) rfl) rfl
set_option maxRecDepth 100000 in
theorem w55 : (Jvm.Cond.fieldLink "java/util/ArrayList" (63 : Nat) "java/util/ArrayList" "modCount" "I") ∈ WS := ws_in (List.mem_of_getElem? (i := 55) rfl) rfl
set_option maxRecDepth 100000 in
theorem w56 : (Jvm.Cond.sameField "java/util/ArrayList" "java/util/AbstractList" "modCount" "I") ∈ WS := ws_in (List.mem_of_getElem? (i := 56) rfl) rfl
set_option maxRecDepth 100000 in
theorem w57 : (Jvm.Cond.lays "java/util/ArrayList" "java/util/ArrayList" "elementData" "[Ljava/lang/Object;") ∈ WS := ws_in (List.mem_of_getElem? (i := 57) rfl) rfl
set_option maxRecDepth 100000 in
theorem w59 : (Jvm.Cond.lays "java/util/ArrayList" "java/util/ArrayList" "size" "I") ∈ WS := ws_in (List.mem_of_getElem? (i := 59) rfl) rfl
set_option maxRecDepth 100000 in
theorem w61 : (Jvm.Cond.lays "java/util/ArrayList" "java/util/AbstractList" "modCount" "I") ∈ WS := ws_in (List.mem_of_getElem? (i := 61) rfl) rfl
set_option maxRecDepth 100000 in
theorem w64 : (Jvm.Cond.classLink "RestrictedFunds" (25 : Nat) "RestrictedFunds$Plan") ∈ WS := ws_in (List.mem_of_getElem? (i := 64) rfl) rfl
set_option maxRecDepth 100000 in
theorem w65 : (Jvm.Cond.instantiable "RestrictedFunds$Plan" (11 : Nat)) ∈ WS := ws_in (List.mem_of_getElem? (i := 65) rfl) rfl
set_option maxRecDepth 100000 in
theorem w67 : (Jvm.Cond.instanceMethod ({ cls := "RestrictedFunds$Plan", name := "<init>", desc := "()V" } : Jvm.MethodName)) ∈ WS := ws_in (List.mem_of_getElem? (i := 67) rfl) rfl
set_option maxRecDepth 100000 in
theorem w68 : (Jvm.Cond.code ({ cls := "RestrictedFunds$Plan", name := "<init>", desc := "()V" } : Jvm.MethodName) prog_5_method_1_code (1 : Nat) (Option.none : Option Jvm.ClassFile.FieldType)) ∈ WS := ws_in (List.mem_of_getElem? (i := 68) rfl) rfl
set_option maxRecDepth 100000 in
theorem w69 : (Jvm.Cond.methodLink "RestrictedFunds$Plan" (3 : Nat) ({ cls := "java/lang/Object", name := "<init>", desc := "()V" } : Jvm.MethodName)) ∈ WS := ws_in (List.mem_of_getElem? (i := 69) rfl) rfl
set_option maxRecDepth 100000 in
theorem w70 : (Jvm.Cond.classLink "RestrictedFunds$Plan" (21 : Nat) "[[I") ∈ WS := ws_in (List.mem_of_getElem? (i := 70) rfl) rfl
set_option maxRecDepth 100000 in
theorem w72 : (Jvm.Cond.fieldLink "RestrictedFunds$Plan" (50 : Nat) "RestrictedFunds$Plan" "pots" "I") ∈ WS := ws_in (List.mem_of_getElem? (i := 72) rfl) rfl
set_option maxRecDepth 100000 in
theorem w73 : (Jvm.Cond.fieldLink "RestrictedFunds$Plan" (54 : Nat) "RestrictedFunds$Plan" "costs" "I") ∈ WS := ws_in (List.mem_of_getElem? (i := 73) rfl) rfl
set_option maxRecDepth 100000 in
theorem w74 : (Jvm.Cond.fieldLink "RestrictedFunds$Plan" (9 : Nat) "RestrictedFunds$Plan" "potLeft" "[I") ∈ WS := ws_in (List.mem_of_getElem? (i := 74) rfl) rfl
set_option maxRecDepth 100000 in
theorem w75 : (Jvm.Cond.fieldLink "RestrictedFunds$Plan" (15 : Nat) "RestrictedFunds$Plan" "costLeft" "[I") ∈ WS := ws_in (List.mem_of_getElem? (i := 75) rfl) rfl
set_option maxRecDepth 100000 in
theorem w76 : (Jvm.Cond.fieldLink "RestrictedFunds$Plan" (18 : Nat) "RestrictedFunds$Plan" "planned" "[I") ∈ WS := ws_in (List.mem_of_getElem? (i := 76) rfl) rfl
set_option maxRecDepth 100000 in
theorem w77 : (Jvm.Cond.fieldLink "RestrictedFunds$Plan" (23 : Nat) "RestrictedFunds$Plan" "shares" "[[I") ∈ WS := ws_in (List.mem_of_getElem? (i := 77) rfl) rfl
set_option maxRecDepth 100000 in
theorem w78 : (Jvm.Cond.fieldLink "RestrictedFunds$Plan" (26 : Nat) "RestrictedFunds$Plan" "reach" "[I") ∈ WS := ws_in (List.mem_of_getElem? (i := 78) rfl) rfl
set_option maxRecDepth 100000 in
theorem w79 : (Jvm.Cond.fieldLink "RestrictedFunds$Plan" (29 : Nat) "RestrictedFunds$Plan" "paying" "[I") ∈ WS := ws_in (List.mem_of_getElem? (i := 79) rfl) rfl
set_option maxRecDepth 100000 in
theorem w80 : (Jvm.Cond.fieldLink "RestrictedFunds$Plan" (32 : Nat) "RestrictedFunds$Plan" "queue" "[I") ∈ WS := ws_in (List.mem_of_getElem? (i := 80) rfl) rfl
set_option maxRecDepth 100000 in
theorem w81 : (Jvm.Cond.fieldLink "RestrictedFunds$Plan" (35 : Nat) "RestrictedFunds$Plan" "ahead" "[I") ∈ WS := ws_in (List.mem_of_getElem? (i := 81) rfl) rfl
set_option maxRecDepth 100000 in
theorem w82 : (Jvm.Cond.fieldLink "RestrictedFunds$Plan" (38 : Nat) "RestrictedFunds$Plan" "via" "[I") ∈ WS := ws_in (List.mem_of_getElem? (i := 82) rfl) rfl
set_option maxRecDepth 100000 in
theorem w83 : (Jvm.Cond.lays "RestrictedFunds$Plan" "RestrictedFunds$Plan" "pots" "I") ∈ WS := ws_in (List.mem_of_getElem? (i := 83) rfl) rfl
set_option maxRecDepth 100000 in
theorem w85 : (Jvm.Cond.lays "RestrictedFunds$Plan" "RestrictedFunds$Plan" "costs" "I") ∈ WS := ws_in (List.mem_of_getElem? (i := 85) rfl) rfl
set_option maxRecDepth 100000 in
theorem w87 : (Jvm.Cond.laysFinal "RestrictedFunds$Plan" "RestrictedFunds$Plan" "potLeft" "[I") ∈ WS := ws_in (List.mem_of_getElem? (i := 87) rfl) rfl
set_option maxRecDepth 100000 in
theorem w89 : (Jvm.Cond.laysFinal "RestrictedFunds$Plan" "RestrictedFunds$Plan" "costLeft" "[I") ∈ WS := ws_in (List.mem_of_getElem? (i := 89) rfl) rfl
set_option maxRecDepth 100000 in
theorem w91 : (Jvm.Cond.laysFinal "RestrictedFunds$Plan" "RestrictedFunds$Plan" "planned" "[I") ∈ WS := ws_in (List.mem_of_getElem? (i := 91) rfl) rfl
set_option maxRecDepth 100000 in
theorem w93 : (Jvm.Cond.laysFinal "RestrictedFunds$Plan" "RestrictedFunds$Plan" "shares" "[[I") ∈ WS := ws_in (List.mem_of_getElem? (i := 93) rfl) rfl
set_option maxRecDepth 100000 in
theorem w95 : (Jvm.Cond.laysFinal "RestrictedFunds$Plan" "RestrictedFunds$Plan" "reach" "[I") ∈ WS := ws_in (List.mem_of_getElem? (i := 95) rfl) rfl
set_option maxRecDepth 100000 in
theorem w97 : (Jvm.Cond.laysFinal "RestrictedFunds$Plan" "RestrictedFunds$Plan" "paying" "[I") ∈ WS := ws_in (List.mem_of_getElem? (i := 97) rfl) rfl
set_option maxRecDepth 100000 in
theorem w99 : (Jvm.Cond.laysFinal "RestrictedFunds$Plan" "RestrictedFunds$Plan" "queue" "[I") ∈ WS := ws_in (List.mem_of_getElem? (i := 99) rfl) rfl
set_option maxRecDepth 100000 in
theorem w101 : (Jvm.Cond.laysFinal "RestrictedFunds$Plan" "RestrictedFunds$Plan" "ahead" "[I") ∈ WS := ws_in (List.mem_of_getElem? (i := 101) rfl) rfl
set_option maxRecDepth 100000 in
theorem w103 : (Jvm.Cond.laysFinal "RestrictedFunds$Plan" "RestrictedFunds$Plan" "via" "[I") ∈ WS := ws_in (List.mem_of_getElem? (i := 103) rfl) rfl
set_option maxRecDepth 100000 in
theorem w106 : (Jvm.Cond.arrayClass Jvm.ClassFile.FieldType.int) ∈ WS := ws_in (List.mem_of_getElem? (i := 106) rfl) rfl
set_option maxRecDepth 100000 in
theorem w107 : (Jvm.Cond.fieldLink "RestrictedFunds" (12 : Nat) "RestrictedFunds" "funds" "Ljava/util/ArrayList;") ∈ WS := ws_in (List.mem_of_getElem? (i := 107) rfl) rfl
set_option maxRecDepth 100000 in
theorem w108 : (Jvm.Cond.fieldLink "RestrictedFunds" (16 : Nat) "RestrictedFunds" "commitments" "Ljava/util/ArrayList;") ∈ WS := ws_in (List.mem_of_getElem? (i := 108) rfl) rfl
set_option maxRecDepth 100000 in
theorem w109 : (Jvm.Cond.fieldLink "RestrictedFunds" (19 : Nat) "RestrictedFunds" "costs" "Ljava/util/ArrayList;") ∈ WS := ws_in (List.mem_of_getElem? (i := 109) rfl) rfl
set_option maxRecDepth 100000 in
theorem w110 : (Jvm.Cond.fieldLink "RestrictedFunds" (22 : Nat) "RestrictedFunds" "pots" "Ljava/util/ArrayList;") ∈ WS := ws_in (List.mem_of_getElem? (i := 110) rfl) rfl
set_option maxRecDepth 100000 in
theorem w111 : (Jvm.Cond.fieldLink "RestrictedFunds" (28 : Nat) "RestrictedFunds" "plan" "LRestrictedFunds$Plan;") ∈ WS := ws_in (List.mem_of_getElem? (i := 111) rfl) rfl
set_option maxRecDepth 100000 in
theorem w112 : (Jvm.Cond.fieldLink "RestrictedFunds" (32 : Nat) "RestrictedFunds" "today" "I") ∈ WS := ws_in (List.mem_of_getElem? (i := 112) rfl) rfl
set_option maxRecDepth 100000 in
theorem w113 : (Jvm.Cond.laysFinal "RestrictedFunds" "RestrictedFunds" "funds" "Ljava/util/ArrayList;") ∈ WS := ws_in (List.mem_of_getElem? (i := 113) rfl) rfl
set_option maxRecDepth 100000 in
theorem w115 : (Jvm.Cond.laysFinal "RestrictedFunds" "RestrictedFunds" "commitments" "Ljava/util/ArrayList;") ∈ WS := ws_in (List.mem_of_getElem? (i := 115) rfl) rfl
set_option maxRecDepth 100000 in
theorem w117 : (Jvm.Cond.laysFinal "RestrictedFunds" "RestrictedFunds" "costs" "Ljava/util/ArrayList;") ∈ WS := ws_in (List.mem_of_getElem? (i := 117) rfl) rfl
set_option maxRecDepth 100000 in
theorem w119 : (Jvm.Cond.laysFinal "RestrictedFunds" "RestrictedFunds" "pots" "Ljava/util/ArrayList;") ∈ WS := ws_in (List.mem_of_getElem? (i := 119) rfl) rfl
set_option maxRecDepth 100000 in
theorem w121 : (Jvm.Cond.laysFinal "RestrictedFunds" "RestrictedFunds" "plan" "LRestrictedFunds$Plan;") ∈ WS := ws_in (List.mem_of_getElem? (i := 121) rfl) rfl
set_option maxRecDepth 100000 in
theorem w123 : (Jvm.Cond.lays "RestrictedFunds" "RestrictedFunds" "today" "I") ∈ WS := ws_in (List.mem_of_getElem? (i := 123) rfl) rfl
set_option maxRecDepth 100000 in
theorem w126 : (Jvm.Cond.methodLink "RestrictedFundsLaw" (111 : Nat) ({ cls := "RestrictedFunds", name := "charge", desc := "()I" } : Jvm.MethodName)) ∈ WS := ws_in (List.mem_of_getElem? (i := 126) rfl) rfl
set_option maxRecDepth 100000 in
theorem w127 : (Jvm.Cond.instanceMethod ({ cls := "RestrictedFunds", name := "charge", desc := "()I" } : Jvm.MethodName)) ∈ WS := ws_in (List.mem_of_getElem? (i := 127) rfl) rfl
set_option maxRecDepth 100000 in
theorem w128 : (Jvm.Cond.selects "RestrictedFunds" ({ cls := "RestrictedFunds", name := "charge", desc := "()I" } : Jvm.MethodName) ({ cls := "RestrictedFunds", name := "charge", desc := "()I" } : Jvm.MethodName)) ∈ WS := ws_in (List.mem_of_getElem? (i := 128) rfl) rfl
set_option maxRecDepth 100000 in
theorem w129 : (Jvm.Cond.code ({ cls := "RestrictedFunds", name := "charge", desc := "()I" } : Jvm.MethodName) prog_1_method_8_code (2 : Nat) (Option.some Jvm.ClassFile.FieldType.int)) ∈ WS := ws_in (List.mem_of_getElem? (i := 129) rfl) rfl
set_option maxRecDepth 100000 in
theorem w130 : (Jvm.Cond.methodLink "RestrictedFunds" (90 : Nat) ({ cls := "RestrictedFunds", name := "preparePlan", desc := "()V" } : Jvm.MethodName)) ∈ WS := ws_in (List.mem_of_getElem? (i := 130) rfl) rfl
set_option maxRecDepth 100000 in
theorem w132 : (Jvm.Cond.instanceMethod ({ cls := "RestrictedFunds", name := "preparePlan", desc := "()V" } : Jvm.MethodName)) ∈ WS := ws_in (List.mem_of_getElem? (i := 132) rfl) rfl
set_option maxRecDepth 100000 in
theorem w133 : (Jvm.Cond.code ({ cls := "RestrictedFunds", name := "preparePlan", desc := "()V" } : Jvm.MethodName) prog_1_method_36_code (3 : Nat) (Option.none : Option Jvm.ClassFile.FieldType)) ∈ WS := ws_in (List.mem_of_getElem? (i := 133) rfl) rfl
set_option maxRecDepth 100000 in
theorem w134 : (Jvm.Cond.methodLink "RestrictedFunds" (199 : Nat) ({ cls := "RestrictedFunds", name := "lineUpPots", desc := "()V" } : Jvm.MethodName)) ∈ WS := ws_in (List.mem_of_getElem? (i := 134) rfl) rfl
set_option maxRecDepth 100000 in
theorem w136 : (Jvm.Cond.instanceMethod ({ cls := "RestrictedFunds", name := "lineUpPots", desc := "()V" } : Jvm.MethodName)) ∈ WS := ws_in (List.mem_of_getElem? (i := 136) rfl) rfl
set_option maxRecDepth 100000 in
theorem w137 : (Jvm.Cond.code ({ cls := "RestrictedFunds", name := "lineUpPots", desc := "()V" } : Jvm.MethodName) prog_1_method_37_code (2 : Nat) (Option.none : Option Jvm.ClassFile.FieldType)) ∈ WS := ws_in (List.mem_of_getElem? (i := 137) rfl) rfl
set_option maxRecDepth 100000 in
theorem w138 : (Jvm.Cond.methodLink "RestrictedFunds" (216 : Nat) ({ cls := "java/util/ArrayList", name := "clear", desc := "()V" } : Jvm.MethodName)) ∈ WS := ws_in (List.mem_of_getElem? (i := 138) rfl) rfl
set_option maxRecDepth 100000 in
theorem w139 : (Jvm.Cond.instanceMethod ({ cls := "java/util/ArrayList", name := "clear", desc := "()V" } : Jvm.MethodName)) ∈ WS := ws_in (List.mem_of_getElem? (i := 139) rfl) rfl
set_option maxRecDepth 100000 in
theorem w140 : (Jvm.Cond.selects "java/util/ArrayList" ({ cls := "java/util/ArrayList", name := "clear", desc := "()V" } : Jvm.MethodName) ({ cls := "java/util/ArrayList", name := "clear", desc := "()V" } : Jvm.MethodName)) ∈ WS := ws_in (List.mem_of_getElem? (i := 140) rfl) rfl
set_option maxRecDepth 100000 in
theorem w141 : (Jvm.Cond.code ({ cls := "java/util/ArrayList", name := "clear", desc := "()V" } : Jvm.MethodName) prog_34_method_40_code (4 : Nat) (Option.none : Option Jvm.ClassFile.FieldType)) ∈ WS := ws_in (List.mem_of_getElem? (i := 141) rfl) rfl
set_option maxRecDepth 100000 in
theorem w142 : (Jvm.Cond.methodLink "RestrictedFunds" (41 : Nat) ({ cls := "java/util/ArrayList", name := "size", desc := "()I" } : Jvm.MethodName)) ∈ WS := ws_in (List.mem_of_getElem? (i := 142) rfl) rfl
set_option maxRecDepth 100000 in
theorem w143 : (Jvm.Cond.instanceMethod ({ cls := "java/util/ArrayList", name := "size", desc := "()I" } : Jvm.MethodName)) ∈ WS := ws_in (List.mem_of_getElem? (i := 143) rfl) rfl
set_option maxRecDepth 100000 in
theorem w144 : (Jvm.Cond.selects "java/util/ArrayList" ({ cls := "java/util/ArrayList", name := "size", desc := "()I" } : Jvm.MethodName) ({ cls := "java/util/ArrayList", name := "size", desc := "()I" } : Jvm.MethodName)) ∈ WS := ws_in (List.mem_of_getElem? (i := 144) rfl) rfl
set_option maxRecDepth 100000 in
theorem w145 : (Jvm.Cond.code ({ cls := "java/util/ArrayList", name := "size", desc := "()I" } : Jvm.MethodName) prog_34_method_8_code (1 : Nat) (Option.some Jvm.ClassFile.FieldType.int)) ∈ WS := ws_in (List.mem_of_getElem? (i := 145) rfl) rfl
set_option maxRecDepth 100000 in
theorem w146 : (Jvm.Cond.methodLink "RestrictedFunds" (118 : Nat) ({ cls := "java/util/ArrayList", name := "get", desc := "(I)Ljava/lang/Object;" } : Jvm.MethodName)) ∈ WS := ws_in (List.mem_of_getElem? (i := 146) rfl) rfl
set_option maxRecDepth 100000 in
theorem w147 : (Jvm.Cond.instanceMethod ({ cls := "java/util/ArrayList", name := "get", desc := "(I)Ljava/lang/Object;" } : Jvm.MethodName)) ∈ WS := ws_in (List.mem_of_getElem? (i := 147) rfl) rfl
set_option maxRecDepth 100000 in
theorem w148 : (Jvm.Cond.selects "java/util/ArrayList" ({ cls := "java/util/ArrayList", name := "get", desc := "(I)Ljava/lang/Object;" } : Jvm.MethodName) ({ cls := "java/util/ArrayList", name := "get", desc := "(I)Ljava/lang/Object;" } : Jvm.MethodName)) ∈ WS := ws_in (List.mem_of_getElem? (i := 148) rfl) rfl
set_option maxRecDepth 100000 in
theorem w149 : (Jvm.Cond.code ({ cls := "java/util/ArrayList", name := "get", desc := "(I)Ljava/lang/Object;" } : Jvm.MethodName) prog_34_method_20_code (2 : Nat) (Option.some (Jvm.ClassFile.FieldType.object "java/lang/Object"))) ∈ WS := ws_in (List.mem_of_getElem? (i := 149) rfl) rfl
set_option maxRecDepth 100000 in
theorem w150 : (Jvm.Cond.methodLink "java/util/ArrayList" (118 : Nat) ({ cls := "java/util/Objects", name := "checkIndex", desc := "(II)I" } : Jvm.MethodName)) ∈ WS := ws_in (List.mem_of_getElem? (i := 150) rfl) rfl
set_option maxRecDepth 100000 in
theorem w151 : (Jvm.Cond.static ({ cls := "java/util/Objects", name := "checkIndex", desc := "(II)I" } : Jvm.MethodName)) ∈ WS := ws_in (List.mem_of_getElem? (i := 151) rfl) rfl
set_option maxRecDepth 100000 in
theorem w152 : (Jvm.Cond.code ({ cls := "java/util/Objects", name := "checkIndex", desc := "(II)I" } : Jvm.MethodName) prog_38_method_17_code (2 : Nat) (Option.some Jvm.ClassFile.FieldType.int)) ∈ WS := ws_in (List.mem_of_getElem? (i := 152) rfl) rfl
set_option maxRecDepth 100000 in
theorem w153 : (Jvm.Cond.methodLink "java/util/Objects" (105 : Nat) ({ cls := "jdk/internal/util/Preconditions", name := "checkIndex", desc := "(IILjava/util/function/BiFunction;)I" } : Jvm.MethodName)) ∈ WS := ws_in (List.mem_of_getElem? (i := 153) rfl) rfl
set_option maxRecDepth 100000 in
theorem w154 : (Jvm.Cond.static ({ cls := "jdk/internal/util/Preconditions", name := "checkIndex", desc := "(IILjava/util/function/BiFunction;)I" } : Jvm.MethodName)) ∈ WS := ws_in (List.mem_of_getElem? (i := 154) rfl) rfl
set_option maxRecDepth 100000 in
theorem w155 : (Jvm.Cond.code ({ cls := "jdk/internal/util/Preconditions", name := "checkIndex", desc := "(IILjava/util/function/BiFunction;)I" } : Jvm.MethodName) prog_42_method_11_code (3 : Nat) (Option.some Jvm.ClassFile.FieldType.int)) ∈ WS := ws_in (List.mem_of_getElem? (i := 155) rfl) rfl
set_option maxRecDepth 100000 in
theorem w156 : (Jvm.Cond.methodLink "java/util/ArrayList" (123 : Nat) ({ cls := "java/util/ArrayList", name := "elementData", desc := "(I)Ljava/lang/Object;" } : Jvm.MethodName)) ∈ WS := ws_in (List.mem_of_getElem? (i := 156) rfl) rfl
set_option maxRecDepth 100000 in
theorem w157 : (Jvm.Cond.instanceMethod ({ cls := "java/util/ArrayList", name := "elementData", desc := "(I)Ljava/lang/Object;" } : Jvm.MethodName)) ∈ WS := ws_in (List.mem_of_getElem? (i := 157) rfl) rfl
set_option maxRecDepth 100000 in
theorem w158 : (Jvm.Cond.selects "java/util/ArrayList" ({ cls := "java/util/ArrayList", name := "elementData", desc := "(I)Ljava/lang/Object;" } : Jvm.MethodName) ({ cls := "java/util/ArrayList", name := "elementData", desc := "(I)Ljava/lang/Object;" } : Jvm.MethodName)) ∈ WS := ws_in (List.mem_of_getElem? (i := 158) rfl) rfl
set_option maxRecDepth 100000 in
theorem w159 : (Jvm.Cond.code ({ cls := "java/util/ArrayList", name := "elementData", desc := "(I)Ljava/lang/Object;" } : Jvm.MethodName) prog_34_method_18_code (2 : Nat) (Option.some (Jvm.ClassFile.FieldType.object "java/lang/Object"))) ∈ WS := ws_in (List.mem_of_getElem? (i := 159) rfl) rfl
set_option maxRecDepth 100000 in
theorem w160 : (Jvm.Cond.classLink "RestrictedFunds" (155 : Nat) "RestrictedFunds$Pot") ∈ WS := ws_in (List.mem_of_getElem? (i := 160) rfl) rfl
set_option maxRecDepth 100000 in
theorem w161 : (Jvm.Cond.methodLink "RestrictedFunds" (219 : Nat) ({ cls := "RestrictedFunds", name := "lineUp", desc := "(LRestrictedFunds$Pot;)V" } : Jvm.MethodName)) ∈ WS := ws_in (List.mem_of_getElem? (i := 161) rfl) rfl
set_option maxRecDepth 100000 in
theorem w163 : (Jvm.Cond.instanceMethod ({ cls := "RestrictedFunds", name := "lineUp", desc := "(LRestrictedFunds$Pot;)V" } : Jvm.MethodName)) ∈ WS := ws_in (List.mem_of_getElem? (i := 163) rfl) rfl
set_option maxRecDepth 100000 in
theorem w164 : (Jvm.Cond.code ({ cls := "RestrictedFunds", name := "lineUp", desc := "(LRestrictedFunds$Pot;)V" } : Jvm.MethodName) prog_1_method_38_code (3 : Nat) (Option.none : Option Jvm.ClassFile.FieldType)) ∈ WS := ws_in (List.mem_of_getElem? (i := 164) rfl) rfl
set_option maxRecDepth 100000 in
theorem w165 : (Jvm.Cond.methodLink "RestrictedFunds" (223 : Nat) ({ cls := "RestrictedFunds$Pot", name := "expiry", desc := "()I" } : Jvm.MethodName)) ∈ WS := ws_in (List.mem_of_getElem? (i := 165) rfl) rfl
set_option maxRecDepth 100000 in
theorem w167 : (Jvm.Cond.sameMethod "RestrictedFunds$Pot" "RestrictedFunds$Pot" "expiry" "()I") ∈ WS := ws_in (List.mem_of_getElem? (i := 167) rfl) rfl
set_option maxRecDepth 100000 in
theorem w168 : (Jvm.Cond.selects "RestrictedFunds$Commitment" ({ cls := "RestrictedFunds$Pot", name := "expiry", desc := "()I" } : Jvm.MethodName) ({ cls := "RestrictedFunds$Commitment", name := "expiry", desc := "()I" } : Jvm.MethodName)) ∈ WS := ws_in (List.mem_of_getElem? (i := 168) rfl) rfl
set_option maxRecDepth 100000 in
theorem w169 : (Jvm.Cond.instanceMethod ({ cls := "RestrictedFunds$Commitment", name := "expiry", desc := "()I" } : Jvm.MethodName)) ∈ WS := ws_in (List.mem_of_getElem? (i := 169) rfl) rfl
set_option maxRecDepth 100000 in
theorem w170 : (Jvm.Cond.code ({ cls := "RestrictedFunds$Commitment", name := "expiry", desc := "()I" } : Jvm.MethodName) prog_2_method_3_code (1 : Nat) (Option.some Jvm.ClassFile.FieldType.int)) ∈ WS := ws_in (List.mem_of_getElem? (i := 170) rfl) rfl
set_option maxRecDepth 100000 in
theorem w171 : (Jvm.Cond.selects "RestrictedFunds$Fund" ({ cls := "RestrictedFunds$Pot", name := "expiry", desc := "()I" } : Jvm.MethodName) ({ cls := "RestrictedFunds$Fund", name := "expiry", desc := "()I" } : Jvm.MethodName)) ∈ WS := ws_in (List.mem_of_getElem? (i := 171) rfl) rfl
set_option maxRecDepth 100000 in
theorem w172 : (Jvm.Cond.instanceMethod ({ cls := "RestrictedFunds$Fund", name := "expiry", desc := "()I" } : Jvm.MethodName)) ∈ WS := ws_in (List.mem_of_getElem? (i := 172) rfl) rfl
set_option maxRecDepth 100000 in
theorem w173 : (Jvm.Cond.code ({ cls := "RestrictedFunds$Fund", name := "expiry", desc := "()I" } : Jvm.MethodName) prog_4_method_3_code (1 : Nat) (Option.some Jvm.ClassFile.FieldType.int)) ∈ WS := ws_in (List.mem_of_getElem? (i := 173) rfl) rfl
set_option maxRecDepth 100000 in
theorem w174 : (Jvm.Cond.methodLink "RestrictedFunds" (224 : Nat) ({ cls := "java/util/ArrayList", name := "add", desc := "(ILjava/lang/Object;)V" } : Jvm.MethodName)) ∈ WS := ws_in (List.mem_of_getElem? (i := 174) rfl) rfl
set_option maxRecDepth 100000 in
theorem w175 : (Jvm.Cond.instanceMethod ({ cls := "java/util/ArrayList", name := "add", desc := "(ILjava/lang/Object;)V" } : Jvm.MethodName)) ∈ WS := ws_in (List.mem_of_getElem? (i := 175) rfl) rfl
set_option maxRecDepth 100000 in
theorem w176 : (Jvm.Cond.selects "java/util/ArrayList" ({ cls := "java/util/ArrayList", name := "add", desc := "(ILjava/lang/Object;)V" } : Jvm.MethodName) ({ cls := "java/util/ArrayList", name := "add", desc := "(ILjava/lang/Object;)V" } : Jvm.MethodName)) ∈ WS := ws_in (List.mem_of_getElem? (i := 176) rfl) rfl
set_option maxRecDepth 100000 in
theorem w177 : (Jvm.Cond.code ({ cls := "java/util/ArrayList", name := "add", desc := "(ILjava/lang/Object;)V" } : Jvm.MethodName) prog_34_method_26_code (5 : Nat) (Option.none : Option Jvm.ClassFile.FieldType)) ∈ WS := ws_in (List.mem_of_getElem? (i := 177) rfl) rfl
set_option maxRecDepth 100000 in
theorem w178 : (Jvm.Cond.methodLink "java/util/ArrayList" (135 : Nat) ({ cls := "java/util/ArrayList", name := "rangeCheckForAdd", desc := "(I)V" } : Jvm.MethodName)) ∈ WS := ws_in (List.mem_of_getElem? (i := 178) rfl) rfl
set_option maxRecDepth 100000 in
theorem w180 : (Jvm.Cond.instanceMethod ({ cls := "java/util/ArrayList", name := "rangeCheckForAdd", desc := "(I)V" } : Jvm.MethodName)) ∈ WS := ws_in (List.mem_of_getElem? (i := 180) rfl) rfl
set_option maxRecDepth 100000 in
theorem w181 : (Jvm.Cond.code ({ cls := "java/util/ArrayList", name := "rangeCheckForAdd", desc := "(I)V" } : Jvm.MethodName) prog_34_method_45_code (2 : Nat) (Option.none : Option Jvm.ClassFile.FieldType)) ∈ WS := ws_in (List.mem_of_getElem? (i := 181) rfl) rfl
set_option maxRecDepth 100000 in
theorem w182 : (Jvm.Cond.classLink "java/util/ArrayList" (187 : Nat) "java/lang/IndexOutOfBoundsException") ∈ WS := ws_in (List.mem_of_getElem? (i := 182) rfl) rfl
set_option maxRecDepth 100000 in
theorem w183 : (Jvm.Cond.instantiable "java/lang/IndexOutOfBoundsException" (6 : Nat)) ∈ WS := ws_in (List.mem_of_getElem? (i := 183) rfl) rfl
set_option maxRecDepth 100000 in
theorem w191 : (Jvm.Cond.selects "java/lang/IndexOutOfBoundsException" ({ cls := "java/lang/Throwable", name := "fillInStackTrace", desc := "(I)Ljava/lang/Throwable;" } : Jvm.MethodName) ({ cls := "java/lang/Throwable", name := "fillInStackTrace", desc := "(I)Ljava/lang/Throwable;" } : Jvm.MethodName)) ∈ WS := ws_in (List.mem_of_getElem? (i := 191) rfl) rfl
set_option maxRecDepth 100000 in
theorem w192 : (Jvm.Cond.selects "java/lang/IndexOutOfBoundsException" ({ cls := "java/lang/Throwable", name := "fillInStackTrace", desc := "()Ljava/lang/Throwable;" } : Jvm.MethodName) ({ cls := "java/lang/Throwable", name := "fillInStackTrace", desc := "()Ljava/lang/Throwable;" } : Jvm.MethodName)) ∈ WS := ws_in (List.mem_of_getElem? (i := 192) rfl) rfl
set_option maxRecDepth 100000 in
theorem w193 : (Jvm.Cond.lays "java/lang/IndexOutOfBoundsException" "java/lang/Throwable" "cause" "Ljava/lang/Throwable;") ∈ WS := ws_in (List.mem_of_getElem? (i := 193) rfl) rfl
set_option maxRecDepth 100000 in
theorem w194 : (Jvm.Cond.lays "java/lang/Throwable" "java/lang/Throwable" "cause" "Ljava/lang/Throwable;") ∈ WS := ws_in (List.mem_of_getElem? (i := 194) rfl) rfl
set_option maxRecDepth 100000 in
theorem w195 : (Jvm.Cond.lays "java/lang/IndexOutOfBoundsException" "java/lang/Throwable" "stackTrace" "[Ljava/lang/StackTraceElement;") ∈ WS := ws_in (List.mem_of_getElem? (i := 195) rfl) rfl
set_option maxRecDepth 100000 in
theorem w196 : (Jvm.Cond.lays "java/lang/Throwable" "java/lang/Throwable" "stackTrace" "[Ljava/lang/StackTraceElement;") ∈ WS := ws_in (List.mem_of_getElem? (i := 196) rfl) rfl
set_option maxRecDepth 100000 in
theorem w197 : (Jvm.Cond.lays "java/lang/IndexOutOfBoundsException" "java/lang/Throwable" "suppressedExceptions" "Ljava/util/List;") ∈ WS := ws_in (List.mem_of_getElem? (i := 197) rfl) rfl
set_option maxRecDepth 100000 in
theorem w198 : (Jvm.Cond.lays "java/lang/Throwable" "java/lang/Throwable" "suppressedExceptions" "Ljava/util/List;") ∈ WS := ws_in (List.mem_of_getElem? (i := 198) rfl) rfl
set_option maxRecDepth 100000 in
theorem w199 : (Jvm.Cond.lays "java/lang/IndexOutOfBoundsException" "java/lang/Throwable" "detailMessage" "Ljava/lang/String;") ∈ WS := ws_in (List.mem_of_getElem? (i := 199) rfl) rfl
set_option maxRecDepth 100000 in
theorem w200 : (Jvm.Cond.lays "java/lang/Throwable" "java/lang/Throwable" "detailMessage" "Ljava/lang/String;") ∈ WS := ws_in (List.mem_of_getElem? (i := 200) rfl) rfl
set_option maxRecDepth 100000 in
theorem w201 : (Jvm.Cond.lays "java/lang/IndexOutOfBoundsException" "java/lang/Throwable" "backtrace" "Ljava/lang/Object;") ∈ WS := ws_in (List.mem_of_getElem? (i := 201) rfl) rfl
set_option maxRecDepth 100000 in
theorem w202 : (Jvm.Cond.lays "java/lang/Throwable" "java/lang/Throwable" "backtrace" "Ljava/lang/Object;") ∈ WS := ws_in (List.mem_of_getElem? (i := 202) rfl) rfl
set_option maxRecDepth 100000 in
theorem w205 : (Jvm.Cond.instanceMethod ({ cls := "java/lang/Throwable", name := "<init>", desc := "()V" } : Jvm.MethodName)) ∈ WS := ws_in (List.mem_of_getElem? (i := 205) rfl) rfl
set_option maxRecDepth 100000 in
theorem w206 : (Jvm.Cond.code ({ cls := "java/lang/Throwable", name := "<init>", desc := "()V" } : Jvm.MethodName) prog_29_method_1_code (1 : Nat) (Option.none : Option Jvm.ClassFile.FieldType)) ∈ WS := ws_in (List.mem_of_getElem? (i := 206) rfl) rfl
set_option maxRecDepth 100000 in
theorem w213 : (Jvm.Cond.instanceMethod ({ cls := "java/lang/Throwable", name := "fillInStackTrace", desc := "()Ljava/lang/Throwable;" } : Jvm.MethodName)) ∈ WS := ws_in (List.mem_of_getElem? (i := 213) rfl) rfl
set_option maxRecDepth 100000 in
theorem w214 : (Jvm.Cond.sameMethod "java/lang/Throwable" "java/lang/Throwable" "fillInStackTrace" "()Ljava/lang/Throwable;") ∈ WS := ws_in (List.mem_of_getElem? (i := 214) rfl) rfl
set_option maxRecDepth 100000 in
theorem w215 : (Jvm.Cond.selects "java/lang/IllegalArgumentException" ({ cls := "java/lang/Throwable", name := "fillInStackTrace", desc := "()Ljava/lang/Throwable;" } : Jvm.MethodName) ({ cls := "java/lang/Throwable", name := "fillInStackTrace", desc := "()Ljava/lang/Throwable;" } : Jvm.MethodName)) ∈ WS := ws_in (List.mem_of_getElem? (i := 215) rfl) rfl
set_option maxRecDepth 100000 in
theorem w216 : (Jvm.Cond.selects "java/lang/IllegalStateException" ({ cls := "java/lang/Throwable", name := "fillInStackTrace", desc := "()Ljava/lang/Throwable;" } : Jvm.MethodName) ({ cls := "java/lang/Throwable", name := "fillInStackTrace", desc := "()Ljava/lang/Throwable;" } : Jvm.MethodName)) ∈ WS := ws_in (List.mem_of_getElem? (i := 216) rfl) rfl
set_option maxRecDepth 100000 in
theorem w220 : (Jvm.Cond.instanceMethod ({ cls := "java/lang/Throwable", name := "fillInStackTrace", desc := "(I)Ljava/lang/Throwable;" } : Jvm.MethodName)) ∈ WS := ws_in (List.mem_of_getElem? (i := 220) rfl) rfl
set_option maxRecDepth 100000 in
theorem w221 : (Jvm.Cond.instantiable "java/lang/Throwable" (6 : Nat)) ∈ WS := ws_in (List.mem_of_getElem? (i := 221) rfl) rfl
set_option maxRecDepth 100000 in
theorem w223 : (Jvm.Cond.methodLink "java/util/ArrayList" (198 : Nat) ({ cls := "java/util/ArrayList", name := "outOfBoundsMsg", desc := "(I)Ljava/lang/String;" } : Jvm.MethodName)) ∈ WS := ws_in (List.mem_of_getElem? (i := 223) rfl) rfl
set_option maxRecDepth 100000 in
theorem w225 : (Jvm.Cond.instanceMethod ({ cls := "java/util/ArrayList", name := "outOfBoundsMsg", desc := "(I)Ljava/lang/String;" } : Jvm.MethodName)) ∈ WS := ws_in (List.mem_of_getElem? (i := 225) rfl) rfl
set_option maxRecDepth 100000 in
theorem w226 : (Jvm.Cond.code ({ cls := "java/util/ArrayList", name := "outOfBoundsMsg", desc := "(I)Ljava/lang/String;" } : Jvm.MethodName) prog_34_method_46_code (2 : Nat) (Option.some (Jvm.ClassFile.FieldType.object "java/lang/String"))) ∈ WS := ws_in (List.mem_of_getElem? (i := 226) rfl) rfl
set_option maxRecDepth 100000 in
theorem w227 : (Jvm.Cond.classLink "java/util/ArrayList" (20 : Nat) "java/lang/StringBuilder") ∈ WS := ws_in (List.mem_of_getElem? (i := 227) rfl) rfl
set_option maxRecDepth 100000 in
theorem w228 : (Jvm.Cond.instantiable "java/lang/StringBuilder" (4 : Nat)) ∈ WS := ws_in (List.mem_of_getElem? (i := 228) rfl) rfl
set_option maxRecDepth 100000 in
theorem w229 : (Jvm.Cond.methodLink "java/util/ArrayList" (22 : Nat) ({ cls := "java/lang/StringBuilder", name := "<init>", desc := "()V" } : Jvm.MethodName)) ∈ WS := ws_in (List.mem_of_getElem? (i := 229) rfl) rfl
set_option maxRecDepth 100000 in
theorem w230 : (Jvm.Cond.instanceMethod ({ cls := "java/lang/StringBuilder", name := "<init>", desc := "()V" } : Jvm.MethodName)) ∈ WS := ws_in (List.mem_of_getElem? (i := 230) rfl) rfl
set_option maxRecDepth 100000 in
theorem w231 : (Jvm.Cond.code ({ cls := "java/lang/StringBuilder", name := "<init>", desc := "()V" } : Jvm.MethodName) prog_25_method_1_code (1 : Nat) (Option.none : Option Jvm.ClassFile.FieldType)) ∈ WS := ws_in (List.mem_of_getElem? (i := 231) rfl) rfl
set_option maxRecDepth 100000 in
theorem w233 : (Jvm.Cond.instanceMethod ({ cls := "java/lang/AbstractStringBuilder", name := "<init>", desc := "(I)V" } : Jvm.MethodName)) ∈ WS := ws_in (List.mem_of_getElem? (i := 233) rfl) rfl
set_option maxRecDepth 100000 in
theorem w234 : (Jvm.Cond.code ({ cls := "java/lang/AbstractStringBuilder", name := "<init>", desc := "(I)V" } : Jvm.MethodName) prog_10_method_2_code (2 : Nat) (Option.none : Option Jvm.ClassFile.FieldType)) ∈ WS := ws_in (List.mem_of_getElem? (i := 234) rfl) rfl
set_option maxRecDepth 100000 in
theorem w239 : (Jvm.Cond.static ({ cls := "java/lang/StringUTF16", name := "newBytesFor", desc := "(I)[B" } : Jvm.MethodName)) ∈ WS := ws_in (List.mem_of_getElem? (i := 239) rfl) rfl
set_option maxRecDepth 100000 in
theorem w240 : (Jvm.Cond.code ({ cls := "java/lang/StringUTF16", name := "newBytesFor", desc := "(I)[B" } : Jvm.MethodName) prog_27_method_2_code (1 : Nat) (Option.some (Jvm.ClassFile.FieldType.array Jvm.ClassFile.FieldType.byte))) ∈ WS := ws_in (List.mem_of_getElem? (i := 240) rfl) rfl
set_option maxRecDepth 100000 in
theorem w242 : (Jvm.Cond.static ({ cls := "java/lang/StringUTF16", name := "newBytesLength", desc := "(I)I" } : Jvm.MethodName)) ∈ WS := ws_in (List.mem_of_getElem? (i := 242) rfl) rfl
set_option maxRecDepth 100000 in
theorem w243 : (Jvm.Cond.code ({ cls := "java/lang/StringUTF16", name := "newBytesLength", desc := "(I)I" } : Jvm.MethodName) prog_27_method_3_code (1 : Nat) (Option.some Jvm.ClassFile.FieldType.int)) ∈ WS := ws_in (List.mem_of_getElem? (i := 243) rfl) rfl
set_option maxRecDepth 100000 in
theorem w249 : (Jvm.Cond.lays "java/lang/StringBuilder" "java/lang/AbstractStringBuilder" "value" "[B") ∈ WS := ws_in (List.mem_of_getElem? (i := 249) rfl) rfl
set_option maxRecDepth 100000 in
theorem w251 : (Jvm.Cond.lays "java/lang/StringBuilder" "java/lang/AbstractStringBuilder" "coder" "B") ∈ WS := ws_in (List.mem_of_getElem? (i := 251) rfl) rfl
set_option maxRecDepth 100000 in
theorem w253 : (Jvm.Cond.lays "java/lang/StringBuilder" "java/lang/AbstractStringBuilder" "maybeLatin1" "Z") ∈ WS := ws_in (List.mem_of_getElem? (i := 253) rfl) rfl
set_option maxRecDepth 100000 in
theorem w255 : (Jvm.Cond.lays "java/lang/StringBuilder" "java/lang/AbstractStringBuilder" "count" "I") ∈ WS := ws_in (List.mem_of_getElem? (i := 255) rfl) rfl
set_option maxRecDepth 100000 in
theorem w258 : (Jvm.Cond.arrayClass Jvm.ClassFile.FieldType.byte) ∈ WS := ws_in (List.mem_of_getElem? (i := 258) rfl) rfl
set_option maxRecDepth 100000 in
theorem w260 : (Jvm.Cond.methodLink "java/util/ArrayList" (25 : Nat) ({ cls := "java/lang/StringBuilder", name := "append", desc := "(Ljava/lang/String;)Ljava/lang/StringBuilder;" } : Jvm.MethodName)) ∈ WS := ws_in (List.mem_of_getElem? (i := 260) rfl) rfl
set_option maxRecDepth 100000 in
theorem w261 : (Jvm.Cond.instanceMethod ({ cls := "java/lang/StringBuilder", name := "append", desc := "(Ljava/lang/String;)Ljava/lang/StringBuilder;" } : Jvm.MethodName)) ∈ WS := ws_in (List.mem_of_getElem? (i := 261) rfl) rfl
set_option maxRecDepth 100000 in
theorem w262 : (Jvm.Cond.selects "java/lang/StringBuilder" ({ cls := "java/lang/StringBuilder", name := "append", desc := "(Ljava/lang/String;)Ljava/lang/StringBuilder;" } : Jvm.MethodName) ({ cls := "java/lang/StringBuilder", name := "append", desc := "(Ljava/lang/String;)Ljava/lang/StringBuilder;" } : Jvm.MethodName)) ∈ WS := ws_in (List.mem_of_getElem? (i := 262) rfl) rfl
set_option maxRecDepth 100000 in
theorem w263 : (Jvm.Cond.code ({ cls := "java/lang/StringBuilder", name := "append", desc := "(Ljava/lang/String;)Ljava/lang/StringBuilder;" } : Jvm.MethodName) prog_25_method_7_code (2 : Nat) (Option.some (Jvm.ClassFile.FieldType.object "java/lang/StringBuilder"))) ∈ WS := ws_in (List.mem_of_getElem? (i := 263) rfl) rfl
set_option maxRecDepth 100000 in
theorem w265 : (Jvm.Cond.instanceMethod ({ cls := "java/lang/AbstractStringBuilder", name := "append", desc := "(Ljava/lang/String;)Ljava/lang/AbstractStringBuilder;" } : Jvm.MethodName)) ∈ WS := ws_in (List.mem_of_getElem? (i := 265) rfl) rfl
set_option maxRecDepth 100000 in
theorem w266 : (Jvm.Cond.code ({ cls := "java/lang/AbstractStringBuilder", name := "append", desc := "(Ljava/lang/String;)Ljava/lang/AbstractStringBuilder;" } : Jvm.MethodName) prog_10_method_22_code (3 : Nat) (Option.some (Jvm.ClassFile.FieldType.object "java/lang/AbstractStringBuilder"))) ∈ WS := ws_in (List.mem_of_getElem? (i := 266) rfl) rfl
set_option maxRecDepth 100000 in
theorem w269 : (Jvm.Cond.instanceMethod ({ cls := "java/lang/AbstractStringBuilder", name := "appendNull", desc := "()Ljava/lang/AbstractStringBuilder;" } : Jvm.MethodName)) ∈ WS := ws_in (List.mem_of_getElem? (i := 269) rfl) rfl
set_option maxRecDepth 100000 in
theorem w270 : (Jvm.Cond.code ({ cls := "java/lang/AbstractStringBuilder", name := "appendNull", desc := "()Ljava/lang/AbstractStringBuilder;" } : Jvm.MethodName) prog_10_method_26_code (3 : Nat) (Option.some (Jvm.ClassFile.FieldType.object "java/lang/AbstractStringBuilder"))) ∈ WS := ws_in (List.mem_of_getElem? (i := 270) rfl) rfl
set_option maxRecDepth 100000 in
theorem w273 : (Jvm.Cond.instanceMethod ({ cls := "java/lang/AbstractStringBuilder", name := "ensureCapacityInternal", desc := "(I)V" } : Jvm.MethodName)) ∈ WS := ws_in (List.mem_of_getElem? (i := 273) rfl) rfl
set_option maxRecDepth 100000 in
theorem w274 : (Jvm.Cond.code ({ cls := "java/lang/AbstractStringBuilder", name := "ensureCapacityInternal", desc := "(I)V" } : Jvm.MethodName) prog_10_method_9_code (3 : Nat) (Option.none : Option Jvm.ClassFile.FieldType)) ∈ WS := ws_in (List.mem_of_getElem? (i := 274) rfl) rfl
set_option maxRecDepth 100000 in
theorem w277 : (Jvm.Cond.instanceMethod ({ cls := "java/lang/AbstractStringBuilder", name := "newCapacity", desc := "(I)I" } : Jvm.MethodName)) ∈ WS := ws_in (List.mem_of_getElem? (i := 277) rfl) rfl
set_option maxRecDepth 100000 in
theorem w278 : (Jvm.Cond.code ({ cls := "java/lang/AbstractStringBuilder", name := "newCapacity", desc := "(I)I" } : Jvm.MethodName) prog_10_method_10_code (6 : Nat) (Option.some Jvm.ClassFile.FieldType.int)) ∈ WS := ws_in (List.mem_of_getElem? (i := 278) rfl) rfl
set_option maxRecDepth 100000 in
theorem w280 : (Jvm.Cond.static ({ cls := "jdk/internal/util/ArraysSupport", name := "newLength", desc := "(III)I" } : Jvm.MethodName)) ∈ WS := ws_in (List.mem_of_getElem? (i := 280) rfl) rfl
set_option maxRecDepth 100000 in
theorem w281 : (Jvm.Cond.code ({ cls := "jdk/internal/util/ArraysSupport", name := "newLength", desc := "(III)I" } : Jvm.MethodName) prog_41_method_27_code (4 : Nat) (Option.some Jvm.ClassFile.FieldType.int)) ∈ WS := ws_in (List.mem_of_getElem? (i := 281) rfl) rfl
set_option maxRecDepth 100000 in
theorem w282 : (Jvm.Cond.methodLink "jdk/internal/util/ArraysSupport" (194 : Nat) ({ cls := "java/lang/Math", name := "max", desc := "(II)I" } : Jvm.MethodName)) ∈ WS := ws_in (List.mem_of_getElem? (i := 282) rfl) rfl
set_option maxRecDepth 100000 in
theorem w283 : (Jvm.Cond.static ({ cls := "java/lang/Math", name := "max", desc := "(II)I" } : Jvm.MethodName)) ∈ WS := ws_in (List.mem_of_getElem? (i := 283) rfl) rfl
set_option maxRecDepth 100000 in
theorem w284 : (Jvm.Cond.code ({ cls := "java/lang/Math", name := "max", desc := "(II)I" } : Jvm.MethodName) prog_21_method_65_code (2 : Nat) (Option.some Jvm.ClassFile.FieldType.int)) ∈ WS := ws_in (List.mem_of_getElem? (i := 284) rfl) rfl
set_option maxRecDepth 100000 in
theorem w285 : (Jvm.Cond.constant "jdk/internal/util/ArraysSupport" (200 : Nat) (2147483639 : Int32)) ∈ WS := ws_in (List.mem_of_getElem? (i := 285) rfl) rfl
set_option maxRecDepth 100000 in
theorem w286 : (Jvm.Cond.methodLink "jdk/internal/util/ArraysSupport" (201 : Nat) ({ cls := "jdk/internal/util/ArraysSupport", name := "hugeLength", desc := "(II)I" } : Jvm.MethodName)) ∈ WS := ws_in (List.mem_of_getElem? (i := 286) rfl) rfl
set_option maxRecDepth 100000 in
theorem w287 : (Jvm.Cond.static ({ cls := "jdk/internal/util/ArraysSupport", name := "hugeLength", desc := "(II)I" } : Jvm.MethodName)) ∈ WS := ws_in (List.mem_of_getElem? (i := 287) rfl) rfl
set_option maxRecDepth 100000 in
theorem w288 : (Jvm.Cond.code ({ cls := "jdk/internal/util/ArraysSupport", name := "hugeLength", desc := "(II)I" } : Jvm.MethodName) prog_41_method_28_code (3 : Nat) (Option.some Jvm.ClassFile.FieldType.int)) ∈ WS := ws_in (List.mem_of_getElem? (i := 288) rfl) rfl
set_option maxRecDepth 100000 in
theorem w291 : (Jvm.Cond.static ({ cls := "java/util/Arrays", name := "copyOf", desc := "([BI)[B" } : Jvm.MethodName)) ∈ WS := ws_in (List.mem_of_getElem? (i := 291) rfl) rfl
set_option maxRecDepth 100000 in
theorem w292 : (Jvm.Cond.code ({ cls := "java/util/Arrays", name := "copyOf", desc := "([BI)[B" } : Jvm.MethodName) prog_35_method_121_code (3 : Nat) (Option.some (Jvm.ClassFile.FieldType.array Jvm.ClassFile.FieldType.byte))) ∈ WS := ws_in (List.mem_of_getElem? (i := 292) rfl) rfl
set_option maxRecDepth 100000 in
theorem w293 : (Jvm.Cond.methodLink "java/util/Arrays" (310 : Nat) ({ cls := "[B", name := "clone", desc := "()Ljava/lang/Object;" } : Jvm.MethodName)) ∈ WS := ws_in (List.mem_of_getElem? (i := 293) rfl) rfl
set_option maxRecDepth 100000 in
theorem w294 : (Jvm.Cond.sameMethod "[B" "java/lang/Object" "clone" "()Ljava/lang/Object;") ∈ WS := ws_in (List.mem_of_getElem? (i := 294) rfl) rfl
set_option maxRecDepth 100000 in
theorem w296 : (Jvm.Cond.instanceMethod ({ cls := "java/lang/Object", name := "clone", desc := "()Ljava/lang/Object;" } : Jvm.MethodName)) ∈ WS := ws_in (List.mem_of_getElem? (i := 296) rfl) rfl
set_option maxRecDepth 100000 in
theorem w297 : (Jvm.Cond.selects "[B" ({ cls := "[B", name := "clone", desc := "()Ljava/lang/Object;" } : Jvm.MethodName) ({ cls := "java/lang/Object", name := "clone", desc := "()Ljava/lang/Object;" } : Jvm.MethodName)) ∈ WS := ws_in (List.mem_of_getElem? (i := 297) rfl) rfl
set_option maxRecDepth 100000 in
theorem w299 : (Jvm.Cond.classLink "java/util/Arrays" (311 : Nat) "[B") ∈ WS := ws_in (List.mem_of_getElem? (i := 299) rfl) rfl
set_option maxRecDepth 100000 in
theorem w300 : (Jvm.Cond.methodLink "java/util/Arrays" (304 : Nat) ({ cls := "java/lang/Math", name := "min", desc := "(II)I" } : Jvm.MethodName)) ∈ WS := ws_in (List.mem_of_getElem? (i := 300) rfl) rfl
set_option maxRecDepth 100000 in
theorem w301 : (Jvm.Cond.static ({ cls := "java/lang/Math", name := "min", desc := "(II)I" } : Jvm.MethodName)) ∈ WS := ws_in (List.mem_of_getElem? (i := 301) rfl) rfl
set_option maxRecDepth 100000 in
theorem w302 : (Jvm.Cond.code ({ cls := "java/lang/Math", name := "min", desc := "(II)I" } : Jvm.MethodName) prog_21_method_69_code (2 : Nat) (Option.some Jvm.ClassFile.FieldType.int)) ∈ WS := ws_in (List.mem_of_getElem? (i := 302) rfl) rfl
set_option maxRecDepth 100000 in
theorem w303 : (Jvm.Cond.methodLink "java/util/Arrays" (150 : Nat) ({ cls := "java/lang/System", name := "arraycopy", desc := "(Ljava/lang/Object;ILjava/lang/Object;II)V" } : Jvm.MethodName)) ∈ WS := ws_in (List.mem_of_getElem? (i := 303) rfl) rfl
set_option maxRecDepth 100000 in
theorem w304 : (Jvm.Cond.static ({ cls := "java/lang/System", name := "arraycopy", desc := "(Ljava/lang/Object;ILjava/lang/Object;II)V" } : Jvm.MethodName)) ∈ WS := ws_in (List.mem_of_getElem? (i := 304) rfl) rfl
set_option maxRecDepth 100000 in
theorem w307 : (Jvm.Cond.instanceMethod ({ cls := "java/lang/AbstractStringBuilder", name := "isLatin1", desc := "()Z" } : Jvm.MethodName)) ∈ WS := ws_in (List.mem_of_getElem? (i := 307) rfl) rfl
set_option maxRecDepth 100000 in
theorem w308 : (Jvm.Cond.sameMethod "java/lang/AbstractStringBuilder" "java/lang/AbstractStringBuilder" "isLatin1" "()Z") ∈ WS := ws_in (List.mem_of_getElem? (i := 308) rfl) rfl
set_option maxRecDepth 100000 in
theorem w309 : (Jvm.Cond.selects "java/lang/StringBuilder" ({ cls := "java/lang/AbstractStringBuilder", name := "isLatin1", desc := "()Z" } : Jvm.MethodName) ({ cls := "java/lang/AbstractStringBuilder", name := "isLatin1", desc := "()Z" } : Jvm.MethodName)) ∈ WS := ws_in (List.mem_of_getElem? (i := 309) rfl) rfl
set_option maxRecDepth 100000 in
theorem w310 : (Jvm.Cond.code ({ cls := "java/lang/AbstractStringBuilder", name := "isLatin1", desc := "()Z" } : Jvm.MethodName) prog_10_method_68_code (1 : Nat) (Option.some Jvm.ClassFile.FieldType.boolean)) ∈ WS := ws_in (List.mem_of_getElem? (i := 310) rfl) rfl
set_option maxRecDepth 100000 in
theorem w312 : (Jvm.Cond.static ({ cls := "java/lang/StringUTF16", name := "putCharsAt", desc := "([BICCCC)I" } : Jvm.MethodName)) ∈ WS := ws_in (List.mem_of_getElem? (i := 312) rfl) rfl
set_option maxRecDepth 100000 in
theorem w313 : (Jvm.Cond.code ({ cls := "java/lang/StringUTF16", name := "putCharsAt", desc := "([BICCCC)I" } : Jvm.MethodName) prog_27_method_81_code (7 : Nat) (Option.some Jvm.ClassFile.FieldType.int)) ∈ WS := ws_in (List.mem_of_getElem? (i := 313) rfl) rfl
set_option maxRecDepth 100000 in
theorem w315 : (Jvm.Cond.static ({ cls := "java/lang/StringUTF16", name := "checkBoundsBeginEnd", desc := "(II[B)V" } : Jvm.MethodName)) ∈ WS := ws_in (List.mem_of_getElem? (i := 315) rfl) rfl
set_option maxRecDepth 100000 in
theorem w316 : (Jvm.Cond.code ({ cls := "java/lang/StringUTF16", name := "checkBoundsBeginEnd", desc := "(II[B)V" } : Jvm.MethodName) prog_27_method_93_code (3 : Nat) (Option.none : Option Jvm.ClassFile.FieldType)) ∈ WS := ws_in (List.mem_of_getElem? (i := 316) rfl) rfl
set_option maxRecDepth 100000 in
theorem w318 : (Jvm.Cond.static ({ cls := "java/lang/StringUTF16", name := "length", desc := "([B)I" } : Jvm.MethodName)) ∈ WS := ws_in (List.mem_of_getElem? (i := 318) rfl) rfl
set_option maxRecDepth 100000 in
theorem w319 : (Jvm.Cond.code ({ cls := "java/lang/StringUTF16", name := "length", desc := "([B)I" } : Jvm.MethodName) prog_27_method_6_code (1 : Nat) (Option.some Jvm.ClassFile.FieldType.int)) ∈ WS := ws_in (List.mem_of_getElem? (i := 319) rfl) rfl
set_option maxRecDepth 100000 in
theorem w321 : (Jvm.Cond.static ({ cls := "java/lang/String", name := "checkBoundsBeginEnd", desc := "(III)V" } : Jvm.MethodName)) ∈ WS := ws_in (List.mem_of_getElem? (i := 321) rfl) rfl
set_option maxRecDepth 100000 in
theorem w322 : (Jvm.Cond.code ({ cls := "java/lang/String", name := "checkBoundsBeginEnd", desc := "(III)V" } : Jvm.MethodName) prog_24_method_158_code (3 : Nat) (Option.none : Option Jvm.ClassFile.FieldType)) ∈ WS := ws_in (List.mem_of_getElem? (i := 322) rfl) rfl
set_option maxRecDepth 100000 in
theorem w326 : (Jvm.Cond.static ({ cls := "jdk/internal/util/Preconditions", name := "checkFromToIndex", desc := "(IIILjava/util/function/BiFunction;)I" } : Jvm.MethodName)) ∈ WS := ws_in (List.mem_of_getElem? (i := 326) rfl) rfl
set_option maxRecDepth 100000 in
theorem w327 : (Jvm.Cond.code ({ cls := "jdk/internal/util/Preconditions", name := "checkFromToIndex", desc := "(IIILjava/util/function/BiFunction;)I" } : Jvm.MethodName) prog_42_method_12_code (4 : Nat) (Option.some Jvm.ClassFile.FieldType.int)) ∈ WS := ws_in (List.mem_of_getElem? (i := 327) rfl) rfl
set_option maxRecDepth 100000 in
theorem w329 : (Jvm.Cond.static ({ cls := "java/lang/StringUTF16", name := "putChar", desc := "([BII)V" } : Jvm.MethodName)) ∈ WS := ws_in (List.mem_of_getElem? (i := 329) rfl) rfl
set_option maxRecDepth 100000 in
theorem w330 : (Jvm.Cond.code ({ cls := "java/lang/StringUTF16", name := "putChar", desc := "([BII)V" } : Jvm.MethodName) prog_27_method_4_code (3 : Nat) (Option.none : Option Jvm.ClassFile.FieldType)) ∈ WS := ws_in (List.mem_of_getElem? (i := 330) rfl) rfl
set_option maxRecDepth 100000 in
theorem w338 : (Jvm.Cond.instanceMethod ({ cls := "java/lang/String", name := "length", desc := "()I" } : Jvm.MethodName)) ∈ WS := ws_in (List.mem_of_getElem? (i := 338) rfl) rfl
set_option maxRecDepth 100000 in
theorem w339 : (Jvm.Cond.selects "java/lang/String" ({ cls := "java/lang/String", name := "length", desc := "()I" } : Jvm.MethodName) ({ cls := "java/lang/String", name := "length", desc := "()I" } : Jvm.MethodName)) ∈ WS := ws_in (List.mem_of_getElem? (i := 339) rfl) rfl
set_option maxRecDepth 100000 in
theorem w340 : (Jvm.Cond.code ({ cls := "java/lang/String", name := "length", desc := "()I" } : Jvm.MethodName) prog_24_method_54_code (1 : Nat) (Option.some Jvm.ClassFile.FieldType.int)) ∈ WS := ws_in (List.mem_of_getElem? (i := 340) rfl) rfl
set_option maxRecDepth 100000 in
theorem w342 : (Jvm.Cond.instanceMethod ({ cls := "java/lang/String", name := "coder", desc := "()B" } : Jvm.MethodName)) ∈ WS := ws_in (List.mem_of_getElem? (i := 342) rfl) rfl
set_option maxRecDepth 100000 in
theorem w343 : (Jvm.Cond.selects "java/lang/String" ({ cls := "java/lang/String", name := "coder", desc := "()B" } : Jvm.MethodName) ({ cls := "java/lang/String", name := "coder", desc := "()B" } : Jvm.MethodName)) ∈ WS := ws_in (List.mem_of_getElem? (i := 343) rfl) rfl
set_option maxRecDepth 100000 in
theorem w344 : (Jvm.Cond.code ({ cls := "java/lang/String", name := "coder", desc := "()B" } : Jvm.MethodName) prog_24_method_152_code (1 : Nat) (Option.some Jvm.ClassFile.FieldType.byte)) ∈ WS := ws_in (List.mem_of_getElem? (i := 344) rfl) rfl
set_option maxRecDepth 100000 in
theorem w348 : (Jvm.Cond.instanceMethod ({ cls := "java/lang/AbstractStringBuilder", name := "putStringAt", desc := "(ILjava/lang/String;)V" } : Jvm.MethodName)) ∈ WS := ws_in (List.mem_of_getElem? (i := 348) rfl) rfl
set_option maxRecDepth 100000 in
theorem w349 : (Jvm.Cond.code ({ cls := "java/lang/AbstractStringBuilder", name := "putStringAt", desc := "(ILjava/lang/String;)V" } : Jvm.MethodName) prog_10_method_73_code (3 : Nat) (Option.none : Option Jvm.ClassFile.FieldType)) ∈ WS := ws_in (List.mem_of_getElem? (i := 349) rfl) rfl
set_option maxRecDepth 100000 in
theorem w352 : (Jvm.Cond.instanceMethod ({ cls := "java/lang/AbstractStringBuilder", name := "inflateIfNeededFor", desc := "(Ljava/lang/String;)V" } : Jvm.MethodName)) ∈ WS := ws_in (List.mem_of_getElem? (i := 352) rfl) rfl
set_option maxRecDepth 100000 in
theorem w353 : (Jvm.Cond.code ({ cls := "java/lang/AbstractStringBuilder", name := "inflateIfNeededFor", desc := "(Ljava/lang/String;)V" } : Jvm.MethodName) prog_10_method_71_code (2 : Nat) (Option.none : Option Jvm.ClassFile.FieldType)) ∈ WS := ws_in (List.mem_of_getElem? (i := 353) rfl) rfl
set_option maxRecDepth 100000 in
theorem w357 : (Jvm.Cond.instanceMethod ({ cls := "java/lang/AbstractStringBuilder", name := "inflate", desc := "()V" } : Jvm.MethodName)) ∈ WS := ws_in (List.mem_of_getElem? (i := 357) rfl) rfl
set_option maxRecDepth 100000 in
theorem w358 : (Jvm.Cond.code ({ cls := "java/lang/AbstractStringBuilder", name := "inflate", desc := "()V" } : Jvm.MethodName) prog_10_method_11_code (2 : Nat) (Option.none : Option Jvm.ClassFile.FieldType)) ∈ WS := ws_in (List.mem_of_getElem? (i := 358) rfl) rfl
set_option maxRecDepth 100000 in
theorem w360 : (Jvm.Cond.static ({ cls := "java/lang/StringLatin1", name := "inflate", desc := "([BI[BII)V" } : Jvm.MethodName)) ∈ WS := ws_in (List.mem_of_getElem? (i := 360) rfl) rfl
set_option maxRecDepth 100000 in
theorem w361 : (Jvm.Cond.code ({ cls := "java/lang/StringLatin1", name := "inflate", desc := "([BI[BII)V" } : Jvm.MethodName) prog_26_method_50_code (5 : Nat) (Option.none : Option Jvm.ClassFile.FieldType)) ∈ WS := ws_in (List.mem_of_getElem? (i := 361) rfl) rfl
set_option maxRecDepth 100000 in
theorem w363 : (Jvm.Cond.static ({ cls := "java/lang/StringUTF16", name := "inflate", desc := "([BI[BII)V" } : Jvm.MethodName)) ∈ WS := ws_in (List.mem_of_getElem? (i := 363) rfl) rfl
set_option maxRecDepth 100000 in
theorem w364 : (Jvm.Cond.code ({ cls := "java/lang/StringUTF16", name := "inflate", desc := "([BI[BII)V" } : Jvm.MethodName) prog_27_method_86_code (6 : Nat) (Option.none : Option Jvm.ClassFile.FieldType)) ∈ WS := ws_in (List.mem_of_getElem? (i := 364) rfl) rfl
set_option maxRecDepth 100000 in
theorem w366 : (Jvm.Cond.static ({ cls := "java/lang/StringUTF16", name := "checkBoundsOffCount", desc := "(II[B)V" } : Jvm.MethodName)) ∈ WS := ws_in (List.mem_of_getElem? (i := 366) rfl) rfl
set_option maxRecDepth 100000 in
theorem w367 : (Jvm.Cond.code ({ cls := "java/lang/StringUTF16", name := "checkBoundsOffCount", desc := "(II[B)V" } : Jvm.MethodName) prog_27_method_94_code (3 : Nat) (Option.none : Option Jvm.ClassFile.FieldType)) ∈ WS := ws_in (List.mem_of_getElem? (i := 367) rfl) rfl
set_option maxRecDepth 100000 in
theorem w369 : (Jvm.Cond.static ({ cls := "java/lang/String", name := "checkBoundsOffCount", desc := "(III)I" } : Jvm.MethodName)) ∈ WS := ws_in (List.mem_of_getElem? (i := 369) rfl) rfl
set_option maxRecDepth 100000 in
theorem w370 : (Jvm.Cond.code ({ cls := "java/lang/String", name := "checkBoundsOffCount", desc := "(III)I" } : Jvm.MethodName) prog_24_method_157_code (3 : Nat) (Option.some Jvm.ClassFile.FieldType.int)) ∈ WS := ws_in (List.mem_of_getElem? (i := 370) rfl) rfl
set_option maxRecDepth 100000 in
theorem w372 : (Jvm.Cond.static ({ cls := "jdk/internal/util/Preconditions", name := "checkFromIndexSize", desc := "(IIILjava/util/function/BiFunction;)I" } : Jvm.MethodName)) ∈ WS := ws_in (List.mem_of_getElem? (i := 372) rfl) rfl
set_option maxRecDepth 100000 in
theorem w373 : (Jvm.Cond.code ({ cls := "jdk/internal/util/Preconditions", name := "checkFromIndexSize", desc := "(IIILjava/util/function/BiFunction;)I" } : Jvm.MethodName) prog_42_method_13_code (4 : Nat) (Option.some Jvm.ClassFile.FieldType.int)) ∈ WS := ws_in (List.mem_of_getElem? (i := 373) rfl) rfl
set_option maxRecDepth 100000 in
theorem w375 : (Jvm.Cond.instanceMethod ({ cls := "java/lang/String", name := "getBytes", desc := "([BIB)V" } : Jvm.MethodName)) ∈ WS := ws_in (List.mem_of_getElem? (i := 375) rfl) rfl
set_option maxRecDepth 100000 in
theorem w376 : (Jvm.Cond.selects "java/lang/String" ({ cls := "java/lang/String", name := "getBytes", desc := "([BIB)V" } : Jvm.MethodName) ({ cls := "java/lang/String", name := "getBytes", desc := "([BIB)V" } : Jvm.MethodName)) ∈ WS := ws_in (List.mem_of_getElem? (i := 376) rfl) rfl
set_option maxRecDepth 100000 in
theorem w377 : (Jvm.Cond.code ({ cls := "java/lang/String", name := "getBytes", desc := "([BIB)V" } : Jvm.MethodName) prog_24_method_147_code (4 : Nat) (Option.none : Option Jvm.ClassFile.FieldType)) ∈ WS := ws_in (List.mem_of_getElem? (i := 377) rfl) rfl
set_option maxRecDepth 100000 in
theorem w380 : (Jvm.Cond.methodLink "java/util/ArrayList" (29 : Nat) ({ cls := "java/lang/StringBuilder", name := "append", desc := "(I)Ljava/lang/StringBuilder;" } : Jvm.MethodName)) ∈ WS := ws_in (List.mem_of_getElem? (i := 380) rfl) rfl
set_option maxRecDepth 100000 in
theorem w381 : (Jvm.Cond.instanceMethod ({ cls := "java/lang/StringBuilder", name := "append", desc := "(I)Ljava/lang/StringBuilder;" } : Jvm.MethodName)) ∈ WS := ws_in (List.mem_of_getElem? (i := 381) rfl) rfl
set_option maxRecDepth 100000 in
theorem w382 : (Jvm.Cond.selects "java/lang/StringBuilder" ({ cls := "java/lang/StringBuilder", name := "append", desc := "(I)Ljava/lang/StringBuilder;" } : Jvm.MethodName) ({ cls := "java/lang/StringBuilder", name := "append", desc := "(I)Ljava/lang/StringBuilder;" } : Jvm.MethodName)) ∈ WS := ws_in (List.mem_of_getElem? (i := 382) rfl) rfl
set_option maxRecDepth 100000 in
theorem w383 : (Jvm.Cond.code ({ cls := "java/lang/StringBuilder", name := "append", desc := "(I)Ljava/lang/StringBuilder;" } : Jvm.MethodName) prog_25_method_15_code (2 : Nat) (Option.some (Jvm.ClassFile.FieldType.object "java/lang/StringBuilder"))) ∈ WS := ws_in (List.mem_of_getElem? (i := 383) rfl) rfl
set_option maxRecDepth 100000 in
theorem w385 : (Jvm.Cond.instanceMethod ({ cls := "java/lang/AbstractStringBuilder", name := "append", desc := "(I)Ljava/lang/AbstractStringBuilder;" } : Jvm.MethodName)) ∈ WS := ws_in (List.mem_of_getElem? (i := 385) rfl) rfl
set_option maxRecDepth 100000 in
theorem w386 : (Jvm.Cond.code ({ cls := "java/lang/AbstractStringBuilder", name := "append", desc := "(I)Ljava/lang/AbstractStringBuilder;" } : Jvm.MethodName) prog_10_method_32_code (4 : Nat) (Option.some (Jvm.ClassFile.FieldType.object "java/lang/AbstractStringBuilder"))) ∈ WS := ws_in (List.mem_of_getElem? (i := 386) rfl) rfl
set_option maxRecDepth 100000 in
theorem w388 : (Jvm.Cond.static ({ cls := "java/lang/Integer", name := "stringSize", desc := "(I)I" } : Jvm.MethodName)) ∈ WS := ws_in (List.mem_of_getElem? (i := 388) rfl) rfl
set_option maxRecDepth 100000 in
theorem w389 : (Jvm.Cond.code ({ cls := "java/lang/Integer", name := "stringSize", desc := "(I)I" } : Jvm.MethodName) prog_19_method_13_code (4 : Nat) (Option.some Jvm.ClassFile.FieldType.int)) ∈ WS := ws_in (List.mem_of_getElem? (i := 389) rfl) rfl
set_option maxRecDepth 100000 in
theorem w391 : (Jvm.Cond.static ({ cls := "java/lang/Integer", name := "getChars", desc := "(II[B)I" } : Jvm.MethodName)) ∈ WS := ws_in (List.mem_of_getElem? (i := 391) rfl) rfl
set_option maxRecDepth 100000 in
theorem w392 : (Jvm.Cond.code ({ cls := "java/lang/Integer", name := "getChars", desc := "(II[B)I" } : Jvm.MethodName) prog_19_method_12_code (7 : Nat) (Option.some Jvm.ClassFile.FieldType.int)) ∈ WS := ws_in (List.mem_of_getElem? (i := 392) rfl) rfl
set_option maxRecDepth 100000 in
theorem w398 : (Jvm.Cond.static ({ cls := "java/lang/StringUTF16", name := "getChars", desc := "(III[B)I" } : Jvm.MethodName)) ∈ WS := ws_in (List.mem_of_getElem? (i := 398) rfl) rfl
set_option maxRecDepth 100000 in
theorem w399 : (Jvm.Cond.code ({ cls := "java/lang/StringUTF16", name := "getChars", desc := "(III[B)I" } : Jvm.MethodName) prog_27_method_77_code (5 : Nat) (Option.some Jvm.ClassFile.FieldType.int)) ∈ WS := ws_in (List.mem_of_getElem? (i := 399) rfl) rfl
set_option maxRecDepth 100000 in
theorem w401 : (Jvm.Cond.static ({ cls := "java/lang/StringUTF16", name := "getChars", desc := "(II[B)I" } : Jvm.MethodName)) ∈ WS := ws_in (List.mem_of_getElem? (i := 401) rfl) rfl
set_option maxRecDepth 100000 in
theorem w402 : (Jvm.Cond.code ({ cls := "java/lang/StringUTF16", name := "getChars", desc := "(II[B)I" } : Jvm.MethodName) prog_27_method_89_code (7 : Nat) (Option.some Jvm.ClassFile.FieldType.int)) ∈ WS := ws_in (List.mem_of_getElem? (i := 402) rfl) rfl
set_option maxRecDepth 100000 in
theorem w406 : (Jvm.Cond.methodLink "java/util/ArrayList" (32 : Nat) ({ cls := "java/lang/StringBuilder", name := "toString", desc := "()Ljava/lang/String;" } : Jvm.MethodName)) ∈ WS := ws_in (List.mem_of_getElem? (i := 406) rfl) rfl
set_option maxRecDepth 100000 in
theorem w407 : (Jvm.Cond.instanceMethod ({ cls := "java/lang/StringBuilder", name := "toString", desc := "()Ljava/lang/String;" } : Jvm.MethodName)) ∈ WS := ws_in (List.mem_of_getElem? (i := 407) rfl) rfl
set_option maxRecDepth 100000 in
theorem w408 : (Jvm.Cond.selects "java/lang/StringBuilder" ({ cls := "java/lang/StringBuilder", name := "toString", desc := "()Ljava/lang/String;" } : Jvm.MethodName) ({ cls := "java/lang/StringBuilder", name := "toString", desc := "()Ljava/lang/String;" } : Jvm.MethodName)) ∈ WS := ws_in (List.mem_of_getElem? (i := 408) rfl) rfl
set_option maxRecDepth 100000 in
theorem w409 : (Jvm.Cond.code ({ cls := "java/lang/StringBuilder", name := "toString", desc := "()Ljava/lang/String;" } : Jvm.MethodName) prog_25_method_42_code (1 : Nat) (Option.some (Jvm.ClassFile.FieldType.object "java/lang/String"))) ∈ WS := ws_in (List.mem_of_getElem? (i := 409) rfl) rfl
set_option maxRecDepth 100000 in
theorem w411 : (Jvm.Cond.instantiable "java/lang/String" (4 : Nat)) ∈ WS := ws_in (List.mem_of_getElem? (i := 411) rfl) rfl
set_option maxRecDepth 100000 in
theorem w413 : (Jvm.Cond.instanceMethod ({ cls := "java/lang/String", name := "<init>", desc := "(Ljava/lang/StringBuilder;)V" } : Jvm.MethodName)) ∈ WS := ws_in (List.mem_of_getElem? (i := 413) rfl) rfl
set_option maxRecDepth 100000 in
theorem w414 : (Jvm.Cond.code ({ cls := "java/lang/String", name := "<init>", desc := "(Ljava/lang/StringBuilder;)V" } : Jvm.MethodName) prog_24_method_53_code (2 : Nat) (Option.none : Option Jvm.ClassFile.FieldType)) ∈ WS := ws_in (List.mem_of_getElem? (i := 414) rfl) rfl
set_option maxRecDepth 100000 in
theorem w416 : (Jvm.Cond.instanceMethod ({ cls := "java/lang/String", name := "<init>", desc := "(Ljava/lang/AbstractStringBuilder;Ljava/lang/Void;)V" } : Jvm.MethodName)) ∈ WS := ws_in (List.mem_of_getElem? (i := 416) rfl) rfl
set_option maxRecDepth 100000 in
theorem w417 : (Jvm.Cond.code ({ cls := "java/lang/String", name := "<init>", desc := "(Ljava/lang/AbstractStringBuilder;Ljava/lang/Void;)V" } : Jvm.MethodName) prog_24_method_150_code (5 : Nat) (Option.none : Option Jvm.ClassFile.FieldType)) ∈ WS := ws_in (List.mem_of_getElem? (i := 417) rfl) rfl
set_option maxRecDepth 100000 in
theorem w420 : (Jvm.Cond.instanceMethod ({ cls := "java/lang/AbstractStringBuilder", name := "getValue", desc := "()[B" } : Jvm.MethodName)) ∈ WS := ws_in (List.mem_of_getElem? (i := 420) rfl) rfl
set_option maxRecDepth 100000 in
theorem w421 : (Jvm.Cond.sameMethod "java/lang/AbstractStringBuilder" "java/lang/AbstractStringBuilder" "getValue" "()[B") ∈ WS := ws_in (List.mem_of_getElem? (i := 421) rfl) rfl
set_option maxRecDepth 100000 in
theorem w422 : (Jvm.Cond.selects "java/lang/StringBuilder" ({ cls := "java/lang/AbstractStringBuilder", name := "getValue", desc := "()[B" } : Jvm.MethodName) ({ cls := "java/lang/AbstractStringBuilder", name := "getValue", desc := "()[B" } : Jvm.MethodName)) ∈ WS := ws_in (List.mem_of_getElem? (i := 422) rfl) rfl
set_option maxRecDepth 100000 in
theorem w423 : (Jvm.Cond.code ({ cls := "java/lang/AbstractStringBuilder", name := "getValue", desc := "()[B" } : Jvm.MethodName) prog_10_method_64_code (1 : Nat) (Option.some (Jvm.ClassFile.FieldType.array Jvm.ClassFile.FieldType.byte))) ∈ WS := ws_in (List.mem_of_getElem? (i := 423) rfl) rfl
set_option maxRecDepth 100000 in
theorem w425 : (Jvm.Cond.instanceMethod ({ cls := "java/lang/AbstractStringBuilder", name := "length", desc := "()I" } : Jvm.MethodName)) ∈ WS := ws_in (List.mem_of_getElem? (i := 425) rfl) rfl
set_option maxRecDepth 100000 in
theorem w426 : (Jvm.Cond.sameMethod "java/lang/AbstractStringBuilder" "java/lang/AbstractStringBuilder" "length" "()I") ∈ WS := ws_in (List.mem_of_getElem? (i := 426) rfl) rfl
set_option maxRecDepth 100000 in
theorem w427 : (Jvm.Cond.selects "java/lang/StringBuilder" ({ cls := "java/lang/AbstractStringBuilder", name := "length", desc := "()I" } : Jvm.MethodName) ({ cls := "java/lang/StringBuilder", name := "length", desc := "()I" } : Jvm.MethodName)) ∈ WS := ws_in (List.mem_of_getElem? (i := 427) rfl) rfl
set_option maxRecDepth 100000 in
theorem w428 : (Jvm.Cond.instanceMethod ({ cls := "java/lang/StringBuilder", name := "length", desc := "()I" } : Jvm.MethodName)) ∈ WS := ws_in (List.mem_of_getElem? (i := 428) rfl) rfl
set_option maxRecDepth 100000 in
theorem w429 : (Jvm.Cond.code ({ cls := "java/lang/StringBuilder", name := "length", desc := "()I" } : Jvm.MethodName) prog_25_method_93_code (1 : Nat) (Option.some Jvm.ClassFile.FieldType.int)) ∈ WS := ws_in (List.mem_of_getElem? (i := 429) rfl) rfl
set_option maxRecDepth 100000 in
theorem w431 : (Jvm.Cond.code ({ cls := "java/lang/AbstractStringBuilder", name := "length", desc := "()I" } : Jvm.MethodName) prog_10_method_6_code (1 : Nat) (Option.some Jvm.ClassFile.FieldType.int)) ∈ WS := ws_in (List.mem_of_getElem? (i := 431) rfl) rfl
set_option maxRecDepth 100000 in
theorem w434 : (Jvm.Cond.static ({ cls := "java/util/Arrays", name := "copyOfRange", desc := "([BII)[B" } : Jvm.MethodName)) ∈ WS := ws_in (List.mem_of_getElem? (i := 434) rfl) rfl
set_option maxRecDepth 100000 in
theorem w435 : (Jvm.Cond.code ({ cls := "java/util/Arrays", name := "copyOfRange", desc := "([BII)[B" } : Jvm.MethodName) prog_35_method_132_code (3 : Nat) (Option.some (Jvm.ClassFile.FieldType.array Jvm.ClassFile.FieldType.byte))) ∈ WS := ws_in (List.mem_of_getElem? (i := 435) rfl) rfl
set_option maxRecDepth 100000 in
theorem w436 : (Jvm.Cond.methodLink "java/util/Arrays" (339 : Nat) ({ cls := "java/util/Arrays", name := "copyOfRangeByte", desc := "([BII)[B" } : Jvm.MethodName)) ∈ WS := ws_in (List.mem_of_getElem? (i := 436) rfl) rfl
set_option maxRecDepth 100000 in
theorem w437 : (Jvm.Cond.static ({ cls := "java/util/Arrays", name := "copyOfRangeByte", desc := "([BII)[B" } : Jvm.MethodName)) ∈ WS := ws_in (List.mem_of_getElem? (i := 437) rfl) rfl
set_option maxRecDepth 100000 in
theorem w438 : (Jvm.Cond.code ({ cls := "java/util/Arrays", name := "copyOfRangeByte", desc := "([BII)[B" } : Jvm.MethodName) prog_35_method_133_code (5 : Nat) (Option.some (Jvm.ClassFile.FieldType.array Jvm.ClassFile.FieldType.byte))) ∈ WS := ws_in (List.mem_of_getElem? (i := 438) rfl) rfl
set_option maxRecDepth 100000 in
theorem w439 : (Jvm.Cond.methodLink "java/util/Arrays" (343 : Nat) ({ cls := "java/util/Arrays", name := "checkLength", desc := "(II)V" } : Jvm.MethodName)) ∈ WS := ws_in (List.mem_of_getElem? (i := 439) rfl) rfl
set_option maxRecDepth 100000 in
theorem w440 : (Jvm.Cond.static ({ cls := "java/util/Arrays", name := "checkLength", desc := "(II)V" } : Jvm.MethodName)) ∈ WS := ws_in (List.mem_of_getElem? (i := 440) rfl) rfl
set_option maxRecDepth 100000 in
theorem w441 : (Jvm.Cond.code ({ cls := "java/util/Arrays", name := "checkLength", desc := "(II)V" } : Jvm.MethodName) prog_35_method_131_code (2 : Nat) (Option.none : Option Jvm.ClassFile.FieldType)) ∈ WS := ws_in (List.mem_of_getElem? (i := 441) rfl) rfl
set_option maxRecDepth 100000 in
theorem w442 : (Jvm.Cond.classLink "java/util/Arrays" (43 : Nat) "java/lang/IllegalArgumentException") ∈ WS := ws_in (List.mem_of_getElem? (i := 442) rfl) rfl
set_option maxRecDepth 100000 in
theorem w443 : (Jvm.Cond.instantiable "java/lang/IllegalArgumentException" (6 : Nat)) ∈ WS := ws_in (List.mem_of_getElem? (i := 443) rfl) rfl
set_option maxRecDepth 100000 in
theorem w445 : (Jvm.Cond.selects "java/lang/IllegalArgumentException" ({ cls := "java/lang/Throwable", name := "fillInStackTrace", desc := "(I)Ljava/lang/Throwable;" } : Jvm.MethodName) ({ cls := "java/lang/Throwable", name := "fillInStackTrace", desc := "(I)Ljava/lang/Throwable;" } : Jvm.MethodName)) ∈ WS := ws_in (List.mem_of_getElem? (i := 445) rfl) rfl
set_option maxRecDepth 100000 in
theorem w446 : (Jvm.Cond.lays "java/lang/IllegalArgumentException" "java/lang/Throwable" "cause" "Ljava/lang/Throwable;") ∈ WS := ws_in (List.mem_of_getElem? (i := 446) rfl) rfl
set_option maxRecDepth 100000 in
theorem w447 : (Jvm.Cond.lays "java/lang/IllegalArgumentException" "java/lang/Throwable" "stackTrace" "[Ljava/lang/StackTraceElement;") ∈ WS := ws_in (List.mem_of_getElem? (i := 447) rfl) rfl
set_option maxRecDepth 100000 in
theorem w448 : (Jvm.Cond.lays "java/lang/IllegalArgumentException" "java/lang/Throwable" "suppressedExceptions" "Ljava/util/List;") ∈ WS := ws_in (List.mem_of_getElem? (i := 448) rfl) rfl
set_option maxRecDepth 100000 in
theorem w449 : (Jvm.Cond.lays "java/lang/IllegalArgumentException" "java/lang/Throwable" "detailMessage" "Ljava/lang/String;") ∈ WS := ws_in (List.mem_of_getElem? (i := 449) rfl) rfl
set_option maxRecDepth 100000 in
theorem w450 : (Jvm.Cond.lays "java/lang/IllegalArgumentException" "java/lang/Throwable" "backtrace" "Ljava/lang/Object;") ∈ WS := ws_in (List.mem_of_getElem? (i := 450) rfl) rfl
set_option maxRecDepth 100000 in
theorem w451 : (Jvm.Cond.classLink "java/util/Arrays" (45 : Nat) "java/lang/StringBuilder") ∈ WS := ws_in (List.mem_of_getElem? (i := 451) rfl) rfl
set_option maxRecDepth 100000 in
theorem w452 : (Jvm.Cond.methodLink "java/util/Arrays" (47 : Nat) ({ cls := "java/lang/StringBuilder", name := "<init>", desc := "()V" } : Jvm.MethodName)) ∈ WS := ws_in (List.mem_of_getElem? (i := 452) rfl) rfl
set_option maxRecDepth 100000 in
theorem w453 : (Jvm.Cond.methodLink "java/util/Arrays" (54 : Nat) ({ cls := "java/lang/StringBuilder", name := "append", desc := "(I)Ljava/lang/StringBuilder;" } : Jvm.MethodName)) ∈ WS := ws_in (List.mem_of_getElem? (i := 453) rfl) rfl
set_option maxRecDepth 100000 in
theorem w455 : (Jvm.Cond.methodLink "java/util/Arrays" (50 : Nat) ({ cls := "java/lang/StringBuilder", name := "append", desc := "(Ljava/lang/String;)Ljava/lang/StringBuilder;" } : Jvm.MethodName)) ∈ WS := ws_in (List.mem_of_getElem? (i := 455) rfl) rfl
set_option maxRecDepth 100000 in
theorem w456 : (Jvm.Cond.methodLink "java/util/Arrays" (61 : Nat) ({ cls := "java/lang/StringBuilder", name := "toString", desc := "()Ljava/lang/String;" } : Jvm.MethodName)) ∈ WS := ws_in (List.mem_of_getElem? (i := 456) rfl) rfl
set_option maxRecDepth 100000 in
theorem w457 : (Jvm.Cond.methodLink "java/util/Arrays" (65 : Nat) ({ cls := "java/lang/IllegalArgumentException", name := "<init>", desc := "(Ljava/lang/String;)V" } : Jvm.MethodName)) ∈ WS := ws_in (List.mem_of_getElem? (i := 457) rfl) rfl
set_option maxRecDepth 100000 in
theorem w458 : (Jvm.Cond.instanceMethod ({ cls := "java/lang/IllegalArgumentException", name := "<init>", desc := "(Ljava/lang/String;)V" } : Jvm.MethodName)) ∈ WS := ws_in (List.mem_of_getElem? (i := 458) rfl) rfl
set_option maxRecDepth 100000 in
theorem w459 : (Jvm.Cond.code ({ cls := "java/lang/IllegalArgumentException", name := "<init>", desc := "(Ljava/lang/String;)V" } : Jvm.MethodName) prog_16_method_2_code (2 : Nat) (Option.none : Option Jvm.ClassFile.FieldType)) ∈ WS := ws_in (List.mem_of_getElem? (i := 459) rfl) rfl
set_option maxRecDepth 100000 in
theorem w461 : (Jvm.Cond.instanceMethod ({ cls := "java/lang/RuntimeException", name := "<init>", desc := "(Ljava/lang/String;)V" } : Jvm.MethodName)) ∈ WS := ws_in (List.mem_of_getElem? (i := 461) rfl) rfl
set_option maxRecDepth 100000 in
theorem w462 : (Jvm.Cond.code ({ cls := "java/lang/RuntimeException", name := "<init>", desc := "(Ljava/lang/String;)V" } : Jvm.MethodName) prog_23_method_2_code (2 : Nat) (Option.none : Option Jvm.ClassFile.FieldType)) ∈ WS := ws_in (List.mem_of_getElem? (i := 462) rfl) rfl
set_option maxRecDepth 100000 in
theorem w464 : (Jvm.Cond.instanceMethod ({ cls := "java/lang/Exception", name := "<init>", desc := "(Ljava/lang/String;)V" } : Jvm.MethodName)) ∈ WS := ws_in (List.mem_of_getElem? (i := 464) rfl) rfl
set_option maxRecDepth 100000 in
theorem w465 : (Jvm.Cond.code ({ cls := "java/lang/Exception", name := "<init>", desc := "(Ljava/lang/String;)V" } : Jvm.MethodName) prog_15_method_2_code (2 : Nat) (Option.none : Option Jvm.ClassFile.FieldType)) ∈ WS := ws_in (List.mem_of_getElem? (i := 465) rfl) rfl
set_option maxRecDepth 100000 in
theorem w467 : (Jvm.Cond.instanceMethod ({ cls := "java/lang/Throwable", name := "<init>", desc := "(Ljava/lang/String;)V" } : Jvm.MethodName)) ∈ WS := ws_in (List.mem_of_getElem? (i := 467) rfl) rfl
set_option maxRecDepth 100000 in
theorem w468 : (Jvm.Cond.code ({ cls := "java/lang/Throwable", name := "<init>", desc := "(Ljava/lang/String;)V" } : Jvm.MethodName) prog_29_method_2_code (2 : Nat) (Option.none : Option Jvm.ClassFile.FieldType)) ∈ WS := ws_in (List.mem_of_getElem? (i := 468) rfl) rfl
set_option maxRecDepth 100000 in
theorem w478 : (Jvm.Cond.lays "java/lang/IllegalArgumentException" "java/lang/Throwable" "depth" "I") ∈ WS := ws_in (List.mem_of_getElem? (i := 478) rfl) rfl
set_option maxRecDepth 100000 in
theorem w483 : (Jvm.Cond.static ({ cls := "java/lang/StringUTF16", name := "compress", desc := "([BII)[B" } : Jvm.MethodName)) ∈ WS := ws_in (List.mem_of_getElem? (i := 483) rfl) rfl
set_option maxRecDepth 100000 in
theorem w484 : (Jvm.Cond.code ({ cls := "java/lang/StringUTF16", name := "compress", desc := "([BII)[B" } : Jvm.MethodName) prog_27_method_17_code (6 : Nat) (Option.some (Jvm.ClassFile.FieldType.array Jvm.ClassFile.FieldType.byte))) ∈ WS := ws_in (List.mem_of_getElem? (i := 484) rfl) rfl
set_option maxRecDepth 100000 in
theorem w486 : (Jvm.Cond.static ({ cls := "java/lang/StringUTF16", name := "compress", desc := "([BI[BII)I" } : Jvm.MethodName)) ∈ WS := ws_in (List.mem_of_getElem? (i := 486) rfl) rfl
set_option maxRecDepth 100000 in
theorem w487 : (Jvm.Cond.code ({ cls := "java/lang/StringUTF16", name := "compress", desc := "([BI[BII)I" } : Jvm.MethodName) prog_27_method_22_code (7 : Nat) (Option.some Jvm.ClassFile.FieldType.int)) ∈ WS := ws_in (List.mem_of_getElem? (i := 487) rfl) rfl
set_option maxRecDepth 100000 in
theorem w489 : (Jvm.Cond.static ({ cls := "java/lang/StringUTF16", name := "getChar", desc := "([BI)C" } : Jvm.MethodName)) ∈ WS := ws_in (List.mem_of_getElem? (i := 489) rfl) rfl
set_option maxRecDepth 100000 in
theorem w490 : (Jvm.Cond.code ({ cls := "java/lang/StringUTF16", name := "getChar", desc := "([BI)C" } : Jvm.MethodName) prog_27_method_5_code (2 : Nat) (Option.some Jvm.ClassFile.FieldType.char)) ∈ WS := ws_in (List.mem_of_getElem? (i := 490) rfl) rfl
set_option maxRecDepth 100000 in
theorem w493 : (Jvm.Cond.static ({ cls := "java/lang/StringUTF16", name := "coderFromArrayLen", desc := "([BI)B" } : Jvm.MethodName)) ∈ WS := ws_in (List.mem_of_getElem? (i := 493) rfl) rfl
set_option maxRecDepth 100000 in
theorem w494 : (Jvm.Cond.code ({ cls := "java/lang/StringUTF16", name := "coderFromArrayLen", desc := "([BI)B" } : Jvm.MethodName) prog_27_method_15_code (2 : Nat) (Option.some Jvm.ClassFile.FieldType.byte)) ∈ WS := ws_in (List.mem_of_getElem? (i := 494) rfl) rfl
set_option maxRecDepth 100000 in
theorem w497 : (Jvm.Cond.laysFinal "java/lang/String" "java/lang/String" "value" "[B") ∈ WS := ws_in (List.mem_of_getElem? (i := 497) rfl) rfl
set_option maxRecDepth 100000 in
theorem w499 : (Jvm.Cond.laysFinal "java/lang/String" "java/lang/String" "coder" "B") ∈ WS := ws_in (List.mem_of_getElem? (i := 499) rfl) rfl
set_option maxRecDepth 100000 in
theorem w501 : (Jvm.Cond.lays "java/lang/String" "java/lang/String" "hash" "I") ∈ WS := ws_in (List.mem_of_getElem? (i := 501) rfl) rfl
set_option maxRecDepth 100000 in
theorem w503 : (Jvm.Cond.lays "java/lang/String" "java/lang/String" "hashIsZero" "Z") ∈ WS := ws_in (List.mem_of_getElem? (i := 503) rfl) rfl
set_option maxRecDepth 100000 in
theorem w506 : (Jvm.Cond.methodLink "java/util/ArrayList" (193 : Nat) ({ cls := "java/lang/IndexOutOfBoundsException", name := "<init>", desc := "(Ljava/lang/String;)V" } : Jvm.MethodName)) ∈ WS := ws_in (List.mem_of_getElem? (i := 506) rfl) rfl
set_option maxRecDepth 100000 in
theorem w507 : (Jvm.Cond.instanceMethod ({ cls := "java/lang/IndexOutOfBoundsException", name := "<init>", desc := "(Ljava/lang/String;)V" } : Jvm.MethodName)) ∈ WS := ws_in (List.mem_of_getElem? (i := 507) rfl) rfl
set_option maxRecDepth 100000 in
theorem w508 : (Jvm.Cond.code ({ cls := "java/lang/IndexOutOfBoundsException", name := "<init>", desc := "(Ljava/lang/String;)V" } : Jvm.MethodName) prog_18_method_2_code (2 : Nat) (Option.none : Option Jvm.ClassFile.FieldType)) ∈ WS := ws_in (List.mem_of_getElem? (i := 508) rfl) rfl
set_option maxRecDepth 100000 in
theorem w510 : (Jvm.Cond.lays "java/lang/IndexOutOfBoundsException" "java/lang/Throwable" "depth" "I") ∈ WS := ws_in (List.mem_of_getElem? (i := 510) rfl) rfl
set_option maxRecDepth 100000 in
theorem w512 : (Jvm.Cond.methodLink "java/util/ArrayList" (129 : Nat) ({ cls := "java/util/ArrayList", name := "grow", desc := "()[Ljava/lang/Object;" } : Jvm.MethodName)) ∈ WS := ws_in (List.mem_of_getElem? (i := 512) rfl) rfl
set_option maxRecDepth 100000 in
theorem w514 : (Jvm.Cond.instanceMethod ({ cls := "java/util/ArrayList", name := "grow", desc := "()[Ljava/lang/Object;" } : Jvm.MethodName)) ∈ WS := ws_in (List.mem_of_getElem? (i := 514) rfl) rfl
set_option maxRecDepth 100000 in
theorem w515 : (Jvm.Cond.code ({ cls := "java/util/ArrayList", name := "grow", desc := "()[Ljava/lang/Object;" } : Jvm.MethodName) prog_34_method_7_code (1 : Nat) (Option.some (Jvm.ClassFile.FieldType.array (Jvm.ClassFile.FieldType.object "java/lang/Object")))) ∈ WS := ws_in (List.mem_of_getElem? (i := 515) rfl) rfl
set_option maxRecDepth 100000 in
theorem w516 : (Jvm.Cond.methodLink "java/util/ArrayList" (69 : Nat) ({ cls := "java/util/ArrayList", name := "grow", desc := "(I)[Ljava/lang/Object;" } : Jvm.MethodName)) ∈ WS := ws_in (List.mem_of_getElem? (i := 516) rfl) rfl
set_option maxRecDepth 100000 in
theorem w518 : (Jvm.Cond.instanceMethod ({ cls := "java/util/ArrayList", name := "grow", desc := "(I)[Ljava/lang/Object;" } : Jvm.MethodName)) ∈ WS := ws_in (List.mem_of_getElem? (i := 518) rfl) rfl
set_option maxRecDepth 100000 in
theorem w519 : (Jvm.Cond.code ({ cls := "java/util/ArrayList", name := "grow", desc := "(I)[Ljava/lang/Object;" } : Jvm.MethodName) prog_34_method_6_code (4 : Nat) (Option.some (Jvm.ClassFile.FieldType.array (Jvm.ClassFile.FieldType.object "java/lang/Object")))) ∈ WS := ws_in (List.mem_of_getElem? (i := 519) rfl) rfl
set_option maxRecDepth 100000 in
theorem w520 : (Jvm.Cond.methodLink "java/util/ArrayList" (73 : Nat) ({ cls := "jdk/internal/util/ArraysSupport", name := "newLength", desc := "(III)I" } : Jvm.MethodName)) ∈ WS := ws_in (List.mem_of_getElem? (i := 520) rfl) rfl
set_option maxRecDepth 100000 in
theorem w521 : (Jvm.Cond.methodLink "java/util/ArrayList" (66 : Nat) ({ cls := "java/util/Arrays", name := "copyOf", desc := "([Ljava/lang/Object;I)[Ljava/lang/Object;" } : Jvm.MethodName)) ∈ WS := ws_in (List.mem_of_getElem? (i := 521) rfl) rfl
set_option maxRecDepth 100000 in
theorem w522 : (Jvm.Cond.static ({ cls := "java/util/Arrays", name := "copyOf", desc := "([Ljava/lang/Object;I)[Ljava/lang/Object;" } : Jvm.MethodName)) ∈ WS := ws_in (List.mem_of_getElem? (i := 522) rfl) rfl
set_option maxRecDepth 100000 in
theorem w523 : (Jvm.Cond.code ({ cls := "java/util/Arrays", name := "copyOf", desc := "([Ljava/lang/Object;I)[Ljava/lang/Object;" } : Jvm.MethodName) prog_35_method_119_code (2 : Nat) (Option.some (Jvm.ClassFile.FieldType.array (Jvm.ClassFile.FieldType.object "java/lang/Object")))) ∈ WS := ws_in (List.mem_of_getElem? (i := 523) rfl) rfl
set_option maxRecDepth 100000 in
theorem w524 : (Jvm.Cond.methodLink "java/util/Arrays" (86 : Nat) ({ cls := "java/lang/Object", name := "getClass", desc := "()Ljava/lang/Class;" } : Jvm.MethodName)) ∈ WS := ws_in (List.mem_of_getElem? (i := 524) rfl) rfl
set_option maxRecDepth 100000 in
theorem w525 : (Jvm.Cond.instanceMethod ({ cls := "java/lang/Object", name := "getClass", desc := "()Ljava/lang/Class;" } : Jvm.MethodName)) ∈ WS := ws_in (List.mem_of_getElem? (i := 525) rfl) rfl
set_option maxRecDepth 100000 in
theorem w526 : (Jvm.Cond.sameMethod "java/lang/Object" "java/lang/Object" "getClass" "()Ljava/lang/Class;") ∈ WS := ws_in (List.mem_of_getElem? (i := 526) rfl) rfl
set_option maxRecDepth 100000 in
theorem w527 : (Jvm.Cond.selects "RestrictedFunds" ({ cls := "java/lang/Object", name := "getClass", desc := "()Ljava/lang/Class;" } : Jvm.MethodName) ({ cls := "java/lang/Object", name := "getClass", desc := "()Ljava/lang/Class;" } : Jvm.MethodName)) ∈ WS := ws_in (List.mem_of_getElem? (i := 527) rfl) rfl
set_option maxRecDepth 100000 in
theorem w528 : (Jvm.Cond.selects "RestrictedFunds$Commitment" ({ cls := "java/lang/Object", name := "getClass", desc := "()Ljava/lang/Class;" } : Jvm.MethodName) ({ cls := "java/lang/Object", name := "getClass", desc := "()Ljava/lang/Class;" } : Jvm.MethodName)) ∈ WS := ws_in (List.mem_of_getElem? (i := 528) rfl) rfl
set_option maxRecDepth 100000 in
theorem w529 : (Jvm.Cond.selects "RestrictedFunds$Cost" ({ cls := "java/lang/Object", name := "getClass", desc := "()Ljava/lang/Class;" } : Jvm.MethodName) ({ cls := "java/lang/Object", name := "getClass", desc := "()Ljava/lang/Class;" } : Jvm.MethodName)) ∈ WS := ws_in (List.mem_of_getElem? (i := 529) rfl) rfl
set_option maxRecDepth 100000 in
theorem w530 : (Jvm.Cond.selects "RestrictedFunds$Fund" ({ cls := "java/lang/Object", name := "getClass", desc := "()Ljava/lang/Class;" } : Jvm.MethodName) ({ cls := "java/lang/Object", name := "getClass", desc := "()Ljava/lang/Class;" } : Jvm.MethodName)) ∈ WS := ws_in (List.mem_of_getElem? (i := 530) rfl) rfl
set_option maxRecDepth 100000 in
theorem w531 : (Jvm.Cond.selects "RestrictedFunds$Plan" ({ cls := "java/lang/Object", name := "getClass", desc := "()Ljava/lang/Class;" } : Jvm.MethodName) ({ cls := "java/lang/Object", name := "getClass", desc := "()Ljava/lang/Class;" } : Jvm.MethodName)) ∈ WS := ws_in (List.mem_of_getElem? (i := 531) rfl) rfl
set_option maxRecDepth 100000 in
theorem w532 : (Jvm.Cond.selects "RestrictedFundsModel" ({ cls := "java/lang/Object", name := "getClass", desc := "()Ljava/lang/Class;" } : Jvm.MethodName) ({ cls := "java/lang/Object", name := "getClass", desc := "()Ljava/lang/Class;" } : Jvm.MethodName)) ∈ WS := ws_in (List.mem_of_getElem? (i := 532) rfl) rfl
set_option maxRecDepth 100000 in
theorem w533 : (Jvm.Cond.selects "java/lang/IllegalArgumentException" ({ cls := "java/lang/Object", name := "getClass", desc := "()Ljava/lang/Class;" } : Jvm.MethodName) ({ cls := "java/lang/Object", name := "getClass", desc := "()Ljava/lang/Class;" } : Jvm.MethodName)) ∈ WS := ws_in (List.mem_of_getElem? (i := 533) rfl) rfl
set_option maxRecDepth 100000 in
theorem w534 : (Jvm.Cond.selects "java/lang/IllegalStateException" ({ cls := "java/lang/Object", name := "getClass", desc := "()Ljava/lang/Class;" } : Jvm.MethodName) ({ cls := "java/lang/Object", name := "getClass", desc := "()Ljava/lang/Class;" } : Jvm.MethodName)) ∈ WS := ws_in (List.mem_of_getElem? (i := 534) rfl) rfl
set_option maxRecDepth 100000 in
theorem w535 : (Jvm.Cond.selects "java/lang/IndexOutOfBoundsException" ({ cls := "java/lang/Object", name := "getClass", desc := "()Ljava/lang/Class;" } : Jvm.MethodName) ({ cls := "java/lang/Object", name := "getClass", desc := "()Ljava/lang/Class;" } : Jvm.MethodName)) ∈ WS := ws_in (List.mem_of_getElem? (i := 535) rfl) rfl
set_option maxRecDepth 100000 in
theorem w536 : (Jvm.Cond.selects "java/lang/String" ({ cls := "java/lang/Object", name := "getClass", desc := "()Ljava/lang/Class;" } : Jvm.MethodName) ({ cls := "java/lang/Object", name := "getClass", desc := "()Ljava/lang/Class;" } : Jvm.MethodName)) ∈ WS := ws_in (List.mem_of_getElem? (i := 536) rfl) rfl
set_option maxRecDepth 100000 in
theorem w537 : (Jvm.Cond.selects "java/lang/StringBuilder" ({ cls := "java/lang/Object", name := "getClass", desc := "()Ljava/lang/Class;" } : Jvm.MethodName) ({ cls := "java/lang/Object", name := "getClass", desc := "()Ljava/lang/Class;" } : Jvm.MethodName)) ∈ WS := ws_in (List.mem_of_getElem? (i := 537) rfl) rfl
set_option maxRecDepth 100000 in
theorem w538 : (Jvm.Cond.selects "java/util/ArrayList" ({ cls := "java/lang/Object", name := "getClass", desc := "()Ljava/lang/Class;" } : Jvm.MethodName) ({ cls := "java/lang/Object", name := "getClass", desc := "()Ljava/lang/Class;" } : Jvm.MethodName)) ∈ WS := ws_in (List.mem_of_getElem? (i := 538) rfl) rfl
set_option maxRecDepth 100000 in
theorem w540 : (Jvm.Cond.methodLink "java/util/Arrays" (300 : Nat) ({ cls := "java/util/Arrays", name := "copyOf", desc := "([Ljava/lang/Object;ILjava/lang/Class;)[Ljava/lang/Object;" } : Jvm.MethodName)) ∈ WS := ws_in (List.mem_of_getElem? (i := 540) rfl) rfl
set_option maxRecDepth 100000 in
theorem w541 : (Jvm.Cond.static ({ cls := "java/util/Arrays", name := "copyOf", desc := "([Ljava/lang/Object;ILjava/lang/Class;)[Ljava/lang/Object;" } : Jvm.MethodName)) ∈ WS := ws_in (List.mem_of_getElem? (i := 541) rfl) rfl
set_option maxRecDepth 100000 in
theorem w542 : (Jvm.Cond.code ({ cls := "java/util/Arrays", name := "copyOf", desc := "([Ljava/lang/Object;ILjava/lang/Class;)[Ljava/lang/Object;" } : Jvm.MethodName) prog_35_method_120_code (4 : Nat) (Option.some (Jvm.ClassFile.FieldType.array (Jvm.ClassFile.FieldType.object "java/lang/Object")))) ∈ WS := ws_in (List.mem_of_getElem? (i := 542) rfl) rfl
set_option maxRecDepth 100000 in
theorem w543 : (Jvm.Cond.classLink "java/util/Arrays" (110 : Nat) "[Ljava/lang/Object;") ∈ WS := ws_in (List.mem_of_getElem? (i := 543) rfl) rfl
set_option maxRecDepth 100000 in
theorem w545 : (Jvm.Cond.classLink "java/util/Arrays" (2 : Nat) "java/lang/Object") ∈ WS := ws_in (List.mem_of_getElem? (i := 545) rfl) rfl
set_option maxRecDepth 100000 in
theorem w546 : (Jvm.Cond.methodLink "java/util/ArrayList" (79 : Nat) ({ cls := "java/lang/Math", name := "max", desc := "(II)I" } : Jvm.MethodName)) ∈ WS := ws_in (List.mem_of_getElem? (i := 546) rfl) rfl
set_option maxRecDepth 100000 in
theorem w547 : (Jvm.Cond.classLink "java/util/ArrayList" (7 : Nat) "java/lang/Object") ∈ WS := ws_in (List.mem_of_getElem? (i := 547) rfl) rfl
set_option maxRecDepth 100000 in
theorem w548 : (Jvm.Cond.methodLink "java/util/ArrayList" (112 : Nat) ({ cls := "java/lang/System", name := "arraycopy", desc := "(Ljava/lang/Object;ILjava/lang/Object;II)V" } : Jvm.MethodName)) ∈ WS := ws_in (List.mem_of_getElem? (i := 548) rfl) rfl
set_option maxRecDepth 100000 in
theorem w549 : (Jvm.Cond.methodLink "RestrictedFunds" (202 : Nat) ({ cls := "RestrictedFunds$Plan", name := "begin", desc := "(II)V" } : Jvm.MethodName)) ∈ WS := ws_in (List.mem_of_getElem? (i := 549) rfl) rfl
set_option maxRecDepth 100000 in
theorem w550 : (Jvm.Cond.instanceMethod ({ cls := "RestrictedFunds$Plan", name := "begin", desc := "(II)V" } : Jvm.MethodName)) ∈ WS := ws_in (List.mem_of_getElem? (i := 550) rfl) rfl
set_option maxRecDepth 100000 in
theorem w551 : (Jvm.Cond.selects "RestrictedFunds$Plan" ({ cls := "RestrictedFunds$Plan", name := "begin", desc := "(II)V" } : Jvm.MethodName) ({ cls := "RestrictedFunds$Plan", name := "begin", desc := "(II)V" } : Jvm.MethodName)) ∈ WS := ws_in (List.mem_of_getElem? (i := 551) rfl) rfl
set_option maxRecDepth 100000 in
theorem w552 : (Jvm.Cond.code ({ cls := "RestrictedFunds$Plan", name := "begin", desc := "(II)V" } : Jvm.MethodName) prog_5_method_2_code (5 : Nat) (Option.none : Option Jvm.ClassFile.FieldType)) ∈ WS := ws_in (List.mem_of_getElem? (i := 552) rfl) rfl
set_option maxRecDepth 100000 in
theorem w553 : (Jvm.Cond.methodLink "RestrictedFunds$Plan" (41 : Nat) ({ cls := "java/lang/Math", name := "min", desc := "(II)I" } : Jvm.MethodName)) ∈ WS := ws_in (List.mem_of_getElem? (i := 553) rfl) rfl
set_option maxRecDepth 100000 in
theorem w554 : (Jvm.Cond.methodLink "RestrictedFunds$Plan" (47 : Nat) ({ cls := "java/lang/Math", name := "max", desc := "(II)I" } : Jvm.MethodName)) ∈ WS := ws_in (List.mem_of_getElem? (i := 554) rfl) rfl
set_option maxRecDepth 100000 in
theorem w555 : (Jvm.Cond.classLink "RestrictedFunds" (86 : Nat) "RestrictedFunds$Cost") ∈ WS := ws_in (List.mem_of_getElem? (i := 555) rfl) rfl
set_option maxRecDepth 100000 in
theorem w556 : (Jvm.Cond.methodLink "RestrictedFunds" (206 : Nat) ({ cls := "RestrictedFunds$Plan", name := "setCost", desc := "(II)V" } : Jvm.MethodName)) ∈ WS := ws_in (List.mem_of_getElem? (i := 556) rfl) rfl
set_option maxRecDepth 100000 in
theorem w557 : (Jvm.Cond.instanceMethod ({ cls := "RestrictedFunds$Plan", name := "setCost", desc := "(II)V" } : Jvm.MethodName)) ∈ WS := ws_in (List.mem_of_getElem? (i := 557) rfl) rfl
set_option maxRecDepth 100000 in
theorem w558 : (Jvm.Cond.selects "RestrictedFunds$Plan" ({ cls := "RestrictedFunds$Plan", name := "setCost", desc := "(II)V" } : Jvm.MethodName) ({ cls := "RestrictedFunds$Plan", name := "setCost", desc := "(II)V" } : Jvm.MethodName)) ∈ WS := ws_in (List.mem_of_getElem? (i := 558) rfl) rfl
set_option maxRecDepth 100000 in
theorem w559 : (Jvm.Cond.code ({ cls := "RestrictedFunds$Plan", name := "setCost", desc := "(II)V" } : Jvm.MethodName) prog_5_method_3_code (3 : Nat) (Option.none : Option Jvm.ClassFile.FieldType)) ∈ WS := ws_in (List.mem_of_getElem? (i := 559) rfl) rfl
set_option maxRecDepth 100000 in
theorem w560 : (Jvm.Cond.methodLink "RestrictedFunds$Plan" (57 : Nat) ({ cls := "RestrictedFunds$Plan", name := "isCost", desc := "(I)Z" } : Jvm.MethodName)) ∈ WS := ws_in (List.mem_of_getElem? (i := 560) rfl) rfl
set_option maxRecDepth 100000 in
theorem w562 : (Jvm.Cond.instanceMethod ({ cls := "RestrictedFunds$Plan", name := "isCost", desc := "(I)Z" } : Jvm.MethodName)) ∈ WS := ws_in (List.mem_of_getElem? (i := 562) rfl) rfl
set_option maxRecDepth 100000 in
theorem w563 : (Jvm.Cond.code ({ cls := "RestrictedFunds$Plan", name := "isCost", desc := "(I)Z" } : Jvm.MethodName) prog_5_method_22_code (2 : Nat) (Option.some Jvm.ClassFile.FieldType.boolean)) ∈ WS := ws_in (List.mem_of_getElem? (i := 563) rfl) rfl
set_option maxRecDepth 100000 in
theorem w564 : (Jvm.Cond.methodLink "RestrictedFunds" (209 : Nat) ({ cls := "RestrictedFunds", name := "costsThatMayBePaidBy", desc := "(LRestrictedFunds$Pot;)I" } : Jvm.MethodName)) ∈ WS := ws_in (List.mem_of_getElem? (i := 564) rfl) rfl
set_option maxRecDepth 100000 in
theorem w566 : (Jvm.Cond.instanceMethod ({ cls := "RestrictedFunds", name := "costsThatMayBePaidBy", desc := "(LRestrictedFunds$Pot;)I" } : Jvm.MethodName)) ∈ WS := ws_in (List.mem_of_getElem? (i := 566) rfl) rfl
set_option maxRecDepth 100000 in
theorem w567 : (Jvm.Cond.code ({ cls := "RestrictedFunds", name := "costsThatMayBePaidBy", desc := "(LRestrictedFunds$Pot;)I" } : Jvm.MethodName) prog_1_method_39_code (4 : Nat) (Option.some Jvm.ClassFile.FieldType.int)) ∈ WS := ws_in (List.mem_of_getElem? (i := 567) rfl) rfl
set_option maxRecDepth 100000 in
theorem w568 : (Jvm.Cond.methodLink "RestrictedFunds" (227 : Nat) ({ cls := "RestrictedFunds$Pot", name := "mayPay", desc := "(LRestrictedFunds$Cost;)Z" } : Jvm.MethodName)) ∈ WS := ws_in (List.mem_of_getElem? (i := 568) rfl) rfl
set_option maxRecDepth 100000 in
theorem w570 : (Jvm.Cond.sameMethod "RestrictedFunds$Pot" "RestrictedFunds$Pot" "mayPay" "(LRestrictedFunds$Cost;)Z") ∈ WS := ws_in (List.mem_of_getElem? (i := 570) rfl) rfl
set_option maxRecDepth 100000 in
theorem w571 : (Jvm.Cond.selects "RestrictedFunds$Commitment" ({ cls := "RestrictedFunds$Pot", name := "mayPay", desc := "(LRestrictedFunds$Cost;)Z" } : Jvm.MethodName) ({ cls := "RestrictedFunds$Commitment", name := "mayPay", desc := "(LRestrictedFunds$Cost;)Z" } : Jvm.MethodName)) ∈ WS := ws_in (List.mem_of_getElem? (i := 571) rfl) rfl
set_option maxRecDepth 100000 in
theorem w572 : (Jvm.Cond.instanceMethod ({ cls := "RestrictedFunds$Commitment", name := "mayPay", desc := "(LRestrictedFunds$Cost;)Z" } : Jvm.MethodName)) ∈ WS := ws_in (List.mem_of_getElem? (i := 572) rfl) rfl
set_option maxRecDepth 100000 in
theorem w573 : (Jvm.Cond.code ({ cls := "RestrictedFunds$Commitment", name := "mayPay", desc := "(LRestrictedFunds$Cost;)Z" } : Jvm.MethodName) prog_2_method_4_code (2 : Nat) (Option.some Jvm.ClassFile.FieldType.boolean)) ∈ WS := ws_in (List.mem_of_getElem? (i := 573) rfl) rfl
set_option maxRecDepth 100000 in
theorem w574 : (Jvm.Cond.methodLink "RestrictedFunds$Commitment" (23 : Nat) ({ cls := "RestrictedFunds$Fund", name := "suits", desc := "(LRestrictedFunds$Cost;)Z" } : Jvm.MethodName)) ∈ WS := ws_in (List.mem_of_getElem? (i := 574) rfl) rfl
set_option maxRecDepth 100000 in
theorem w575 : (Jvm.Cond.instanceMethod ({ cls := "RestrictedFunds$Fund", name := "suits", desc := "(LRestrictedFunds$Cost;)Z" } : Jvm.MethodName)) ∈ WS := ws_in (List.mem_of_getElem? (i := 575) rfl) rfl
set_option maxRecDepth 100000 in
theorem w576 : (Jvm.Cond.selects "RestrictedFunds$Fund" ({ cls := "RestrictedFunds$Fund", name := "suits", desc := "(LRestrictedFunds$Cost;)Z" } : Jvm.MethodName) ({ cls := "RestrictedFunds$Fund", name := "suits", desc := "(LRestrictedFunds$Cost;)Z" } : Jvm.MethodName)) ∈ WS := ws_in (List.mem_of_getElem? (i := 576) rfl) rfl
set_option maxRecDepth 100000 in
theorem w577 : (Jvm.Cond.code ({ cls := "RestrictedFunds$Fund", name := "suits", desc := "(LRestrictedFunds$Cost;)Z" } : Jvm.MethodName) prog_4_method_6_code (2 : Nat) (Option.some Jvm.ClassFile.FieldType.boolean)) ∈ WS := ws_in (List.mem_of_getElem? (i := 577) rfl) rfl
set_option maxRecDepth 100000 in
theorem w578 : (Jvm.Cond.methodLink "RestrictedFunds$Fund" (37 : Nat) ({ cls := "RestrictedFunds$Fund", name := "allows", desc := "(I)Z" } : Jvm.MethodName)) ∈ WS := ws_in (List.mem_of_getElem? (i := 578) rfl) rfl
set_option maxRecDepth 100000 in
theorem w579 : (Jvm.Cond.instanceMethod ({ cls := "RestrictedFunds$Fund", name := "allows", desc := "(I)Z" } : Jvm.MethodName)) ∈ WS := ws_in (List.mem_of_getElem? (i := 579) rfl) rfl
set_option maxRecDepth 100000 in
theorem w580 : (Jvm.Cond.selects "RestrictedFunds$Fund" ({ cls := "RestrictedFunds$Fund", name := "allows", desc := "(I)Z" } : Jvm.MethodName) ({ cls := "RestrictedFunds$Fund", name := "allows", desc := "(I)Z" } : Jvm.MethodName)) ∈ WS := ws_in (List.mem_of_getElem? (i := 580) rfl) rfl
set_option maxRecDepth 100000 in
theorem w581 : (Jvm.Cond.code ({ cls := "RestrictedFunds$Fund", name := "allows", desc := "(I)Z" } : Jvm.MethodName) prog_4_method_5_code (2 : Nat) (Option.some Jvm.ClassFile.FieldType.boolean)) ∈ WS := ws_in (List.mem_of_getElem? (i := 581) rfl) rfl
set_option maxRecDepth 100000 in
theorem w583 : (Jvm.Cond.static ({ cls := "RestrictedFunds", name := "has", desc := "(II)Z" } : Jvm.MethodName)) ∈ WS := ws_in (List.mem_of_getElem? (i := 583) rfl) rfl
set_option maxRecDepth 100000 in
theorem w584 : (Jvm.Cond.code ({ cls := "RestrictedFunds", name := "has", desc := "(II)Z" } : Jvm.MethodName) prog_1_method_49_code (2 : Nat) (Option.some Jvm.ClassFile.FieldType.boolean)) ∈ WS := ws_in (List.mem_of_getElem? (i := 584) rfl) rfl
set_option maxRecDepth 100000 in
theorem w585 : (Jvm.Cond.selects "RestrictedFunds$Fund" ({ cls := "RestrictedFunds$Pot", name := "mayPay", desc := "(LRestrictedFunds$Cost;)Z" } : Jvm.MethodName) ({ cls := "RestrictedFunds$Fund", name := "mayPay", desc := "(LRestrictedFunds$Cost;)Z" } : Jvm.MethodName)) ∈ WS := ws_in (List.mem_of_getElem? (i := 585) rfl) rfl
set_option maxRecDepth 100000 in
theorem w586 : (Jvm.Cond.instanceMethod ({ cls := "RestrictedFunds$Fund", name := "mayPay", desc := "(LRestrictedFunds$Cost;)Z" } : Jvm.MethodName)) ∈ WS := ws_in (List.mem_of_getElem? (i := 586) rfl) rfl
set_option maxRecDepth 100000 in
theorem w587 : (Jvm.Cond.code ({ cls := "RestrictedFunds$Fund", name := "mayPay", desc := "(LRestrictedFunds$Cost;)Z" } : Jvm.MethodName) prog_4_method_4_code (2 : Nat) (Option.some Jvm.ClassFile.FieldType.boolean)) ∈ WS := ws_in (List.mem_of_getElem? (i := 587) rfl) rfl
set_option maxRecDepth 100000 in
theorem w588 : (Jvm.Cond.methodLink "RestrictedFunds$Fund" (24 : Nat) ({ cls := "RestrictedFunds$Fund", name := "suits", desc := "(LRestrictedFunds$Cost;)Z" } : Jvm.MethodName)) ∈ WS := ws_in (List.mem_of_getElem? (i := 588) rfl) rfl
set_option maxRecDepth 100000 in
theorem w589 : (Jvm.Cond.methodLink "RestrictedFunds" (213 : Nat) ({ cls := "RestrictedFunds$Plan", name := "setPot", desc := "(III)V" } : Jvm.MethodName)) ∈ WS := ws_in (List.mem_of_getElem? (i := 589) rfl) rfl
set_option maxRecDepth 100000 in
theorem w590 : (Jvm.Cond.instanceMethod ({ cls := "RestrictedFunds$Plan", name := "setPot", desc := "(III)V" } : Jvm.MethodName)) ∈ WS := ws_in (List.mem_of_getElem? (i := 590) rfl) rfl
set_option maxRecDepth 100000 in
theorem w591 : (Jvm.Cond.selects "RestrictedFunds$Plan" ({ cls := "RestrictedFunds$Plan", name := "setPot", desc := "(III)V" } : Jvm.MethodName) ({ cls := "RestrictedFunds$Plan", name := "setPot", desc := "(III)V" } : Jvm.MethodName)) ∈ WS := ws_in (List.mem_of_getElem? (i := 591) rfl) rfl
set_option maxRecDepth 100000 in
theorem w592 : (Jvm.Cond.code ({ cls := "RestrictedFunds$Plan", name := "setPot", desc := "(III)V" } : Jvm.MethodName) prog_5_method_4_code (4 : Nat) (Option.none : Option Jvm.ClassFile.FieldType)) ∈ WS := ws_in (List.mem_of_getElem? (i := 592) rfl) rfl
set_option maxRecDepth 100000 in
theorem w593 : (Jvm.Cond.methodLink "RestrictedFunds$Plan" (61 : Nat) ({ cls := "RestrictedFunds$Plan", name := "isPot", desc := "(I)Z" } : Jvm.MethodName)) ∈ WS := ws_in (List.mem_of_getElem? (i := 593) rfl) rfl
set_option maxRecDepth 100000 in
theorem w595 : (Jvm.Cond.instanceMethod ({ cls := "RestrictedFunds$Plan", name := "isPot", desc := "(I)Z" } : Jvm.MethodName)) ∈ WS := ws_in (List.mem_of_getElem? (i := 595) rfl) rfl
set_option maxRecDepth 100000 in
theorem w596 : (Jvm.Cond.code ({ cls := "RestrictedFunds$Plan", name := "isPot", desc := "(I)Z" } : Jvm.MethodName) prog_5_method_21_code (2 : Nat) (Option.some Jvm.ClassFile.FieldType.boolean)) ∈ WS := ws_in (List.mem_of_getElem? (i := 596) rfl) rfl
set_option maxRecDepth 100000 in
theorem w597 : (Jvm.Cond.methodLink "RestrictedFunds" (93 : Nat) ({ cls := "RestrictedFunds$Plan", name := "payCosts", desc := "()V" } : Jvm.MethodName)) ∈ WS := ws_in (List.mem_of_getElem? (i := 597) rfl) rfl
set_option maxRecDepth 100000 in
theorem w598 : (Jvm.Cond.instanceMethod ({ cls := "RestrictedFunds$Plan", name := "payCosts", desc := "()V" } : Jvm.MethodName)) ∈ WS := ws_in (List.mem_of_getElem? (i := 598) rfl) rfl
set_option maxRecDepth 100000 in
theorem w599 : (Jvm.Cond.selects "RestrictedFunds$Plan" ({ cls := "RestrictedFunds$Plan", name := "payCosts", desc := "()V" } : Jvm.MethodName) ({ cls := "RestrictedFunds$Plan", name := "payCosts", desc := "()V" } : Jvm.MethodName)) ∈ WS := ws_in (List.mem_of_getElem? (i := 599) rfl) rfl
set_option maxRecDepth 100000 in
theorem w600 : (Jvm.Cond.code ({ cls := "RestrictedFunds$Plan", name := "payCosts", desc := "()V" } : Jvm.MethodName) prog_5_method_9_code (4 : Nat) (Option.none : Option Jvm.ClassFile.FieldType)) ∈ WS := ws_in (List.mem_of_getElem? (i := 600) rfl) rfl
set_option maxRecDepth 100000 in
theorem w601 : (Jvm.Cond.constant "RestrictedFunds$Plan" (64 : Nat) (1000000 : Int32)) ∈ WS := ws_in (List.mem_of_getElem? (i := 601) rfl) rfl
set_option maxRecDepth 100000 in
theorem w602 : (Jvm.Cond.methodLink "RestrictedFunds$Plan" (65 : Nat) ({ cls := "RestrictedFunds$Plan", name := "payMoreOf", desc := "(I)Z" } : Jvm.MethodName)) ∈ WS := ws_in (List.mem_of_getElem? (i := 602) rfl) rfl
set_option maxRecDepth 100000 in
theorem w604 : (Jvm.Cond.instanceMethod ({ cls := "RestrictedFunds$Plan", name := "payMoreOf", desc := "(I)Z" } : Jvm.MethodName)) ∈ WS := ws_in (List.mem_of_getElem? (i := 604) rfl) rfl
set_option maxRecDepth 100000 in
theorem w605 : (Jvm.Cond.code ({ cls := "RestrictedFunds$Plan", name := "payMoreOf", desc := "(I)Z" } : Jvm.MethodName) prog_5_method_12_code (5 : Nat) (Option.some Jvm.ClassFile.FieldType.boolean)) ∈ WS := ws_in (List.mem_of_getElem? (i := 605) rfl) rfl
set_option maxRecDepth 100000 in
theorem w606 : (Jvm.Cond.methodLink "RestrictedFunds$Plan" (78 : Nat) ({ cls := "RestrictedFunds$Plan", name := "leftOfCost", desc := "(I)I" } : Jvm.MethodName)) ∈ WS := ws_in (List.mem_of_getElem? (i := 606) rfl) rfl
set_option maxRecDepth 100000 in
theorem w607 : (Jvm.Cond.instanceMethod ({ cls := "RestrictedFunds$Plan", name := "leftOfCost", desc := "(I)I" } : Jvm.MethodName)) ∈ WS := ws_in (List.mem_of_getElem? (i := 607) rfl) rfl
set_option maxRecDepth 100000 in
theorem w608 : (Jvm.Cond.selects "RestrictedFunds$Plan" ({ cls := "RestrictedFunds$Plan", name := "leftOfCost", desc := "(I)I" } : Jvm.MethodName) ({ cls := "RestrictedFunds$Plan", name := "leftOfCost", desc := "(I)I" } : Jvm.MethodName)) ∈ WS := ws_in (List.mem_of_getElem? (i := 608) rfl) rfl
set_option maxRecDepth 100000 in
theorem w609 : (Jvm.Cond.code ({ cls := "RestrictedFunds$Plan", name := "leftOfCost", desc := "(I)I" } : Jvm.MethodName) prog_5_method_5_code (2 : Nat) (Option.some Jvm.ClassFile.FieldType.int)) ∈ WS := ws_in (List.mem_of_getElem? (i := 609) rfl) rfl
set_option maxRecDepth 100000 in
theorem w610 : (Jvm.Cond.methodLink "RestrictedFunds$Plan" (82 : Nat) ({ cls := "RestrictedFunds$Plan", name := "potsWithMoney", desc := "()I" } : Jvm.MethodName)) ∈ WS := ws_in (List.mem_of_getElem? (i := 610) rfl) rfl
set_option maxRecDepth 100000 in
theorem w612 : (Jvm.Cond.instanceMethod ({ cls := "RestrictedFunds$Plan", name := "potsWithMoney", desc := "()I" } : Jvm.MethodName)) ∈ WS := ws_in (List.mem_of_getElem? (i := 612) rfl) rfl
set_option maxRecDepth 100000 in
theorem w613 : (Jvm.Cond.code ({ cls := "RestrictedFunds$Plan", name := "potsWithMoney", desc := "()I" } : Jvm.MethodName) prog_5_method_26_code (3 : Nat) (Option.some Jvm.ClassFile.FieldType.int)) ∈ WS := ws_in (List.mem_of_getElem? (i := 613) rfl) rfl
set_option maxRecDepth 100000 in
theorem w614 : (Jvm.Cond.methodLink "RestrictedFunds$Plan" (86 : Nat) ({ cls := "RestrictedFunds$Plan", name := "potsWith", desc := "([II)I" } : Jvm.MethodName)) ∈ WS := ws_in (List.mem_of_getElem? (i := 614) rfl) rfl
set_option maxRecDepth 100000 in
theorem w616 : (Jvm.Cond.instanceMethod ({ cls := "RestrictedFunds$Plan", name := "potsWith", desc := "([II)I" } : Jvm.MethodName)) ∈ WS := ws_in (List.mem_of_getElem? (i := 616) rfl) rfl
set_option maxRecDepth 100000 in
theorem w617 : (Jvm.Cond.code ({ cls := "RestrictedFunds$Plan", name := "potsWith", desc := "([II)I" } : Jvm.MethodName) prog_5_method_27_code (5 : Nat) (Option.some Jvm.ClassFile.FieldType.int)) ∈ WS := ws_in (List.mem_of_getElem? (i := 617) rfl) rfl
set_option maxRecDepth 100000 in
theorem w619 : (Jvm.Cond.methodLink "RestrictedFunds$Plan" (90 : Nat) ({ cls := "RestrictedFunds$Plan", name := "findChain", desc := "(III)I" } : Jvm.MethodName)) ∈ WS := ws_in (List.mem_of_getElem? (i := 619) rfl) rfl
set_option maxRecDepth 100000 in
theorem w621 : (Jvm.Cond.instanceMethod ({ cls := "RestrictedFunds$Plan", name := "findChain", desc := "(III)I" } : Jvm.MethodName)) ∈ WS := ws_in (List.mem_of_getElem? (i := 621) rfl) rfl
set_option maxRecDepth 100000 in
theorem w622 : (Jvm.Cond.code ({ cls := "RestrictedFunds$Plan", name := "findChain", desc := "(III)I" } : Jvm.MethodName) prog_5_method_15_code (10 : Nat) (Option.some Jvm.ClassFile.FieldType.int)) ∈ WS := ws_in (List.mem_of_getElem? (i := 622) rfl) rfl
set_option maxRecDepth 100000 in
theorem w623 : (Jvm.Cond.methodLink "RestrictedFunds$Plan" (123 : Nat) ({ cls := "RestrictedFunds$Plan", name := "costBetween", desc := "(III)I" } : Jvm.MethodName)) ∈ WS := ws_in (List.mem_of_getElem? (i := 623) rfl) rfl
set_option maxRecDepth 100000 in
theorem w625 : (Jvm.Cond.instanceMethod ({ cls := "RestrictedFunds$Plan", name := "costBetween", desc := "(III)I" } : Jvm.MethodName)) ∈ WS := ws_in (List.mem_of_getElem? (i := 625) rfl) rfl
set_option maxRecDepth 100000 in
theorem w626 : (Jvm.Cond.code ({ cls := "RestrictedFunds$Plan", name := "costBetween", desc := "(III)I" } : Jvm.MethodName) prog_5_method_16_code (6 : Nat) (Option.some Jvm.ClassFile.FieldType.int)) ∈ WS := ws_in (List.mem_of_getElem? (i := 626) rfl) rfl
set_option maxRecDepth 100000 in
theorem w627 : (Jvm.Cond.methodLink "RestrictedFunds$Plan" (94 : Nat) ({ cls := "RestrictedFunds$Plan", name := "firstOfChain", desc := "(I)I" } : Jvm.MethodName)) ∈ WS := ws_in (List.mem_of_getElem? (i := 627) rfl) rfl
set_option maxRecDepth 100000 in
theorem w629 : (Jvm.Cond.instanceMethod ({ cls := "RestrictedFunds$Plan", name := "firstOfChain", desc := "(I)I" } : Jvm.MethodName)) ∈ WS := ws_in (List.mem_of_getElem? (i := 629) rfl) rfl
set_option maxRecDepth 100000 in
theorem w630 : (Jvm.Cond.code ({ cls := "RestrictedFunds$Plan", name := "firstOfChain", desc := "(I)I" } : Jvm.MethodName) prog_5_method_18_code (4 : Nat) (Option.some Jvm.ClassFile.FieldType.int)) ∈ WS := ws_in (List.mem_of_getElem? (i := 630) rfl) rfl
set_option maxRecDepth 100000 in
theorem w631 : (Jvm.Cond.methodLink "RestrictedFunds$Plan" (126 : Nat) ({ cls := "RestrictedFunds$Plan", name := "hasAhead", desc := "(I)Z" } : Jvm.MethodName)) ∈ WS := ws_in (List.mem_of_getElem? (i := 631) rfl) rfl
set_option maxRecDepth 100000 in
theorem w633 : (Jvm.Cond.instanceMethod ({ cls := "RestrictedFunds$Plan", name := "hasAhead", desc := "(I)Z" } : Jvm.MethodName)) ∈ WS := ws_in (List.mem_of_getElem? (i := 633) rfl) rfl
set_option maxRecDepth 100000 in
theorem w634 : (Jvm.Cond.code ({ cls := "RestrictedFunds$Plan", name := "hasAhead", desc := "(I)Z" } : Jvm.MethodName) prog_5_method_17_code (2 : Nat) (Option.some Jvm.ClassFile.FieldType.boolean)) ∈ WS := ws_in (List.mem_of_getElem? (i := 634) rfl) rfl
set_option maxRecDepth 100000 in
theorem w635 : (Jvm.Cond.methodLink "RestrictedFunds$Plan" (97 : Nat) ({ cls := "RestrictedFunds$Plan", name := "leftOfPot", desc := "(I)I" } : Jvm.MethodName)) ∈ WS := ws_in (List.mem_of_getElem? (i := 635) rfl) rfl
set_option maxRecDepth 100000 in
theorem w636 : (Jvm.Cond.instanceMethod ({ cls := "RestrictedFunds$Plan", name := "leftOfPot", desc := "(I)I" } : Jvm.MethodName)) ∈ WS := ws_in (List.mem_of_getElem? (i := 636) rfl) rfl
set_option maxRecDepth 100000 in
theorem w637 : (Jvm.Cond.selects "RestrictedFunds$Plan" ({ cls := "RestrictedFunds$Plan", name := "leftOfPot", desc := "(I)I" } : Jvm.MethodName) ({ cls := "RestrictedFunds$Plan", name := "leftOfPot", desc := "(I)I" } : Jvm.MethodName)) ∈ WS := ws_in (List.mem_of_getElem? (i := 637) rfl) rfl
set_option maxRecDepth 100000 in
theorem w638 : (Jvm.Cond.code ({ cls := "RestrictedFunds$Plan", name := "leftOfPot", desc := "(I)I" } : Jvm.MethodName) prog_5_method_6_code (2 : Nat) (Option.some Jvm.ClassFile.FieldType.int)) ∈ WS := ws_in (List.mem_of_getElem? (i := 638) rfl) rfl
set_option maxRecDepth 100000 in
theorem w639 : (Jvm.Cond.methodLink "RestrictedFunds$Plan" (100 : Nat) ({ cls := "RestrictedFunds$Plan", name := "narrowest", desc := "(II)I" } : Jvm.MethodName)) ∈ WS := ws_in (List.mem_of_getElem? (i := 639) rfl) rfl
set_option maxRecDepth 100000 in
theorem w641 : (Jvm.Cond.instanceMethod ({ cls := "RestrictedFunds$Plan", name := "narrowest", desc := "(II)I" } : Jvm.MethodName)) ∈ WS := ws_in (List.mem_of_getElem? (i := 641) rfl) rfl
set_option maxRecDepth 100000 in
theorem w642 : (Jvm.Cond.code ({ cls := "RestrictedFunds$Plan", name := "narrowest", desc := "(II)I" } : Jvm.MethodName) prog_5_method_19_code (6 : Nat) (Option.some Jvm.ClassFile.FieldType.int)) ∈ WS := ws_in (List.mem_of_getElem? (i := 642) rfl) rfl
set_option maxRecDepth 100000 in
theorem w643 : (Jvm.Cond.methodLink "RestrictedFunds$Plan" (120 : Nat) ({ cls := "RestrictedFunds$Plan", name := "share", desc := "(II)I" } : Jvm.MethodName)) ∈ WS := ws_in (List.mem_of_getElem? (i := 643) rfl) rfl
set_option maxRecDepth 100000 in
theorem w644 : (Jvm.Cond.instanceMethod ({ cls := "RestrictedFunds$Plan", name := "share", desc := "(II)I" } : Jvm.MethodName)) ∈ WS := ws_in (List.mem_of_getElem? (i := 644) rfl) rfl
set_option maxRecDepth 100000 in
theorem w645 : (Jvm.Cond.selects "RestrictedFunds$Plan" ({ cls := "RestrictedFunds$Plan", name := "share", desc := "(II)I" } : Jvm.MethodName) ({ cls := "RestrictedFunds$Plan", name := "share", desc := "(II)I" } : Jvm.MethodName)) ∈ WS := ws_in (List.mem_of_getElem? (i := 645) rfl) rfl
set_option maxRecDepth 100000 in
theorem w646 : (Jvm.Cond.code ({ cls := "RestrictedFunds$Plan", name := "share", desc := "(II)I" } : Jvm.MethodName) prog_5_method_7_code (3 : Nat) (Option.some Jvm.ClassFile.FieldType.int)) ∈ WS := ws_in (List.mem_of_getElem? (i := 646) rfl) rfl
set_option maxRecDepth 100000 in
theorem w647 : (Jvm.Cond.methodLink "RestrictedFunds$Plan" (103 : Nat) ({ cls := "RestrictedFunds$Plan", name := "shiftAlongChain", desc := "(II)V" } : Jvm.MethodName)) ∈ WS := ws_in (List.mem_of_getElem? (i := 647) rfl) rfl
set_option maxRecDepth 100000 in
theorem w649 : (Jvm.Cond.instanceMethod ({ cls := "RestrictedFunds$Plan", name := "shiftAlongChain", desc := "(II)V" } : Jvm.MethodName)) ∈ WS := ws_in (List.mem_of_getElem? (i := 649) rfl) rfl
set_option maxRecDepth 100000 in
theorem w650 : (Jvm.Cond.code ({ cls := "RestrictedFunds$Plan", name := "shiftAlongChain", desc := "(II)V" } : Jvm.MethodName) prog_5_method_20_code (5 : Nat) (Option.none : Option Jvm.ClassFile.FieldType)) ∈ WS := ws_in (List.mem_of_getElem? (i := 650) rfl) rfl
set_option maxRecDepth 100000 in
theorem w651 : (Jvm.Cond.methodLink "RestrictedFunds$Plan" (107 : Nat) ({ cls := "RestrictedFunds$Plan", name := "addShare", desc := "(III)V" } : Jvm.MethodName)) ∈ WS := ws_in (List.mem_of_getElem? (i := 651) rfl) rfl
set_option maxRecDepth 100000 in
theorem w653 : (Jvm.Cond.instanceMethod ({ cls := "RestrictedFunds$Plan", name := "addShare", desc := "(III)V" } : Jvm.MethodName)) ∈ WS := ws_in (List.mem_of_getElem? (i := 653) rfl) rfl
set_option maxRecDepth 100000 in
theorem w654 : (Jvm.Cond.code ({ cls := "RestrictedFunds$Plan", name := "addShare", desc := "(III)V" } : Jvm.MethodName) prog_5_method_23_code (5 : Nat) (Option.none : Option Jvm.ClassFile.FieldType)) ∈ WS := ws_in (List.mem_of_getElem? (i := 654) rfl) rfl
set_option maxRecDepth 100000 in
theorem w655 : (Jvm.Cond.methodLink "RestrictedFunds$Plan" (111 : Nat) ({ cls := "RestrictedFunds$Plan", name := "addToPot", desc := "(II)V" } : Jvm.MethodName)) ∈ WS := ws_in (List.mem_of_getElem? (i := 655) rfl) rfl
set_option maxRecDepth 100000 in
theorem w657 : (Jvm.Cond.instanceMethod ({ cls := "RestrictedFunds$Plan", name := "addToPot", desc := "(II)V" } : Jvm.MethodName)) ∈ WS := ws_in (List.mem_of_getElem? (i := 657) rfl) rfl
set_option maxRecDepth 100000 in
theorem w658 : (Jvm.Cond.code ({ cls := "RestrictedFunds$Plan", name := "addToPot", desc := "(II)V" } : Jvm.MethodName) prog_5_method_24_code (3 : Nat) (Option.none : Option Jvm.ClassFile.FieldType)) ∈ WS := ws_in (List.mem_of_getElem? (i := 658) rfl) rfl
set_option maxRecDepth 100000 in
theorem w659 : (Jvm.Cond.methodLink "RestrictedFunds$Plan" (114 : Nat) ({ cls := "RestrictedFunds$Plan", name := "planCost", desc := "(II)V" } : Jvm.MethodName)) ∈ WS := ws_in (List.mem_of_getElem? (i := 659) rfl) rfl
set_option maxRecDepth 100000 in
theorem w661 : (Jvm.Cond.instanceMethod ({ cls := "RestrictedFunds$Plan", name := "planCost", desc := "(II)V" } : Jvm.MethodName)) ∈ WS := ws_in (List.mem_of_getElem? (i := 661) rfl) rfl
set_option maxRecDepth 100000 in
theorem w662 : (Jvm.Cond.code ({ cls := "RestrictedFunds$Plan", name := "planCost", desc := "(II)V" } : Jvm.MethodName) prog_5_method_25_code (3 : Nat) (Option.none : Option Jvm.ClassFile.FieldType)) ∈ WS := ws_in (List.mem_of_getElem? (i := 662) rfl) rfl
set_option maxRecDepth 100000 in
theorem w663 : (Jvm.Cond.methodLink "RestrictedFunds" (96 : Nat) ({ cls := "RestrictedFunds$Plan", name := "drawOnPots", desc := "()V" } : Jvm.MethodName)) ∈ WS := ws_in (List.mem_of_getElem? (i := 663) rfl) rfl
set_option maxRecDepth 100000 in
theorem w664 : (Jvm.Cond.instanceMethod ({ cls := "RestrictedFunds$Plan", name := "drawOnPots", desc := "()V" } : Jvm.MethodName)) ∈ WS := ws_in (List.mem_of_getElem? (i := 664) rfl) rfl
set_option maxRecDepth 100000 in
theorem w665 : (Jvm.Cond.selects "RestrictedFunds$Plan" ({ cls := "RestrictedFunds$Plan", name := "drawOnPots", desc := "()V" } : Jvm.MethodName) ({ cls := "RestrictedFunds$Plan", name := "drawOnPots", desc := "()V" } : Jvm.MethodName)) ∈ WS := ws_in (List.mem_of_getElem? (i := 665) rfl) rfl
set_option maxRecDepth 100000 in
theorem w666 : (Jvm.Cond.code ({ cls := "RestrictedFunds$Plan", name := "drawOnPots", desc := "()V" } : Jvm.MethodName) prog_5_method_10_code (4 : Nat) (Option.none : Option Jvm.ClassFile.FieldType)) ∈ WS := ws_in (List.mem_of_getElem? (i := 666) rfl) rfl
set_option maxRecDepth 100000 in
theorem w667 : (Jvm.Cond.methodLink "RestrictedFunds$Plan" (68 : Nat) ({ cls := "RestrictedFunds$Plan", name := "drawMoreOn", desc := "(I)Z" } : Jvm.MethodName)) ∈ WS := ws_in (List.mem_of_getElem? (i := 667) rfl) rfl
set_option maxRecDepth 100000 in
theorem w669 : (Jvm.Cond.instanceMethod ({ cls := "RestrictedFunds$Plan", name := "drawMoreOn", desc := "(I)Z" } : Jvm.MethodName)) ∈ WS := ws_in (List.mem_of_getElem? (i := 669) rfl) rfl
set_option maxRecDepth 100000 in
theorem w670 : (Jvm.Cond.code ({ cls := "RestrictedFunds$Plan", name := "drawMoreOn", desc := "(I)Z" } : Jvm.MethodName) prog_5_method_13_code (4 : Nat) (Option.some Jvm.ClassFile.FieldType.boolean)) ∈ WS := ws_in (List.mem_of_getElem? (i := 670) rfl) rfl
set_option maxRecDepth 100000 in
theorem w671 : (Jvm.Cond.methodLink "RestrictedFunds$Plan" (117 : Nat) ({ cls := "RestrictedFunds$Plan", name := "potsAfter", desc := "(I)I" } : Jvm.MethodName)) ∈ WS := ws_in (List.mem_of_getElem? (i := 671) rfl) rfl
set_option maxRecDepth 100000 in
theorem w673 : (Jvm.Cond.instanceMethod ({ cls := "RestrictedFunds$Plan", name := "potsAfter", desc := "(I)I" } : Jvm.MethodName)) ∈ WS := ws_in (List.mem_of_getElem? (i := 673) rfl) rfl
set_option maxRecDepth 100000 in
theorem w674 : (Jvm.Cond.code ({ cls := "RestrictedFunds$Plan", name := "potsAfter", desc := "(I)I" } : Jvm.MethodName) prog_5_method_28_code (2 : Nat) (Option.some Jvm.ClassFile.FieldType.int)) ∈ WS := ws_in (List.mem_of_getElem? (i := 674) rfl) rfl
set_option maxRecDepth 100000 in
theorem w675 : (Jvm.Cond.methodLink "RestrictedFunds" (99 : Nat) ({ cls := "RestrictedFunds$Plan", name := "spreadCosts", desc := "()V" } : Jvm.MethodName)) ∈ WS := ws_in (List.mem_of_getElem? (i := 675) rfl) rfl
set_option maxRecDepth 100000 in
theorem w676 : (Jvm.Cond.instanceMethod ({ cls := "RestrictedFunds$Plan", name := "spreadCosts", desc := "()V" } : Jvm.MethodName)) ∈ WS := ws_in (List.mem_of_getElem? (i := 676) rfl) rfl
set_option maxRecDepth 100000 in
theorem w677 : (Jvm.Cond.selects "RestrictedFunds$Plan" ({ cls := "RestrictedFunds$Plan", name := "spreadCosts", desc := "()V" } : Jvm.MethodName) ({ cls := "RestrictedFunds$Plan", name := "spreadCosts", desc := "()V" } : Jvm.MethodName)) ∈ WS := ws_in (List.mem_of_getElem? (i := 677) rfl) rfl
set_option maxRecDepth 100000 in
theorem w678 : (Jvm.Cond.code ({ cls := "RestrictedFunds$Plan", name := "spreadCosts", desc := "()V" } : Jvm.MethodName) prog_5_method_11_code (5 : Nat) (Option.none : Option Jvm.ClassFile.FieldType)) ∈ WS := ws_in (List.mem_of_getElem? (i := 678) rfl) rfl
set_option maxRecDepth 100000 in
theorem w679 : (Jvm.Cond.methodLink "RestrictedFunds$Plan" (75 : Nat) ({ cls := "RestrictedFunds$Plan", name := "payMoreFrom", desc := "(II)Z" } : Jvm.MethodName)) ∈ WS := ws_in (List.mem_of_getElem? (i := 679) rfl) rfl
set_option maxRecDepth 100000 in
theorem w681 : (Jvm.Cond.instanceMethod ({ cls := "RestrictedFunds$Plan", name := "payMoreFrom", desc := "(II)Z" } : Jvm.MethodName)) ∈ WS := ws_in (List.mem_of_getElem? (i := 681) rfl) rfl
set_option maxRecDepth 100000 in
theorem w682 : (Jvm.Cond.code ({ cls := "RestrictedFunds$Plan", name := "payMoreFrom", desc := "(II)Z" } : Jvm.MethodName) prog_5_method_14_code (6 : Nat) (Option.some Jvm.ClassFile.FieldType.boolean)) ∈ WS := ws_in (List.mem_of_getElem? (i := 682) rfl) rfl
set_option maxRecDepth 100000 in
theorem w683 : (Jvm.Cond.methodLink "RestrictedFunds" (102 : Nat) ({ cls := "RestrictedFunds$Plan", name := "paidInAll", desc := "()I" } : Jvm.MethodName)) ∈ WS := ws_in (List.mem_of_getElem? (i := 683) rfl) rfl
set_option maxRecDepth 100000 in
theorem w684 : (Jvm.Cond.instanceMethod ({ cls := "RestrictedFunds$Plan", name := "paidInAll", desc := "()I" } : Jvm.MethodName)) ∈ WS := ws_in (List.mem_of_getElem? (i := 684) rfl) rfl
set_option maxRecDepth 100000 in
theorem w685 : (Jvm.Cond.selects "RestrictedFunds$Plan" ({ cls := "RestrictedFunds$Plan", name := "paidInAll", desc := "()I" } : Jvm.MethodName) ({ cls := "RestrictedFunds$Plan", name := "paidInAll", desc := "()I" } : Jvm.MethodName)) ∈ WS := ws_in (List.mem_of_getElem? (i := 685) rfl) rfl
set_option maxRecDepth 100000 in
theorem w686 : (Jvm.Cond.code ({ cls := "RestrictedFunds$Plan", name := "paidInAll", desc := "()I" } : Jvm.MethodName) prog_5_method_8_code (3 : Nat) (Option.some Jvm.ClassFile.FieldType.int)) ∈ WS := ws_in (List.mem_of_getElem? (i := 686) rfl) rfl
set_option maxRecDepth 100000 in
theorem w687 : (Jvm.Cond.methodLink "RestrictedFunds" (105 : Nat) ({ cls := "RestrictedFunds", name := "bookPlan", desc := "()V" } : Jvm.MethodName)) ∈ WS := ws_in (List.mem_of_getElem? (i := 687) rfl) rfl
set_option maxRecDepth 100000 in
theorem w689 : (Jvm.Cond.instanceMethod ({ cls := "RestrictedFunds", name := "bookPlan", desc := "()V" } : Jvm.MethodName)) ∈ WS := ws_in (List.mem_of_getElem? (i := 689) rfl) rfl
set_option maxRecDepth 100000 in
theorem w690 : (Jvm.Cond.code ({ cls := "RestrictedFunds", name := "bookPlan", desc := "()V" } : Jvm.MethodName) prog_1_method_40_code (3 : Nat) (Option.none : Option Jvm.ClassFile.FieldType)) ∈ WS := ws_in (List.mem_of_getElem? (i := 690) rfl) rfl
set_option maxRecDepth 100000 in
theorem w691 : (Jvm.Cond.methodLink "RestrictedFunds" (230 : Nat) ({ cls := "RestrictedFunds$Plan", name := "share", desc := "(II)I" } : Jvm.MethodName)) ∈ WS := ws_in (List.mem_of_getElem? (i := 691) rfl) rfl
set_option maxRecDepth 100000 in
theorem w692 : (Jvm.Cond.methodLink "RestrictedFunds" (234 : Nat) ({ cls := "RestrictedFunds", name := "book", desc := "(LRestrictedFunds$Pot;LRestrictedFunds$Cost;I)V" } : Jvm.MethodName)) ∈ WS := ws_in (List.mem_of_getElem? (i := 692) rfl) rfl
set_option maxRecDepth 100000 in
theorem w693 : (Jvm.Cond.static ({ cls := "RestrictedFunds", name := "book", desc := "(LRestrictedFunds$Pot;LRestrictedFunds$Cost;I)V" } : Jvm.MethodName)) ∈ WS := ws_in (List.mem_of_getElem? (i := 693) rfl) rfl
set_option maxRecDepth 100000 in
theorem w694 : (Jvm.Cond.code ({ cls := "RestrictedFunds", name := "book", desc := "(LRestrictedFunds$Pot;LRestrictedFunds$Cost;I)V" } : Jvm.MethodName) prog_1_method_41_code (3 : Nat) (Option.none : Option Jvm.ClassFile.FieldType)) ∈ WS := ws_in (List.mem_of_getElem? (i := 694) rfl) rfl
set_option maxRecDepth 100000 in
theorem w695 : (Jvm.Cond.methodLink "RestrictedFunds" (157 : Nat) ({ cls := "RestrictedFunds$Pot", name := "owner", desc := "()LRestrictedFunds$Fund;" } : Jvm.MethodName)) ∈ WS := ws_in (List.mem_of_getElem? (i := 695) rfl) rfl
set_option maxRecDepth 100000 in
theorem w697 : (Jvm.Cond.sameMethod "RestrictedFunds$Pot" "RestrictedFunds$Pot" "owner" "()LRestrictedFunds$Fund;") ∈ WS := ws_in (List.mem_of_getElem? (i := 697) rfl) rfl
set_option maxRecDepth 100000 in
theorem w698 : (Jvm.Cond.selects "RestrictedFunds$Commitment" ({ cls := "RestrictedFunds$Pot", name := "owner", desc := "()LRestrictedFunds$Fund;" } : Jvm.MethodName) ({ cls := "RestrictedFunds$Commitment", name := "owner", desc := "()LRestrictedFunds$Fund;" } : Jvm.MethodName)) ∈ WS := ws_in (List.mem_of_getElem? (i := 698) rfl) rfl
set_option maxRecDepth 100000 in
theorem w699 : (Jvm.Cond.instanceMethod ({ cls := "RestrictedFunds$Commitment", name := "owner", desc := "()LRestrictedFunds$Fund;" } : Jvm.MethodName)) ∈ WS := ws_in (List.mem_of_getElem? (i := 699) rfl) rfl
set_option maxRecDepth 100000 in
theorem w700 : (Jvm.Cond.code ({ cls := "RestrictedFunds$Commitment", name := "owner", desc := "()LRestrictedFunds$Fund;" } : Jvm.MethodName) prog_2_method_2_code (1 : Nat) (Option.some (Jvm.ClassFile.FieldType.object "RestrictedFunds$Fund"))) ∈ WS := ws_in (List.mem_of_getElem? (i := 700) rfl) rfl
set_option maxRecDepth 100000 in
theorem w701 : (Jvm.Cond.selects "RestrictedFunds$Fund" ({ cls := "RestrictedFunds$Pot", name := "owner", desc := "()LRestrictedFunds$Fund;" } : Jvm.MethodName) ({ cls := "RestrictedFunds$Fund", name := "owner", desc := "()LRestrictedFunds$Fund;" } : Jvm.MethodName)) ∈ WS := ws_in (List.mem_of_getElem? (i := 701) rfl) rfl
set_option maxRecDepth 100000 in
theorem w702 : (Jvm.Cond.instanceMethod ({ cls := "RestrictedFunds$Fund", name := "owner", desc := "()LRestrictedFunds$Fund;" } : Jvm.MethodName)) ∈ WS := ws_in (List.mem_of_getElem? (i := 702) rfl) rfl
set_option maxRecDepth 100000 in
theorem w703 : (Jvm.Cond.code ({ cls := "RestrictedFunds$Fund", name := "owner", desc := "()LRestrictedFunds$Fund;" } : Jvm.MethodName) prog_4_method_2_code (1 : Nat) (Option.some (Jvm.ClassFile.FieldType.object "RestrictedFunds$Fund"))) ∈ WS := ws_in (List.mem_of_getElem? (i := 703) rfl) rfl
set_option maxRecDepth 100000 in
theorem w704 : (Jvm.Cond.methodLink "RestrictedFunds" (238 : Nat) ({ cls := "RestrictedFunds$Cost", name := "pay", desc := "(LRestrictedFunds$Fund;I)V" } : Jvm.MethodName)) ∈ WS := ws_in (List.mem_of_getElem? (i := 704) rfl) rfl
set_option maxRecDepth 100000 in
theorem w705 : (Jvm.Cond.instanceMethod ({ cls := "RestrictedFunds$Cost", name := "pay", desc := "(LRestrictedFunds$Fund;I)V" } : Jvm.MethodName)) ∈ WS := ws_in (List.mem_of_getElem? (i := 705) rfl) rfl
set_option maxRecDepth 100000 in
theorem w706 : (Jvm.Cond.selects "RestrictedFunds$Cost" ({ cls := "RestrictedFunds$Cost", name := "pay", desc := "(LRestrictedFunds$Fund;I)V" } : Jvm.MethodName) ({ cls := "RestrictedFunds$Cost", name := "pay", desc := "(LRestrictedFunds$Fund;I)V" } : Jvm.MethodName)) ∈ WS := ws_in (List.mem_of_getElem? (i := 706) rfl) rfl
set_option maxRecDepth 100000 in
theorem w707 : (Jvm.Cond.code ({ cls := "RestrictedFunds$Cost", name := "pay", desc := "(LRestrictedFunds$Fund;I)V" } : Jvm.MethodName) prog_3_method_3_code (4 : Nat) (Option.none : Option Jvm.ClassFile.FieldType)) ∈ WS := ws_in (List.mem_of_getElem? (i := 707) rfl) rfl
set_option maxRecDepth 100000 in
theorem w708 : (Jvm.Cond.methodLink "RestrictedFunds" (108 : Nat) ({ cls := "RestrictedFunds", name := "endEmptyCommitments", desc := "()V" } : Jvm.MethodName)) ∈ WS := ws_in (List.mem_of_getElem? (i := 708) rfl) rfl
set_option maxRecDepth 100000 in
theorem w710 : (Jvm.Cond.instanceMethod ({ cls := "RestrictedFunds", name := "endEmptyCommitments", desc := "()V" } : Jvm.MethodName)) ∈ WS := ws_in (List.mem_of_getElem? (i := 710) rfl) rfl
set_option maxRecDepth 100000 in
theorem w711 : (Jvm.Cond.code ({ cls := "RestrictedFunds", name := "endEmptyCommitments", desc := "()V" } : Jvm.MethodName) prog_1_method_35_code (2 : Nat) (Option.none : Option Jvm.ClassFile.FieldType)) ∈ WS := ws_in (List.mem_of_getElem? (i := 711) rfl) rfl
set_option maxRecDepth 100000 in
theorem w712 : (Jvm.Cond.classLink "RestrictedFunds" (69 : Nat) "RestrictedFunds$Commitment") ∈ WS := ws_in (List.mem_of_getElem? (i := 712) rfl) rfl
set_option maxRecDepth 100000 in
theorem w713 : (Jvm.Cond.methodLink "RestrictedFunds" (79 : Nat) ({ cls := "RestrictedFunds", name := "endCommitment", desc := "(I)V" } : Jvm.MethodName)) ∈ WS := ws_in (List.mem_of_getElem? (i := 713) rfl) rfl
set_option maxRecDepth 100000 in
theorem w715 : (Jvm.Cond.instanceMethod ({ cls := "RestrictedFunds", name := "endCommitment", desc := "(I)V" } : Jvm.MethodName)) ∈ WS := ws_in (List.mem_of_getElem? (i := 715) rfl) rfl
set_option maxRecDepth 100000 in
theorem w716 : (Jvm.Cond.code ({ cls := "RestrictedFunds", name := "endCommitment", desc := "(I)V" } : Jvm.MethodName) prog_1_method_33_code (3 : Nat) (Option.none : Option Jvm.ClassFile.FieldType)) ∈ WS := ws_in (List.mem_of_getElem? (i := 716) rfl) rfl
set_option maxRecDepth 100000 in
theorem w717 : (Jvm.Cond.methodLink "RestrictedFunds" (122 : Nat) ({ cls := "RestrictedFunds$Commitment", name := "owner", desc := "()LRestrictedFunds$Fund;" } : Jvm.MethodName)) ∈ WS := ws_in (List.mem_of_getElem? (i := 717) rfl) rfl
set_option maxRecDepth 100000 in
theorem w718 : (Jvm.Cond.methodLink "RestrictedFunds" (196 : Nat) ({ cls := "java/util/ArrayList", name := "remove", desc := "(I)Ljava/lang/Object;" } : Jvm.MethodName)) ∈ WS := ws_in (List.mem_of_getElem? (i := 718) rfl) rfl
set_option maxRecDepth 100000 in
theorem w719 : (Jvm.Cond.instanceMethod ({ cls := "java/util/ArrayList", name := "remove", desc := "(I)Ljava/lang/Object;" } : Jvm.MethodName)) ∈ WS := ws_in (List.mem_of_getElem? (i := 719) rfl) rfl
set_option maxRecDepth 100000 in
theorem w720 : (Jvm.Cond.selects "java/util/ArrayList" ({ cls := "java/util/ArrayList", name := "remove", desc := "(I)Ljava/lang/Object;" } : Jvm.MethodName) ({ cls := "java/util/ArrayList", name := "remove", desc := "(I)Ljava/lang/Object;" } : Jvm.MethodName)) ∈ WS := ws_in (List.mem_of_getElem? (i := 720) rfl) rfl
set_option maxRecDepth 100000 in
theorem w721 : (Jvm.Cond.code ({ cls := "java/util/ArrayList", name := "remove", desc := "(I)Ljava/lang/Object;" } : Jvm.MethodName) prog_34_method_29_code (4 : Nat) (Option.some (Jvm.ClassFile.FieldType.object "java/lang/Object"))) ∈ WS := ws_in (List.mem_of_getElem? (i := 721) rfl) rfl
set_option maxRecDepth 100000 in
theorem w722 : (Jvm.Cond.methodLink "java/util/ArrayList" (144 : Nat) ({ cls := "java/util/ArrayList", name := "fastRemove", desc := "([Ljava/lang/Object;I)V" } : Jvm.MethodName)) ∈ WS := ws_in (List.mem_of_getElem? (i := 722) rfl) rfl
set_option maxRecDepth 100000 in
theorem w724 : (Jvm.Cond.instanceMethod ({ cls := "java/util/ArrayList", name := "fastRemove", desc := "([Ljava/lang/Object;I)V" } : Jvm.MethodName)) ∈ WS := ws_in (List.mem_of_getElem? (i := 724) rfl) rfl
set_option maxRecDepth 100000 in
theorem w725 : (Jvm.Cond.code ({ cls := "java/util/ArrayList", name := "fastRemove", desc := "([Ljava/lang/Object;I)V" } : Jvm.MethodName) prog_34_method_39_code (4 : Nat) (Option.none : Option Jvm.ClassFile.FieldType)) ∈ WS := ws_in (List.mem_of_getElem? (i := 725) rfl) rfl
set_option maxRecDepth 100000 in
theorem w726 : (Jvm.Cond.methodLink "RestrictedFundsLaw" (118 : Nat) ({ cls := "RestrictedFunds", name := "today", desc := "()I" } : Jvm.MethodName)) ∈ WS := ws_in (List.mem_of_getElem? (i := 726) rfl) rfl
set_option maxRecDepth 100000 in
theorem w727 : (Jvm.Cond.instanceMethod ({ cls := "RestrictedFunds", name := "today", desc := "()I" } : Jvm.MethodName)) ∈ WS := ws_in (List.mem_of_getElem? (i := 727) rfl) rfl
set_option maxRecDepth 100000 in
theorem w728 : (Jvm.Cond.selects "RestrictedFunds" ({ cls := "RestrictedFunds", name := "today", desc := "()I" } : Jvm.MethodName) ({ cls := "RestrictedFunds", name := "today", desc := "()I" } : Jvm.MethodName)) ∈ WS := ws_in (List.mem_of_getElem? (i := 728) rfl) rfl
set_option maxRecDepth 100000 in
theorem w729 : (Jvm.Cond.code ({ cls := "RestrictedFunds", name := "today", desc := "()I" } : Jvm.MethodName) prog_1_method_10_code (1 : Nat) (Option.some Jvm.ClassFile.FieldType.int)) ∈ WS := ws_in (List.mem_of_getElem? (i := 729) rfl) rfl
set_option maxRecDepth 100000 in
theorem w730 : (Jvm.Cond.methodLink "RestrictedFundsLaw" (122 : Nat) ({ cls := "RestrictedFunds", name := "funds", desc := "()I" } : Jvm.MethodName)) ∈ WS := ws_in (List.mem_of_getElem? (i := 730) rfl) rfl
set_option maxRecDepth 100000 in
theorem w731 : (Jvm.Cond.instanceMethod ({ cls := "RestrictedFunds", name := "funds", desc := "()I" } : Jvm.MethodName)) ∈ WS := ws_in (List.mem_of_getElem? (i := 731) rfl) rfl
set_option maxRecDepth 100000 in
theorem w732 : (Jvm.Cond.selects "RestrictedFunds" ({ cls := "RestrictedFunds", name := "funds", desc := "()I" } : Jvm.MethodName) ({ cls := "RestrictedFunds", name := "funds", desc := "()I" } : Jvm.MethodName)) ∈ WS := ws_in (List.mem_of_getElem? (i := 732) rfl) rfl
set_option maxRecDepth 100000 in
theorem w733 : (Jvm.Cond.code ({ cls := "RestrictedFunds", name := "funds", desc := "()I" } : Jvm.MethodName) prog_1_method_11_code (1 : Nat) (Option.some Jvm.ClassFile.FieldType.int)) ∈ WS := ws_in (List.mem_of_getElem? (i := 733) rfl) rfl
set_option maxRecDepth 100000 in
theorem w734 : (Jvm.Cond.methodLink "RestrictedFundsLaw" (141 : Nat) ({ cls := "RestrictedFunds", name := "commitments", desc := "()I" } : Jvm.MethodName)) ∈ WS := ws_in (List.mem_of_getElem? (i := 734) rfl) rfl
set_option maxRecDepth 100000 in
theorem w735 : (Jvm.Cond.instanceMethod ({ cls := "RestrictedFunds", name := "commitments", desc := "()I" } : Jvm.MethodName)) ∈ WS := ws_in (List.mem_of_getElem? (i := 735) rfl) rfl
set_option maxRecDepth 100000 in
theorem w736 : (Jvm.Cond.selects "RestrictedFunds" ({ cls := "RestrictedFunds", name := "commitments", desc := "()I" } : Jvm.MethodName) ({ cls := "RestrictedFunds", name := "commitments", desc := "()I" } : Jvm.MethodName)) ∈ WS := ws_in (List.mem_of_getElem? (i := 736) rfl) rfl
set_option maxRecDepth 100000 in
theorem w737 : (Jvm.Cond.code ({ cls := "RestrictedFunds", name := "commitments", desc := "()I" } : Jvm.MethodName) prog_1_method_17_code (1 : Nat) (Option.some Jvm.ClassFile.FieldType.int)) ∈ WS := ws_in (List.mem_of_getElem? (i := 737) rfl) rfl
set_option maxRecDepth 100000 in
theorem w738 : (Jvm.Cond.methodLink "RestrictedFundsLaw" (154 : Nat) ({ cls := "RestrictedFunds", name := "costs", desc := "()I" } : Jvm.MethodName)) ∈ WS := ws_in (List.mem_of_getElem? (i := 738) rfl) rfl
set_option maxRecDepth 100000 in
theorem w739 : (Jvm.Cond.instanceMethod ({ cls := "RestrictedFunds", name := "costs", desc := "()I" } : Jvm.MethodName)) ∈ WS := ws_in (List.mem_of_getElem? (i := 739) rfl) rfl
set_option maxRecDepth 100000 in
theorem w740 : (Jvm.Cond.selects "RestrictedFunds" ({ cls := "RestrictedFunds", name := "costs", desc := "()I" } : Jvm.MethodName) ({ cls := "RestrictedFunds", name := "costs", desc := "()I" } : Jvm.MethodName)) ∈ WS := ws_in (List.mem_of_getElem? (i := 740) rfl) rfl
set_option maxRecDepth 100000 in
theorem w741 : (Jvm.Cond.code ({ cls := "RestrictedFunds", name := "costs", desc := "()I" } : Jvm.MethodName) prog_1_method_21_code (1 : Nat) (Option.some Jvm.ClassFile.FieldType.int)) ∈ WS := ws_in (List.mem_of_getElem? (i := 741) rfl) rfl
set_option maxRecDepth 100000 in
theorem w742 : (Jvm.Cond.methodLink "RestrictedFundsLaw" (164 : Nat) ({ cls := "RestrictedFunds", name := "payable", desc := "()I" } : Jvm.MethodName)) ∈ WS := ws_in (List.mem_of_getElem? (i := 742) rfl) rfl
set_option maxRecDepth 100000 in
theorem w743 : (Jvm.Cond.instanceMethod ({ cls := "RestrictedFunds", name := "payable", desc := "()I" } : Jvm.MethodName)) ∈ WS := ws_in (List.mem_of_getElem? (i := 743) rfl) rfl
set_option maxRecDepth 100000 in
theorem w744 : (Jvm.Cond.selects "RestrictedFunds" ({ cls := "RestrictedFunds", name := "payable", desc := "()I" } : Jvm.MethodName) ({ cls := "RestrictedFunds", name := "payable", desc := "()I" } : Jvm.MethodName)) ∈ WS := ws_in (List.mem_of_getElem? (i := 744) rfl) rfl
set_option maxRecDepth 100000 in
theorem w745 : (Jvm.Cond.code ({ cls := "RestrictedFunds", name := "payable", desc := "()I" } : Jvm.MethodName) prog_1_method_24_code (1 : Nat) (Option.some Jvm.ClassFile.FieldType.int)) ∈ WS := ws_in (List.mem_of_getElem? (i := 745) rfl) rfl
set_option maxRecDepth 100000 in
theorem w746 : (Jvm.Cond.methodLink "RestrictedFundsLaw" (83 : Nat) ({ cls := "RestrictedFundsLaw", name := "addFund", desc := "(LRestrictedFunds;IIII[J)I" } : Jvm.MethodName)) ∈ WS := ws_in (List.mem_of_getElem? (i := 746) rfl) rfl
set_option maxRecDepth 100000 in
theorem w747 : (Jvm.Cond.static ({ cls := "RestrictedFundsLaw", name := "addFund", desc := "(LRestrictedFunds;IIII[J)I" } : Jvm.MethodName)) ∈ WS := ws_in (List.mem_of_getElem? (i := 747) rfl) rfl
set_option maxRecDepth 100000 in
theorem w749 : (Jvm.Cond.classLink "RestrictedFundsLaw" (13 : Nat) "java/lang/IllegalArgumentException") ∈ WS := ws_in (List.mem_of_getElem? (i := 749) rfl) rfl
set_option maxRecDepth 100000 in
theorem w750 : (Jvm.Cond.classLink "RestrictedFundsLaw" (15 : Nat) "java/lang/IllegalStateException") ∈ WS := ws_in (List.mem_of_getElem? (i := 750) rfl) rfl
set_option maxRecDepth 100000 in
theorem w751 : (Jvm.Cond.methodLink "RestrictedFundsLaw" (7 : Nat) ({ cls := "RestrictedFunds", name := "addFund", desc := "(IIII)I" } : Jvm.MethodName)) ∈ WS := ws_in (List.mem_of_getElem? (i := 751) rfl) rfl
set_option maxRecDepth 100000 in
theorem w752 : (Jvm.Cond.instanceMethod ({ cls := "RestrictedFunds", name := "addFund", desc := "(IIII)I" } : Jvm.MethodName)) ∈ WS := ws_in (List.mem_of_getElem? (i := 752) rfl) rfl
set_option maxRecDepth 100000 in
theorem w753 : (Jvm.Cond.selects "RestrictedFunds" ({ cls := "RestrictedFunds", name := "addFund", desc := "(IIII)I" } : Jvm.MethodName) ({ cls := "RestrictedFunds", name := "addFund", desc := "(IIII)I" } : Jvm.MethodName)) ∈ WS := ws_in (List.mem_of_getElem? (i := 753) rfl) rfl
set_option maxRecDepth 100000 in
theorem w754 : (Jvm.Cond.code ({ cls := "RestrictedFunds", name := "addFund", desc := "(IIII)I" } : Jvm.MethodName) prog_1_method_2_code (6 : Nat) (Option.some Jvm.ClassFile.FieldType.int)) ∈ WS := ws_in (List.mem_of_getElem? (i := 754) rfl) rfl
set_option maxRecDepth 100000 in
theorem w755 : (Jvm.Cond.constant "RestrictedFunds" (36 : Nat) (99999 : Int32)) ∈ WS := ws_in (List.mem_of_getElem? (i := 755) rfl) rfl
set_option maxRecDepth 100000 in
theorem w756 : (Jvm.Cond.methodLink "RestrictedFunds" (37 : Nat) ({ cls := "RestrictedFunds", name := "requireRange", desc := "(III)V" } : Jvm.MethodName)) ∈ WS := ws_in (List.mem_of_getElem? (i := 756) rfl) rfl
set_option maxRecDepth 100000 in
theorem w757 : (Jvm.Cond.static ({ cls := "RestrictedFunds", name := "requireRange", desc := "(III)V" } : Jvm.MethodName)) ∈ WS := ws_in (List.mem_of_getElem? (i := 757) rfl) rfl
set_option maxRecDepth 100000 in
theorem w758 : (Jvm.Cond.code ({ cls := "RestrictedFunds", name := "requireRange", desc := "(III)V" } : Jvm.MethodName) prog_1_method_28_code (3 : Nat) (Option.none : Option Jvm.ClassFile.FieldType)) ∈ WS := ws_in (List.mem_of_getElem? (i := 758) rfl) rfl
set_option maxRecDepth 100000 in
theorem w759 : (Jvm.Cond.classLink "RestrictedFunds" (175 : Nat) "java/lang/IllegalArgumentException") ∈ WS := ws_in (List.mem_of_getElem? (i := 759) rfl) rfl
set_option maxRecDepth 100000 in
theorem w761 : (Jvm.Cond.methodLink "RestrictedFunds" (179 : Nat) ({ cls := "java/lang/IllegalArgumentException", name := "<init>", desc := "(Ljava/lang/String;)V" } : Jvm.MethodName)) ∈ WS := ws_in (List.mem_of_getElem? (i := 761) rfl) rfl
set_option maxRecDepth 100000 in
theorem w762 : (Jvm.Cond.methodLink "RestrictedFunds" (45 : Nat) ({ cls := "RestrictedFunds", name := "requireState", desc := "(Z)V" } : Jvm.MethodName)) ∈ WS := ws_in (List.mem_of_getElem? (i := 762) rfl) rfl
set_option maxRecDepth 100000 in
theorem w763 : (Jvm.Cond.static ({ cls := "RestrictedFunds", name := "requireState", desc := "(Z)V" } : Jvm.MethodName)) ∈ WS := ws_in (List.mem_of_getElem? (i := 763) rfl) rfl
set_option maxRecDepth 100000 in
theorem w764 : (Jvm.Cond.code ({ cls := "RestrictedFunds", name := "requireState", desc := "(Z)V" } : Jvm.MethodName) prog_1_method_29_code (1 : Nat) (Option.none : Option Jvm.ClassFile.FieldType)) ∈ WS := ws_in (List.mem_of_getElem? (i := 764) rfl) rfl
set_option maxRecDepth 100000 in
theorem w765 : (Jvm.Cond.classLink "RestrictedFunds" (182 : Nat) "java/lang/IllegalStateException") ∈ WS := ws_in (List.mem_of_getElem? (i := 765) rfl) rfl
set_option maxRecDepth 100000 in
theorem w766 : (Jvm.Cond.instantiable "java/lang/IllegalStateException" (6 : Nat)) ∈ WS := ws_in (List.mem_of_getElem? (i := 766) rfl) rfl
set_option maxRecDepth 100000 in
theorem w768 : (Jvm.Cond.selects "java/lang/IllegalStateException" ({ cls := "java/lang/Throwable", name := "fillInStackTrace", desc := "(I)Ljava/lang/Throwable;" } : Jvm.MethodName) ({ cls := "java/lang/Throwable", name := "fillInStackTrace", desc := "(I)Ljava/lang/Throwable;" } : Jvm.MethodName)) ∈ WS := ws_in (List.mem_of_getElem? (i := 768) rfl) rfl
set_option maxRecDepth 100000 in
theorem w769 : (Jvm.Cond.lays "java/lang/IllegalStateException" "java/lang/Throwable" "cause" "Ljava/lang/Throwable;") ∈ WS := ws_in (List.mem_of_getElem? (i := 769) rfl) rfl
set_option maxRecDepth 100000 in
theorem w770 : (Jvm.Cond.lays "java/lang/IllegalStateException" "java/lang/Throwable" "stackTrace" "[Ljava/lang/StackTraceElement;") ∈ WS := ws_in (List.mem_of_getElem? (i := 770) rfl) rfl
set_option maxRecDepth 100000 in
theorem w771 : (Jvm.Cond.lays "java/lang/IllegalStateException" "java/lang/Throwable" "suppressedExceptions" "Ljava/util/List;") ∈ WS := ws_in (List.mem_of_getElem? (i := 771) rfl) rfl
set_option maxRecDepth 100000 in
theorem w772 : (Jvm.Cond.lays "java/lang/IllegalStateException" "java/lang/Throwable" "detailMessage" "Ljava/lang/String;") ∈ WS := ws_in (List.mem_of_getElem? (i := 772) rfl) rfl
set_option maxRecDepth 100000 in
theorem w773 : (Jvm.Cond.lays "java/lang/IllegalStateException" "java/lang/Throwable" "backtrace" "Ljava/lang/Object;") ∈ WS := ws_in (List.mem_of_getElem? (i := 773) rfl) rfl
set_option maxRecDepth 100000 in
theorem w775 : (Jvm.Cond.methodLink "RestrictedFunds" (186 : Nat) ({ cls := "java/lang/IllegalStateException", name := "<init>", desc := "(Ljava/lang/String;)V" } : Jvm.MethodName)) ∈ WS := ws_in (List.mem_of_getElem? (i := 775) rfl) rfl
set_option maxRecDepth 100000 in
theorem w776 : (Jvm.Cond.instanceMethod ({ cls := "java/lang/IllegalStateException", name := "<init>", desc := "(Ljava/lang/String;)V" } : Jvm.MethodName)) ∈ WS := ws_in (List.mem_of_getElem? (i := 776) rfl) rfl
set_option maxRecDepth 100000 in
theorem w777 : (Jvm.Cond.code ({ cls := "java/lang/IllegalStateException", name := "<init>", desc := "(Ljava/lang/String;)V" } : Jvm.MethodName) prog_17_method_2_code (2 : Nat) (Option.none : Option Jvm.ClassFile.FieldType)) ∈ WS := ws_in (List.mem_of_getElem? (i := 777) rfl) rfl
set_option maxRecDepth 100000 in
theorem w779 : (Jvm.Cond.lays "java/lang/IllegalStateException" "java/lang/Throwable" "depth" "I") ∈ WS := ws_in (List.mem_of_getElem? (i := 779) rfl) rfl
set_option maxRecDepth 100000 in
theorem w781 : (Jvm.Cond.classLink "RestrictedFunds" (49 : Nat) "RestrictedFunds$Fund") ∈ WS := ws_in (List.mem_of_getElem? (i := 781) rfl) rfl
set_option maxRecDepth 100000 in
theorem w782 : (Jvm.Cond.instantiable "RestrictedFunds$Fund" (7 : Nat)) ∈ WS := ws_in (List.mem_of_getElem? (i := 782) rfl) rfl
set_option maxRecDepth 100000 in
theorem w783 : (Jvm.Cond.methodLink "RestrictedFunds" (51 : Nat) ({ cls := "RestrictedFunds$Fund", name := "<init>", desc := "(IIIII)V" } : Jvm.MethodName)) ∈ WS := ws_in (List.mem_of_getElem? (i := 783) rfl) rfl
set_option maxRecDepth 100000 in
theorem w784 : (Jvm.Cond.instanceMethod ({ cls := "RestrictedFunds$Fund", name := "<init>", desc := "(IIIII)V" } : Jvm.MethodName)) ∈ WS := ws_in (List.mem_of_getElem? (i := 784) rfl) rfl
set_option maxRecDepth 100000 in
theorem w785 : (Jvm.Cond.code ({ cls := "RestrictedFunds$Fund", name := "<init>", desc := "(IIIII)V" } : Jvm.MethodName) prog_4_method_1_code (6 : Nat) (Option.none : Option Jvm.ClassFile.FieldType)) ∈ WS := ws_in (List.mem_of_getElem? (i := 785) rfl) rfl
set_option maxRecDepth 100000 in
theorem w786 : (Jvm.Cond.methodLink "RestrictedFunds$Fund" (3 : Nat) ({ cls := "RestrictedFunds$Pot", name := "<init>", desc := "(I)V" } : Jvm.MethodName)) ∈ WS := ws_in (List.mem_of_getElem? (i := 786) rfl) rfl
set_option maxRecDepth 100000 in
theorem w787 : (Jvm.Cond.instanceMethod ({ cls := "RestrictedFunds$Pot", name := "<init>", desc := "(I)V" } : Jvm.MethodName)) ∈ WS := ws_in (List.mem_of_getElem? (i := 787) rfl) rfl
set_option maxRecDepth 100000 in
theorem w788 : (Jvm.Cond.code ({ cls := "RestrictedFunds$Pot", name := "<init>", desc := "(I)V" } : Jvm.MethodName) prog_6_method_1_code (2 : Nat) (Option.none : Option Jvm.ClassFile.FieldType)) ∈ WS := ws_in (List.mem_of_getElem? (i := 788) rfl) rfl
set_option maxRecDepth 100000 in
theorem w789 : (Jvm.Cond.methodLink "RestrictedFunds$Pot" (1 : Nat) ({ cls := "java/lang/Object", name := "<init>", desc := "()V" } : Jvm.MethodName)) ∈ WS := ws_in (List.mem_of_getElem? (i := 789) rfl) rfl
set_option maxRecDepth 100000 in
theorem w790 : (Jvm.Cond.fieldLink "RestrictedFunds$Fund" (9 : Nat) "RestrictedFunds$Fund" "number" "I") ∈ WS := ws_in (List.mem_of_getElem? (i := 790) rfl) rfl
set_option maxRecDepth 100000 in
theorem w791 : (Jvm.Cond.fieldLink "RestrictedFunds$Cost" (25 : Nat) "RestrictedFunds$Fund" "number" "I") ∈ WS := ws_in (List.mem_of_getElem? (i := 791) rfl) rfl
set_option maxRecDepth 100000 in
theorem w792 : (Jvm.Cond.fieldLink "RestrictedFunds" (135 : Nat) "RestrictedFunds$Fund" "number" "I") ∈ WS := ws_in (List.mem_of_getElem? (i := 792) rfl) rfl
set_option maxRecDepth 100000 in
theorem w793 : (Jvm.Cond.fieldLink "RestrictedFunds$Fund" (15 : Nat) "RestrictedFunds$Fund" "allowed" "I") ∈ WS := ws_in (List.mem_of_getElem? (i := 793) rfl) rfl
set_option maxRecDepth 100000 in
theorem w794 : (Jvm.Cond.fieldLink "RestrictedFunds$Fund" (18 : Nat) "RestrictedFunds$Fund" "lastDay" "I") ∈ WS := ws_in (List.mem_of_getElem? (i := 794) rfl) rfl
set_option maxRecDepth 100000 in
theorem w795 : (Jvm.Cond.fieldLink "RestrictedFunds$Fund" (21 : Nat) "RestrictedFunds$Fund" "ceiling" "I") ∈ WS := ws_in (List.mem_of_getElem? (i := 795) rfl) rfl
set_option maxRecDepth 100000 in
theorem w796 : (Jvm.Cond.fieldLink "RestrictedFunds$Fund" (44 : Nat) "RestrictedFunds$Fund" "direct" "I") ∈ WS := ws_in (List.mem_of_getElem? (i := 796) rfl) rfl
set_option maxRecDepth 100000 in
theorem w797 : (Jvm.Cond.fieldLink "RestrictedFunds" (126 : Nat) "RestrictedFunds$Fund" "direct" "I") ∈ WS := ws_in (List.mem_of_getElem? (i := 797) rfl) rfl
set_option maxRecDepth 100000 in
theorem w798 : (Jvm.Cond.fieldLink "RestrictedFunds$Fund" (47 : Nat) "RestrictedFunds$Fund" "overhead" "I") ∈ WS := ws_in (List.mem_of_getElem? (i := 798) rfl) rfl
set_option maxRecDepth 100000 in
theorem w799 : (Jvm.Cond.fieldLink "RestrictedFunds" (129 : Nat) "RestrictedFunds$Fund" "overhead" "I") ∈ WS := ws_in (List.mem_of_getElem? (i := 799) rfl) rfl
set_option maxRecDepth 100000 in
theorem w800 : (Jvm.Cond.fieldLink "RestrictedFunds$Pot" (7 : Nat) "RestrictedFunds$Pot" "money" "I") ∈ WS := ws_in (List.mem_of_getElem? (i := 800) rfl) rfl
set_option maxRecDepth 100000 in
theorem w801 : (Jvm.Cond.fieldLink "RestrictedFunds" (62 : Nat) "RestrictedFunds$Fund" "money" "I") ∈ WS := ws_in (List.mem_of_getElem? (i := 801) rfl) rfl
set_option maxRecDepth 100000 in
theorem w802 : (Jvm.Cond.sameField "RestrictedFunds$Fund" "RestrictedFunds$Pot" "money" "I") ∈ WS := ws_in (List.mem_of_getElem? (i := 802) rfl) rfl
set_option maxRecDepth 100000 in
theorem w803 : (Jvm.Cond.fieldLink "RestrictedFunds" (78 : Nat) "RestrictedFunds$Commitment" "money" "I") ∈ WS := ws_in (List.mem_of_getElem? (i := 803) rfl) rfl
set_option maxRecDepth 100000 in
theorem w804 : (Jvm.Cond.sameField "RestrictedFunds$Commitment" "RestrictedFunds$Pot" "money" "I") ∈ WS := ws_in (List.mem_of_getElem? (i := 804) rfl) rfl
set_option maxRecDepth 100000 in
theorem w805 : (Jvm.Cond.fieldLink "RestrictedFunds$Fund" (50 : Nat) "RestrictedFunds$Fund" "money" "I") ∈ WS := ws_in (List.mem_of_getElem? (i := 805) rfl) rfl
set_option maxRecDepth 100000 in
theorem w806 : (Jvm.Cond.fieldLink "RestrictedFunds" (158 : Nat) "RestrictedFunds$Pot" "money" "I") ∈ WS := ws_in (List.mem_of_getElem? (i := 806) rfl) rfl
set_option maxRecDepth 100000 in
theorem w807 : (Jvm.Cond.laysFinal "RestrictedFunds$Fund" "RestrictedFunds$Fund" "number" "I") ∈ WS := ws_in (List.mem_of_getElem? (i := 807) rfl) rfl
set_option maxRecDepth 100000 in
theorem w809 : (Jvm.Cond.laysFinal "RestrictedFunds$Fund" "RestrictedFunds$Fund" "allowed" "I") ∈ WS := ws_in (List.mem_of_getElem? (i := 809) rfl) rfl
set_option maxRecDepth 100000 in
theorem w811 : (Jvm.Cond.laysFinal "RestrictedFunds$Fund" "RestrictedFunds$Fund" "lastDay" "I") ∈ WS := ws_in (List.mem_of_getElem? (i := 811) rfl) rfl
set_option maxRecDepth 100000 in
theorem w813 : (Jvm.Cond.laysFinal "RestrictedFunds$Fund" "RestrictedFunds$Fund" "ceiling" "I") ∈ WS := ws_in (List.mem_of_getElem? (i := 813) rfl) rfl
set_option maxRecDepth 100000 in
theorem w815 : (Jvm.Cond.lays "RestrictedFunds$Fund" "RestrictedFunds$Fund" "direct" "I") ∈ WS := ws_in (List.mem_of_getElem? (i := 815) rfl) rfl
set_option maxRecDepth 100000 in
theorem w817 : (Jvm.Cond.lays "RestrictedFunds$Fund" "RestrictedFunds$Fund" "overhead" "I") ∈ WS := ws_in (List.mem_of_getElem? (i := 817) rfl) rfl
set_option maxRecDepth 100000 in
theorem w819 : (Jvm.Cond.lays "RestrictedFunds$Fund" "RestrictedFunds$Pot" "money" "I") ∈ WS := ws_in (List.mem_of_getElem? (i := 819) rfl) rfl
set_option maxRecDepth 100000 in
theorem w822 : (Jvm.Cond.methodLink "RestrictedFunds" (54 : Nat) ({ cls := "java/util/ArrayList", name := "add", desc := "(Ljava/lang/Object;)Z" } : Jvm.MethodName)) ∈ WS := ws_in (List.mem_of_getElem? (i := 822) rfl) rfl
set_option maxRecDepth 100000 in
theorem w823 : (Jvm.Cond.instanceMethod ({ cls := "java/util/ArrayList", name := "add", desc := "(Ljava/lang/Object;)Z" } : Jvm.MethodName)) ∈ WS := ws_in (List.mem_of_getElem? (i := 823) rfl) rfl
set_option maxRecDepth 100000 in
theorem w824 : (Jvm.Cond.selects "java/util/ArrayList" ({ cls := "java/util/ArrayList", name := "add", desc := "(Ljava/lang/Object;)Z" } : Jvm.MethodName) ({ cls := "java/util/ArrayList", name := "add", desc := "(Ljava/lang/Object;)Z" } : Jvm.MethodName)) ∈ WS := ws_in (List.mem_of_getElem? (i := 824) rfl) rfl
set_option maxRecDepth 100000 in
theorem w825 : (Jvm.Cond.code ({ cls := "java/util/ArrayList", name := "add", desc := "(Ljava/lang/Object;)Z" } : Jvm.MethodName) prog_34_method_25_code (2 : Nat) (Option.some Jvm.ClassFile.FieldType.boolean)) ∈ WS := ws_in (List.mem_of_getElem? (i := 825) rfl) rfl
set_option maxRecDepth 100000 in
theorem w826 : (Jvm.Cond.methodLink "java/util/ArrayList" (131 : Nat) ({ cls := "java/util/ArrayList", name := "add", desc := "(Ljava/lang/Object;[Ljava/lang/Object;I)V" } : Jvm.MethodName)) ∈ WS := ws_in (List.mem_of_getElem? (i := 826) rfl) rfl
set_option maxRecDepth 100000 in
theorem w828 : (Jvm.Cond.instanceMethod ({ cls := "java/util/ArrayList", name := "add", desc := "(Ljava/lang/Object;[Ljava/lang/Object;I)V" } : Jvm.MethodName)) ∈ WS := ws_in (List.mem_of_getElem? (i := 828) rfl) rfl
set_option maxRecDepth 100000 in
theorem w829 : (Jvm.Cond.code ({ cls := "java/util/ArrayList", name := "add", desc := "(Ljava/lang/Object;[Ljava/lang/Object;I)V" } : Jvm.MethodName) prog_34_method_24_code (4 : Nat) (Option.none : Option Jvm.ClassFile.FieldType)) ∈ WS := ws_in (List.mem_of_getElem? (i := 829) rfl) rfl
set_option maxRecDepth 100000 in
theorem w830 : (Jvm.Cond.methodLink "RestrictedFundsLaw" (93 : Nat) ({ cls := "RestrictedFundsLaw", name := "deposit", desc := "(LRestrictedFunds;II[J)I" } : Jvm.MethodName)) ∈ WS := ws_in (List.mem_of_getElem? (i := 830) rfl) rfl
set_option maxRecDepth 100000 in
theorem w831 : (Jvm.Cond.static ({ cls := "RestrictedFundsLaw", name := "deposit", desc := "(LRestrictedFunds;II[J)I" } : Jvm.MethodName)) ∈ WS := ws_in (List.mem_of_getElem? (i := 831) rfl) rfl
set_option maxRecDepth 100000 in
theorem w833 : (Jvm.Cond.classLink "RestrictedFundsLaw" (21 : Nat) "java/lang/IndexOutOfBoundsException") ∈ WS := ws_in (List.mem_of_getElem? (i := 833) rfl) rfl
set_option maxRecDepth 100000 in
theorem w834 : (Jvm.Cond.methodLink "RestrictedFundsLaw" (17 : Nat) ({ cls := "RestrictedFunds", name := "deposit", desc := "(II)I" } : Jvm.MethodName)) ∈ WS := ws_in (List.mem_of_getElem? (i := 834) rfl) rfl
set_option maxRecDepth 100000 in
theorem w835 : (Jvm.Cond.instanceMethod ({ cls := "RestrictedFunds", name := "deposit", desc := "(II)I" } : Jvm.MethodName)) ∈ WS := ws_in (List.mem_of_getElem? (i := 835) rfl) rfl
set_option maxRecDepth 100000 in
theorem w836 : (Jvm.Cond.selects "RestrictedFunds" ({ cls := "RestrictedFunds", name := "deposit", desc := "(II)I" } : Jvm.MethodName) ({ cls := "RestrictedFunds", name := "deposit", desc := "(II)I" } : Jvm.MethodName)) ∈ WS := ws_in (List.mem_of_getElem? (i := 836) rfl) rfl
set_option maxRecDepth 100000 in
theorem w837 : (Jvm.Cond.code ({ cls := "RestrictedFunds", name := "deposit", desc := "(II)I" } : Jvm.MethodName) prog_1_method_3_code (4 : Nat) (Option.some Jvm.ClassFile.FieldType.int)) ∈ WS := ws_in (List.mem_of_getElem? (i := 837) rfl) rfl
set_option maxRecDepth 100000 in
theorem w838 : (Jvm.Cond.methodLink "RestrictedFunds" (58 : Nat) ({ cls := "RestrictedFunds", name := "fundAt", desc := "(I)LRestrictedFunds$Fund;" } : Jvm.MethodName)) ∈ WS := ws_in (List.mem_of_getElem? (i := 838) rfl) rfl
set_option maxRecDepth 100000 in
theorem w840 : (Jvm.Cond.instanceMethod ({ cls := "RestrictedFunds", name := "fundAt", desc := "(I)LRestrictedFunds$Fund;" } : Jvm.MethodName)) ∈ WS := ws_in (List.mem_of_getElem? (i := 840) rfl) rfl
set_option maxRecDepth 100000 in
theorem w841 : (Jvm.Cond.code ({ cls := "RestrictedFunds", name := "fundAt", desc := "(I)LRestrictedFunds$Fund;" } : Jvm.MethodName) prog_1_method_30_code (2 : Nat) (Option.some (Jvm.ClassFile.FieldType.object "RestrictedFunds$Fund"))) ∈ WS := ws_in (List.mem_of_getElem? (i := 841) rfl) rfl
set_option maxRecDepth 100000 in
theorem w842 : (Jvm.Cond.classLink "RestrictedFunds" (187 : Nat) "java/lang/IndexOutOfBoundsException") ∈ WS := ws_in (List.mem_of_getElem? (i := 842) rfl) rfl
set_option maxRecDepth 100000 in
theorem w844 : (Jvm.Cond.methodLink "RestrictedFunds" (191 : Nat) ({ cls := "java/lang/IndexOutOfBoundsException", name := "<init>", desc := "(Ljava/lang/String;)V" } : Jvm.MethodName)) ∈ WS := ws_in (List.mem_of_getElem? (i := 844) rfl) rfl
set_option maxRecDepth 100000 in
theorem w845 : (Jvm.Cond.methodLink "RestrictedFundsLaw" (97 : Nat) ({ cls := "RestrictedFundsLaw", name := "commit", desc := "(LRestrictedFunds;IIII[J)I" } : Jvm.MethodName)) ∈ WS := ws_in (List.mem_of_getElem? (i := 845) rfl) rfl
set_option maxRecDepth 100000 in
theorem w846 : (Jvm.Cond.static ({ cls := "RestrictedFundsLaw", name := "commit", desc := "(LRestrictedFunds;IIII[J)I" } : Jvm.MethodName)) ∈ WS := ws_in (List.mem_of_getElem? (i := 846) rfl) rfl
set_option maxRecDepth 100000 in
theorem w848 : (Jvm.Cond.methodLink "RestrictedFundsLaw" (23 : Nat) ({ cls := "RestrictedFunds", name := "commit", desc := "(IIII)I" } : Jvm.MethodName)) ∈ WS := ws_in (List.mem_of_getElem? (i := 848) rfl) rfl
set_option maxRecDepth 100000 in
theorem w849 : (Jvm.Cond.instanceMethod ({ cls := "RestrictedFunds", name := "commit", desc := "(IIII)I" } : Jvm.MethodName)) ∈ WS := ws_in (List.mem_of_getElem? (i := 849) rfl) rfl
set_option maxRecDepth 100000 in
theorem w850 : (Jvm.Cond.selects "RestrictedFunds" ({ cls := "RestrictedFunds", name := "commit", desc := "(IIII)I" } : Jvm.MethodName) ({ cls := "RestrictedFunds", name := "commit", desc := "(IIII)I" } : Jvm.MethodName)) ∈ WS := ws_in (List.mem_of_getElem? (i := 850) rfl) rfl
set_option maxRecDepth 100000 in
theorem w851 : (Jvm.Cond.code ({ cls := "RestrictedFunds", name := "commit", desc := "(IIII)I" } : Jvm.MethodName) prog_1_method_4_code (6 : Nat) (Option.some Jvm.ClassFile.FieldType.int)) ∈ WS := ws_in (List.mem_of_getElem? (i := 851) rfl) rfl
set_option maxRecDepth 100000 in
theorem w852 : (Jvm.Cond.methodLink "RestrictedFunds" (65 : Nat) ({ cls := "RestrictedFunds$Fund", name := "allows", desc := "(I)Z" } : Jvm.MethodName)) ∈ WS := ws_in (List.mem_of_getElem? (i := 852) rfl) rfl
set_option maxRecDepth 100000 in
theorem w853 : (Jvm.Cond.instantiable "RestrictedFunds$Commitment" (4 : Nat)) ∈ WS := ws_in (List.mem_of_getElem? (i := 853) rfl) rfl
set_option maxRecDepth 100000 in
theorem w854 : (Jvm.Cond.methodLink "RestrictedFunds" (71 : Nat) ({ cls := "RestrictedFunds$Commitment", name := "<init>", desc := "(LRestrictedFunds$Fund;III)V" } : Jvm.MethodName)) ∈ WS := ws_in (List.mem_of_getElem? (i := 854) rfl) rfl
set_option maxRecDepth 100000 in
theorem w855 : (Jvm.Cond.instanceMethod ({ cls := "RestrictedFunds$Commitment", name := "<init>", desc := "(LRestrictedFunds$Fund;III)V" } : Jvm.MethodName)) ∈ WS := ws_in (List.mem_of_getElem? (i := 855) rfl) rfl
set_option maxRecDepth 100000 in
theorem w856 : (Jvm.Cond.code ({ cls := "RestrictedFunds$Commitment", name := "<init>", desc := "(LRestrictedFunds$Fund;III)V" } : Jvm.MethodName) prog_2_method_1_code (5 : Nat) (Option.none : Option Jvm.ClassFile.FieldType)) ∈ WS := ws_in (List.mem_of_getElem? (i := 856) rfl) rfl
set_option maxRecDepth 100000 in
theorem w857 : (Jvm.Cond.methodLink "RestrictedFunds$Commitment" (1 : Nat) ({ cls := "RestrictedFunds$Pot", name := "<init>", desc := "(I)V" } : Jvm.MethodName)) ∈ WS := ws_in (List.mem_of_getElem? (i := 857) rfl) rfl
set_option maxRecDepth 100000 in
theorem w858 : (Jvm.Cond.fieldLink "RestrictedFunds$Commitment" (7 : Nat) "RestrictedFunds$Commitment" "fund" "LRestrictedFunds$Fund;") ∈ WS := ws_in (List.mem_of_getElem? (i := 858) rfl) rfl
set_option maxRecDepth 100000 in
theorem w859 : (Jvm.Cond.fieldLink "RestrictedFunds$Commitment" (13 : Nat) "RestrictedFunds$Commitment" "category" "I") ∈ WS := ws_in (List.mem_of_getElem? (i := 859) rfl) rfl
set_option maxRecDepth 100000 in
theorem w860 : (Jvm.Cond.fieldLink "RestrictedFunds$Commitment" (17 : Nat) "RestrictedFunds$Commitment" "until" "I") ∈ WS := ws_in (List.mem_of_getElem? (i := 860) rfl) rfl
set_option maxRecDepth 100000 in
theorem w861 : (Jvm.Cond.laysFinal "RestrictedFunds$Commitment" "RestrictedFunds$Commitment" "fund" "LRestrictedFunds$Fund;") ∈ WS := ws_in (List.mem_of_getElem? (i := 861) rfl) rfl
set_option maxRecDepth 100000 in
theorem w863 : (Jvm.Cond.laysFinal "RestrictedFunds$Commitment" "RestrictedFunds$Commitment" "category" "I") ∈ WS := ws_in (List.mem_of_getElem? (i := 863) rfl) rfl
set_option maxRecDepth 100000 in
theorem w865 : (Jvm.Cond.laysFinal "RestrictedFunds$Commitment" "RestrictedFunds$Commitment" "until" "I") ∈ WS := ws_in (List.mem_of_getElem? (i := 865) rfl) rfl
set_option maxRecDepth 100000 in
theorem w867 : (Jvm.Cond.lays "RestrictedFunds$Commitment" "RestrictedFunds$Pot" "money" "I") ∈ WS := ws_in (List.mem_of_getElem? (i := 867) rfl) rfl
set_option maxRecDepth 100000 in
theorem w869 : (Jvm.Cond.methodLink "RestrictedFundsLaw" (100 : Nat) ({ cls := "RestrictedFundsLaw", name := "cancel", desc := "(LRestrictedFunds;I[J)I" } : Jvm.MethodName)) ∈ WS := ws_in (List.mem_of_getElem? (i := 869) rfl) rfl
set_option maxRecDepth 100000 in
theorem w870 : (Jvm.Cond.static ({ cls := "RestrictedFundsLaw", name := "cancel", desc := "(LRestrictedFunds;I[J)I" } : Jvm.MethodName)) ∈ WS := ws_in (List.mem_of_getElem? (i := 870) rfl) rfl
set_option maxRecDepth 100000 in
theorem w872 : (Jvm.Cond.methodLink "RestrictedFundsLaw" (26 : Nat) ({ cls := "RestrictedFunds", name := "cancel", desc := "(I)I" } : Jvm.MethodName)) ∈ WS := ws_in (List.mem_of_getElem? (i := 872) rfl) rfl
set_option maxRecDepth 100000 in
theorem w873 : (Jvm.Cond.instanceMethod ({ cls := "RestrictedFunds", name := "cancel", desc := "(I)I" } : Jvm.MethodName)) ∈ WS := ws_in (List.mem_of_getElem? (i := 873) rfl) rfl
set_option maxRecDepth 100000 in
theorem w874 : (Jvm.Cond.selects "RestrictedFunds" ({ cls := "RestrictedFunds", name := "cancel", desc := "(I)I" } : Jvm.MethodName) ({ cls := "RestrictedFunds", name := "cancel", desc := "(I)I" } : Jvm.MethodName)) ∈ WS := ws_in (List.mem_of_getElem? (i := 874) rfl) rfl
set_option maxRecDepth 100000 in
theorem w875 : (Jvm.Cond.code ({ cls := "RestrictedFunds", name := "cancel", desc := "(I)I" } : Jvm.MethodName) prog_1_method_5_code (3 : Nat) (Option.some Jvm.ClassFile.FieldType.int)) ∈ WS := ws_in (List.mem_of_getElem? (i := 875) rfl) rfl
set_option maxRecDepth 100000 in
theorem w876 : (Jvm.Cond.methodLink "RestrictedFunds" (74 : Nat) ({ cls := "RestrictedFunds", name := "commitmentAt", desc := "(I)LRestrictedFunds$Commitment;" } : Jvm.MethodName)) ∈ WS := ws_in (List.mem_of_getElem? (i := 876) rfl) rfl
set_option maxRecDepth 100000 in
theorem w878 : (Jvm.Cond.instanceMethod ({ cls := "RestrictedFunds", name := "commitmentAt", desc := "(I)LRestrictedFunds$Commitment;" } : Jvm.MethodName)) ∈ WS := ws_in (List.mem_of_getElem? (i := 878) rfl) rfl
set_option maxRecDepth 100000 in
theorem w879 : (Jvm.Cond.code ({ cls := "RestrictedFunds", name := "commitmentAt", desc := "(I)LRestrictedFunds$Commitment;" } : Jvm.MethodName) prog_1_method_31_code (2 : Nat) (Option.some (Jvm.ClassFile.FieldType.object "RestrictedFunds$Commitment"))) ∈ WS := ws_in (List.mem_of_getElem? (i := 879) rfl) rfl
set_option maxRecDepth 100000 in
theorem w881 : (Jvm.Cond.methodLink "RestrictedFundsLaw" (104 : Nat) ({ cls := "RestrictedFundsLaw", name := "advance", desc := "(LRestrictedFunds;I[J)I" } : Jvm.MethodName)) ∈ WS := ws_in (List.mem_of_getElem? (i := 881) rfl) rfl
set_option maxRecDepth 100000 in
theorem w882 : (Jvm.Cond.static ({ cls := "RestrictedFundsLaw", name := "advance", desc := "(LRestrictedFunds;I[J)I" } : Jvm.MethodName)) ∈ WS := ws_in (List.mem_of_getElem? (i := 882) rfl) rfl
set_option maxRecDepth 100000 in
theorem w884 : (Jvm.Cond.methodLink "RestrictedFundsLaw" (30 : Nat) ({ cls := "RestrictedFunds", name := "advance", desc := "(I)I" } : Jvm.MethodName)) ∈ WS := ws_in (List.mem_of_getElem? (i := 884) rfl) rfl
set_option maxRecDepth 100000 in
theorem w885 : (Jvm.Cond.instanceMethod ({ cls := "RestrictedFunds", name := "advance", desc := "(I)I" } : Jvm.MethodName)) ∈ WS := ws_in (List.mem_of_getElem? (i := 885) rfl) rfl
set_option maxRecDepth 100000 in
theorem w886 : (Jvm.Cond.selects "RestrictedFunds" ({ cls := "RestrictedFunds", name := "advance", desc := "(I)I" } : Jvm.MethodName) ({ cls := "RestrictedFunds", name := "advance", desc := "(I)I" } : Jvm.MethodName)) ∈ WS := ws_in (List.mem_of_getElem? (i := 886) rfl) rfl
set_option maxRecDepth 100000 in
theorem w887 : (Jvm.Cond.code ({ cls := "RestrictedFunds", name := "advance", desc := "(I)I" } : Jvm.MethodName) prog_1_method_6_code (2 : Nat) (Option.some Jvm.ClassFile.FieldType.int)) ∈ WS := ws_in (List.mem_of_getElem? (i := 887) rfl) rfl
set_option maxRecDepth 100000 in
theorem w888 : (Jvm.Cond.methodLink "RestrictedFunds" (83 : Nat) ({ cls := "RestrictedFunds", name := "lapseCommitments", desc := "()I" } : Jvm.MethodName)) ∈ WS := ws_in (List.mem_of_getElem? (i := 888) rfl) rfl
set_option maxRecDepth 100000 in
theorem w890 : (Jvm.Cond.instanceMethod ({ cls := "RestrictedFunds", name := "lapseCommitments", desc := "()I" } : Jvm.MethodName)) ∈ WS := ws_in (List.mem_of_getElem? (i := 890) rfl) rfl
set_option maxRecDepth 100000 in
theorem w891 : (Jvm.Cond.code ({ cls := "RestrictedFunds", name := "lapseCommitments", desc := "()I" } : Jvm.MethodName) prog_1_method_34_code (3 : Nat) (Option.some Jvm.ClassFile.FieldType.int)) ∈ WS := ws_in (List.mem_of_getElem? (i := 891) rfl) rfl
set_option maxRecDepth 100000 in
theorem w892 : (Jvm.Cond.methodLink "RestrictedFunds" (138 : Nat) ({ cls := "RestrictedFunds$Commitment", name := "expiry", desc := "()I" } : Jvm.MethodName)) ∈ WS := ws_in (List.mem_of_getElem? (i := 892) rfl) rfl
set_option maxRecDepth 100000 in
theorem w893 : (Jvm.Cond.methodLink "RestrictedFundsLaw" (107 : Nat) ({ cls := "RestrictedFundsLaw", name := "addCost", desc := "(LRestrictedFunds;III[J)I" } : Jvm.MethodName)) ∈ WS := ws_in (List.mem_of_getElem? (i := 893) rfl) rfl
set_option maxRecDepth 100000 in
theorem w894 : (Jvm.Cond.static ({ cls := "RestrictedFundsLaw", name := "addCost", desc := "(LRestrictedFunds;III[J)I" } : Jvm.MethodName)) ∈ WS := ws_in (List.mem_of_getElem? (i := 894) rfl) rfl
set_option maxRecDepth 100000 in
theorem w896 : (Jvm.Cond.methodLink "RestrictedFundsLaw" (33 : Nat) ({ cls := "RestrictedFunds", name := "addCost", desc := "(III)I" } : Jvm.MethodName)) ∈ WS := ws_in (List.mem_of_getElem? (i := 896) rfl) rfl
set_option maxRecDepth 100000 in
theorem w897 : (Jvm.Cond.instanceMethod ({ cls := "RestrictedFunds", name := "addCost", desc := "(III)I" } : Jvm.MethodName)) ∈ WS := ws_in (List.mem_of_getElem? (i := 897) rfl) rfl
set_option maxRecDepth 100000 in
theorem w898 : (Jvm.Cond.selects "RestrictedFunds" ({ cls := "RestrictedFunds", name := "addCost", desc := "(III)I" } : Jvm.MethodName) ({ cls := "RestrictedFunds", name := "addCost", desc := "(III)I" } : Jvm.MethodName)) ∈ WS := ws_in (List.mem_of_getElem? (i := 898) rfl) rfl
set_option maxRecDepth 100000 in
theorem w899 : (Jvm.Cond.code ({ cls := "RestrictedFunds", name := "addCost", desc := "(III)I" } : Jvm.MethodName) prog_1_method_7_code (4 : Nat) (Option.some Jvm.ClassFile.FieldType.int)) ∈ WS := ws_in (List.mem_of_getElem? (i := 899) rfl) rfl
set_option maxRecDepth 100000 in
theorem w900 : (Jvm.Cond.instantiable "RestrictedFunds$Cost" (4 : Nat)) ∈ WS := ws_in (List.mem_of_getElem? (i := 900) rfl) rfl
set_option maxRecDepth 100000 in
theorem w901 : (Jvm.Cond.methodLink "RestrictedFunds" (88 : Nat) ({ cls := "RestrictedFunds$Cost", name := "<init>", desc := "(III)V" } : Jvm.MethodName)) ∈ WS := ws_in (List.mem_of_getElem? (i := 901) rfl) rfl
set_option maxRecDepth 100000 in
theorem w902 : (Jvm.Cond.instanceMethod ({ cls := "RestrictedFunds$Cost", name := "<init>", desc := "(III)V" } : Jvm.MethodName)) ∈ WS := ws_in (List.mem_of_getElem? (i := 902) rfl) rfl
set_option maxRecDepth 100000 in
theorem w903 : (Jvm.Cond.code ({ cls := "RestrictedFunds$Cost", name := "<init>", desc := "(III)V" } : Jvm.MethodName) prog_3_method_1_code (4 : Nat) (Option.none : Option Jvm.ClassFile.FieldType)) ∈ WS := ws_in (List.mem_of_getElem? (i := 903) rfl) rfl
set_option maxRecDepth 100000 in
theorem w904 : (Jvm.Cond.methodLink "RestrictedFunds$Cost" (3 : Nat) ({ cls := "java/lang/Object", name := "<init>", desc := "()V" } : Jvm.MethodName)) ∈ WS := ws_in (List.mem_of_getElem? (i := 904) rfl) rfl
set_option maxRecDepth 100000 in
theorem w905 : (Jvm.Cond.fieldLink "RestrictedFunds$Cost" (15 : Nat) "RestrictedFunds$Cost" "category" "I") ∈ WS := ws_in (List.mem_of_getElem? (i := 905) rfl) rfl
set_option maxRecDepth 100000 in
theorem w906 : (Jvm.Cond.fieldLink "RestrictedFunds$Commitment" (20 : Nat) "RestrictedFunds$Cost" "category" "I") ∈ WS := ws_in (List.mem_of_getElem? (i := 906) rfl) rfl
set_option maxRecDepth 100000 in
theorem w907 : (Jvm.Cond.fieldLink "RestrictedFunds$Fund" (32 : Nat) "RestrictedFunds$Cost" "category" "I") ∈ WS := ws_in (List.mem_of_getElem? (i := 907) rfl) rfl
set_option maxRecDepth 100000 in
theorem w908 : (Jvm.Cond.fieldLink "RestrictedFunds" (255 : Nat) "RestrictedFunds$Cost" "category" "I") ∈ WS := ws_in (List.mem_of_getElem? (i := 908) rfl) rfl
set_option maxRecDepth 100000 in
theorem w909 : (Jvm.Cond.fieldLink "RestrictedFunds$Cost" (19 : Nat) "RestrictedFunds$Cost" "day" "I") ∈ WS := ws_in (List.mem_of_getElem? (i := 909) rfl) rfl
set_option maxRecDepth 100000 in
theorem w910 : (Jvm.Cond.fieldLink "RestrictedFunds$Fund" (41 : Nat) "RestrictedFunds$Cost" "day" "I") ∈ WS := ws_in (List.mem_of_getElem? (i := 910) rfl) rfl
set_option maxRecDepth 100000 in
theorem w911 : (Jvm.Cond.fieldLink "RestrictedFunds$Cost" (22 : Nat) "RestrictedFunds$Cost" "unpaid" "I") ∈ WS := ws_in (List.mem_of_getElem? (i := 911) rfl) rfl
set_option maxRecDepth 100000 in
theorem w912 : (Jvm.Cond.fieldLink "RestrictedFunds" (145 : Nat) "RestrictedFunds$Cost" "unpaid" "I") ∈ WS := ws_in (List.mem_of_getElem? (i := 912) rfl) rfl
set_option maxRecDepth 100000 in
theorem w913 : (Jvm.Cond.fieldLink "RestrictedFunds$Cost" (9 : Nat) "RestrictedFunds$Cost" "shares" "[I") ∈ WS := ws_in (List.mem_of_getElem? (i := 913) rfl) rfl
set_option maxRecDepth 100000 in
theorem w914 : (Jvm.Cond.laysFinal "RestrictedFunds$Cost" "RestrictedFunds$Cost" "category" "I") ∈ WS := ws_in (List.mem_of_getElem? (i := 914) rfl) rfl
set_option maxRecDepth 100000 in
theorem w916 : (Jvm.Cond.laysFinal "RestrictedFunds$Cost" "RestrictedFunds$Cost" "day" "I") ∈ WS := ws_in (List.mem_of_getElem? (i := 916) rfl) rfl
set_option maxRecDepth 100000 in
theorem w918 : (Jvm.Cond.lays "RestrictedFunds$Cost" "RestrictedFunds$Cost" "unpaid" "I") ∈ WS := ws_in (List.mem_of_getElem? (i := 918) rfl) rfl
set_option maxRecDepth 100000 in
theorem w920 : (Jvm.Cond.laysFinal "RestrictedFunds$Cost" "RestrictedFunds$Cost" "shares" "[I") ∈ WS := ws_in (List.mem_of_getElem? (i := 920) rfl) rfl
set_option maxRecDepth 100000 in
theorem w923 : (Jvm.Cond.methodLink "RestrictedFundsLaw" (115 : Nat) ({ cls := "RestrictedFundsLaw", name := "chargeOverhead", desc := "(LRestrictedFunds;I[J)I" } : Jvm.MethodName)) ∈ WS := ws_in (List.mem_of_getElem? (i := 923) rfl) rfl
set_option maxRecDepth 100000 in
theorem w924 : (Jvm.Cond.static ({ cls := "RestrictedFundsLaw", name := "chargeOverhead", desc := "(LRestrictedFunds;I[J)I" } : Jvm.MethodName)) ∈ WS := ws_in (List.mem_of_getElem? (i := 924) rfl) rfl
set_option maxRecDepth 100000 in
theorem w926 : (Jvm.Cond.methodLink "RestrictedFundsLaw" (37 : Nat) ({ cls := "RestrictedFunds", name := "chargeOverhead", desc := "(I)I" } : Jvm.MethodName)) ∈ WS := ws_in (List.mem_of_getElem? (i := 926) rfl) rfl
set_option maxRecDepth 100000 in
theorem w927 : (Jvm.Cond.instanceMethod ({ cls := "RestrictedFunds", name := "chargeOverhead", desc := "(I)I" } : Jvm.MethodName)) ∈ WS := ws_in (List.mem_of_getElem? (i := 927) rfl) rfl
set_option maxRecDepth 100000 in
theorem w928 : (Jvm.Cond.selects "RestrictedFunds" ({ cls := "RestrictedFunds", name := "chargeOverhead", desc := "(I)I" } : Jvm.MethodName) ({ cls := "RestrictedFunds", name := "chargeOverhead", desc := "(I)I" } : Jvm.MethodName)) ∈ WS := ws_in (List.mem_of_getElem? (i := 928) rfl) rfl
set_option maxRecDepth 100000 in
theorem w929 : (Jvm.Cond.code ({ cls := "RestrictedFunds", name := "chargeOverhead", desc := "(I)I" } : Jvm.MethodName) prog_1_method_9_code (6 : Nat) (Option.some Jvm.ClassFile.FieldType.int)) ∈ WS := ws_in (List.mem_of_getElem? (i := 929) rfl) rfl
set_option maxRecDepth 100000 in
theorem w930 : (Jvm.Cond.methodLink "RestrictedFunds" (111 : Nat) ({ cls := "RestrictedFunds", name := "shareByDirectCosts", desc := "(I)I" } : Jvm.MethodName)) ∈ WS := ws_in (List.mem_of_getElem? (i := 930) rfl) rfl
set_option maxRecDepth 100000 in
theorem w932 : (Jvm.Cond.instanceMethod ({ cls := "RestrictedFunds", name := "shareByDirectCosts", desc := "(I)I" } : Jvm.MethodName)) ∈ WS := ws_in (List.mem_of_getElem? (i := 932) rfl) rfl
set_option maxRecDepth 100000 in
theorem w933 : (Jvm.Cond.code ({ cls := "RestrictedFunds", name := "shareByDirectCosts", desc := "(I)I" } : Jvm.MethodName) prog_1_method_42_code (11 : Nat) (Option.some Jvm.ClassFile.FieldType.int)) ∈ WS := ws_in (List.mem_of_getElem? (i := 933) rfl) rfl
set_option maxRecDepth 100000 in
theorem w934 : (Jvm.Cond.methodLink "RestrictedFunds" (242 : Nat) ({ cls := "RestrictedFunds", name := "directCostsWithRoom", desc := "()J" } : Jvm.MethodName)) ∈ WS := ws_in (List.mem_of_getElem? (i := 934) rfl) rfl
set_option maxRecDepth 100000 in
theorem w936 : (Jvm.Cond.instanceMethod ({ cls := "RestrictedFunds", name := "directCostsWithRoom", desc := "()J" } : Jvm.MethodName)) ∈ WS := ws_in (List.mem_of_getElem? (i := 936) rfl) rfl
set_option maxRecDepth 100000 in
theorem w937 : (Jvm.Cond.code ({ cls := "RestrictedFunds", name := "directCostsWithRoom", desc := "()J" } : Jvm.MethodName) prog_1_method_43_code (5 : Nat) (Option.some Jvm.ClassFile.FieldType.long)) ∈ WS := ws_in (List.mem_of_getElem? (i := 937) rfl) rfl
set_option maxRecDepth 100000 in
theorem w938 : (Jvm.Cond.methodLink "RestrictedFunds" (132 : Nat) ({ cls := "RestrictedFunds$Fund", name := "room", desc := "()I" } : Jvm.MethodName)) ∈ WS := ws_in (List.mem_of_getElem? (i := 938) rfl) rfl
set_option maxRecDepth 100000 in
theorem w939 : (Jvm.Cond.instanceMethod ({ cls := "RestrictedFunds$Fund", name := "room", desc := "()I" } : Jvm.MethodName)) ∈ WS := ws_in (List.mem_of_getElem? (i := 939) rfl) rfl
set_option maxRecDepth 100000 in
theorem w940 : (Jvm.Cond.selects "RestrictedFunds$Fund" ({ cls := "RestrictedFunds$Fund", name := "room", desc := "()I" } : Jvm.MethodName) ({ cls := "RestrictedFunds$Fund", name := "room", desc := "()I" } : Jvm.MethodName)) ∈ WS := ws_in (List.mem_of_getElem? (i := 940) rfl) rfl
set_option maxRecDepth 100000 in
theorem w941 : (Jvm.Cond.code ({ cls := "RestrictedFunds$Fund", name := "room", desc := "()I" } : Jvm.MethodName) prog_4_method_7_code (2 : Nat) (Option.some Jvm.ClassFile.FieldType.int)) ∈ WS := ws_in (List.mem_of_getElem? (i := 941) rfl) rfl
set_option maxRecDepth 100000 in
theorem w942 : (Jvm.Cond.methodLink "RestrictedFunds$Fund" (53 : Nat) ({ cls := "java/lang/Math", name := "min", desc := "(II)I" } : Jvm.MethodName)) ∈ WS := ws_in (List.mem_of_getElem? (i := 942) rfl) rfl
set_option maxRecDepth 100000 in
theorem w943 : (Jvm.Cond.methodLink "RestrictedFunds$Fund" (59 : Nat) ({ cls := "java/lang/Math", name := "max", desc := "(II)I" } : Jvm.MethodName)) ∈ WS := ws_in (List.mem_of_getElem? (i := 943) rfl) rfl
set_option maxRecDepth 100000 in
theorem w944 : (Jvm.Cond.methodLink "RestrictedFunds" (246 : Nat) ({ cls := "java/lang/Math", name := "min", desc := "(JJ)J" } : Jvm.MethodName)) ∈ WS := ws_in (List.mem_of_getElem? (i := 944) rfl) rfl
set_option maxRecDepth 100000 in
theorem w945 : (Jvm.Cond.static ({ cls := "java/lang/Math", name := "min", desc := "(JJ)J" } : Jvm.MethodName)) ∈ WS := ws_in (List.mem_of_getElem? (i := 945) rfl) rfl
set_option maxRecDepth 100000 in
theorem w946 : (Jvm.Cond.code ({ cls := "java/lang/Math", name := "min", desc := "(JJ)J" } : Jvm.MethodName) prog_21_method_70_code (4 : Nat) (Option.some Jvm.ClassFile.FieldType.long)) ∈ WS := ws_in (List.mem_of_getElem? (i := 946) rfl) rfl
set_option maxRecDepth 100000 in
theorem w947 : (Jvm.Cond.methodLink "RestrictedFunds" (252 : Nat) ({ cls := "RestrictedFunds$Fund", name := "takeOverhead", desc := "(I)V" } : Jvm.MethodName)) ∈ WS := ws_in (List.mem_of_getElem? (i := 947) rfl) rfl
set_option maxRecDepth 100000 in
theorem w948 : (Jvm.Cond.instanceMethod ({ cls := "RestrictedFunds$Fund", name := "takeOverhead", desc := "(I)V" } : Jvm.MethodName)) ∈ WS := ws_in (List.mem_of_getElem? (i := 948) rfl) rfl
set_option maxRecDepth 100000 in
theorem w949 : (Jvm.Cond.selects "RestrictedFunds$Fund" ({ cls := "RestrictedFunds$Fund", name := "takeOverhead", desc := "(I)V" } : Jvm.MethodName) ({ cls := "RestrictedFunds$Fund", name := "takeOverhead", desc := "(I)V" } : Jvm.MethodName)) ∈ WS := ws_in (List.mem_of_getElem? (i := 949) rfl) rfl
set_option maxRecDepth 100000 in
theorem w950 : (Jvm.Cond.code ({ cls := "RestrictedFunds$Fund", name := "takeOverhead", desc := "(I)V" } : Jvm.MethodName) prog_4_method_8_code (2 : Nat) (Option.none : Option Jvm.ClassFile.FieldType)) ∈ WS := ws_in (List.mem_of_getElem? (i := 950) rfl) rfl
set_option maxRecDepth 100000 in
theorem w951 : (Jvm.Cond.methodLink "RestrictedFunds" (115 : Nat) ({ cls := "RestrictedFunds", name := "shareOnes", desc := "(I)I" } : Jvm.MethodName)) ∈ WS := ws_in (List.mem_of_getElem? (i := 951) rfl) rfl
set_option maxRecDepth 100000 in
theorem w953 : (Jvm.Cond.instanceMethod ({ cls := "RestrictedFunds", name := "shareOnes", desc := "(I)I" } : Jvm.MethodName)) ∈ WS := ws_in (List.mem_of_getElem? (i := 953) rfl) rfl
set_option maxRecDepth 100000 in
theorem w954 : (Jvm.Cond.code ({ cls := "RestrictedFunds", name := "shareOnes", desc := "(I)I" } : Jvm.MethodName) prog_1_method_44_code (5 : Nat) (Option.some Jvm.ClassFile.FieldType.int)) ∈ WS := ws_in (List.mem_of_getElem? (i := 954) rfl) rfl
set_option maxRecDepth 100000 in
theorem w955 : (Jvm.Cond.methodLink "RestrictedFundsLaw" (126 : Nat) ({ cls := "RestrictedFundsLaw", name := "freeOf", desc := "(LRestrictedFunds;I[J)I" } : Jvm.MethodName)) ∈ WS := ws_in (List.mem_of_getElem? (i := 955) rfl) rfl
set_option maxRecDepth 100000 in
theorem w956 : (Jvm.Cond.static ({ cls := "RestrictedFundsLaw", name := "freeOf", desc := "(LRestrictedFunds;I[J)I" } : Jvm.MethodName)) ∈ WS := ws_in (List.mem_of_getElem? (i := 956) rfl) rfl
set_option maxRecDepth 100000 in
theorem w958 : (Jvm.Cond.methodLink "RestrictedFundsLaw" (40 : Nat) ({ cls := "RestrictedFunds", name := "freeOf", desc := "(I)I" } : Jvm.MethodName)) ∈ WS := ws_in (List.mem_of_getElem? (i := 958) rfl) rfl
set_option maxRecDepth 100000 in
theorem w959 : (Jvm.Cond.instanceMethod ({ cls := "RestrictedFunds", name := "freeOf", desc := "(I)I" } : Jvm.MethodName)) ∈ WS := ws_in (List.mem_of_getElem? (i := 959) rfl) rfl
set_option maxRecDepth 100000 in
theorem w960 : (Jvm.Cond.selects "RestrictedFunds" ({ cls := "RestrictedFunds", name := "freeOf", desc := "(I)I" } : Jvm.MethodName) ({ cls := "RestrictedFunds", name := "freeOf", desc := "(I)I" } : Jvm.MethodName)) ∈ WS := ws_in (List.mem_of_getElem? (i := 960) rfl) rfl
set_option maxRecDepth 100000 in
theorem w961 : (Jvm.Cond.code ({ cls := "RestrictedFunds", name := "freeOf", desc := "(I)I" } : Jvm.MethodName) prog_1_method_12_code (2 : Nat) (Option.some Jvm.ClassFile.FieldType.int)) ∈ WS := ws_in (List.mem_of_getElem? (i := 961) rfl) rfl
set_option maxRecDepth 100000 in
theorem w962 : (Jvm.Cond.methodLink "RestrictedFundsLaw" (129 : Nat) ({ cls := "RestrictedFundsLaw", name := "committedOf", desc := "(LRestrictedFunds;I[J)I" } : Jvm.MethodName)) ∈ WS := ws_in (List.mem_of_getElem? (i := 962) rfl) rfl
set_option maxRecDepth 100000 in
theorem w963 : (Jvm.Cond.static ({ cls := "RestrictedFundsLaw", name := "committedOf", desc := "(LRestrictedFunds;I[J)I" } : Jvm.MethodName)) ∈ WS := ws_in (List.mem_of_getElem? (i := 963) rfl) rfl
set_option maxRecDepth 100000 in
theorem w965 : (Jvm.Cond.methodLink "RestrictedFundsLaw" (43 : Nat) ({ cls := "RestrictedFunds", name := "committedOf", desc := "(I)I" } : Jvm.MethodName)) ∈ WS := ws_in (List.mem_of_getElem? (i := 965) rfl) rfl
set_option maxRecDepth 100000 in
theorem w966 : (Jvm.Cond.instanceMethod ({ cls := "RestrictedFunds", name := "committedOf", desc := "(I)I" } : Jvm.MethodName)) ∈ WS := ws_in (List.mem_of_getElem? (i := 966) rfl) rfl
set_option maxRecDepth 100000 in
theorem w967 : (Jvm.Cond.selects "RestrictedFunds" ({ cls := "RestrictedFunds", name := "committedOf", desc := "(I)I" } : Jvm.MethodName) ({ cls := "RestrictedFunds", name := "committedOf", desc := "(I)I" } : Jvm.MethodName)) ∈ WS := ws_in (List.mem_of_getElem? (i := 967) rfl) rfl
set_option maxRecDepth 100000 in
theorem w968 : (Jvm.Cond.code ({ cls := "RestrictedFunds", name := "committedOf", desc := "(I)I" } : Jvm.MethodName) prog_1_method_13_code (6 : Nat) (Option.some Jvm.ClassFile.FieldType.int)) ∈ WS := ws_in (List.mem_of_getElem? (i := 968) rfl) rfl
set_option maxRecDepth 100000 in
theorem w969 : (Jvm.Cond.methodLink "RestrictedFundsLaw" (132 : Nat) ({ cls := "RestrictedFundsLaw", name := "directOf", desc := "(LRestrictedFunds;I[J)I" } : Jvm.MethodName)) ∈ WS := ws_in (List.mem_of_getElem? (i := 969) rfl) rfl
set_option maxRecDepth 100000 in
theorem w970 : (Jvm.Cond.static ({ cls := "RestrictedFundsLaw", name := "directOf", desc := "(LRestrictedFunds;I[J)I" } : Jvm.MethodName)) ∈ WS := ws_in (List.mem_of_getElem? (i := 970) rfl) rfl
set_option maxRecDepth 100000 in
theorem w972 : (Jvm.Cond.methodLink "RestrictedFundsLaw" (46 : Nat) ({ cls := "RestrictedFunds", name := "directOf", desc := "(I)I" } : Jvm.MethodName)) ∈ WS := ws_in (List.mem_of_getElem? (i := 972) rfl) rfl
set_option maxRecDepth 100000 in
theorem w973 : (Jvm.Cond.instanceMethod ({ cls := "RestrictedFunds", name := "directOf", desc := "(I)I" } : Jvm.MethodName)) ∈ WS := ws_in (List.mem_of_getElem? (i := 973) rfl) rfl
set_option maxRecDepth 100000 in
theorem w974 : (Jvm.Cond.selects "RestrictedFunds" ({ cls := "RestrictedFunds", name := "directOf", desc := "(I)I" } : Jvm.MethodName) ({ cls := "RestrictedFunds", name := "directOf", desc := "(I)I" } : Jvm.MethodName)) ∈ WS := ws_in (List.mem_of_getElem? (i := 974) rfl) rfl
set_option maxRecDepth 100000 in
theorem w975 : (Jvm.Cond.code ({ cls := "RestrictedFunds", name := "directOf", desc := "(I)I" } : Jvm.MethodName) prog_1_method_14_code (2 : Nat) (Option.some Jvm.ClassFile.FieldType.int)) ∈ WS := ws_in (List.mem_of_getElem? (i := 975) rfl) rfl
set_option maxRecDepth 100000 in
theorem w976 : (Jvm.Cond.methodLink "RestrictedFundsLaw" (135 : Nat) ({ cls := "RestrictedFundsLaw", name := "overheadOf", desc := "(LRestrictedFunds;I[J)I" } : Jvm.MethodName)) ∈ WS := ws_in (List.mem_of_getElem? (i := 976) rfl) rfl
set_option maxRecDepth 100000 in
theorem w977 : (Jvm.Cond.static ({ cls := "RestrictedFundsLaw", name := "overheadOf", desc := "(LRestrictedFunds;I[J)I" } : Jvm.MethodName)) ∈ WS := ws_in (List.mem_of_getElem? (i := 977) rfl) rfl
set_option maxRecDepth 100000 in
theorem w979 : (Jvm.Cond.methodLink "RestrictedFundsLaw" (49 : Nat) ({ cls := "RestrictedFunds", name := "overheadOf", desc := "(I)I" } : Jvm.MethodName)) ∈ WS := ws_in (List.mem_of_getElem? (i := 979) rfl) rfl
set_option maxRecDepth 100000 in
theorem w980 : (Jvm.Cond.instanceMethod ({ cls := "RestrictedFunds", name := "overheadOf", desc := "(I)I" } : Jvm.MethodName)) ∈ WS := ws_in (List.mem_of_getElem? (i := 980) rfl) rfl
set_option maxRecDepth 100000 in
theorem w981 : (Jvm.Cond.selects "RestrictedFunds" ({ cls := "RestrictedFunds", name := "overheadOf", desc := "(I)I" } : Jvm.MethodName) ({ cls := "RestrictedFunds", name := "overheadOf", desc := "(I)I" } : Jvm.MethodName)) ∈ WS := ws_in (List.mem_of_getElem? (i := 981) rfl) rfl
set_option maxRecDepth 100000 in
theorem w982 : (Jvm.Cond.code ({ cls := "RestrictedFunds", name := "overheadOf", desc := "(I)I" } : Jvm.MethodName) prog_1_method_15_code (2 : Nat) (Option.some Jvm.ClassFile.FieldType.int)) ∈ WS := ws_in (List.mem_of_getElem? (i := 982) rfl) rfl
set_option maxRecDepth 100000 in
theorem w983 : (Jvm.Cond.methodLink "RestrictedFundsLaw" (138 : Nat) ({ cls := "RestrictedFundsLaw", name := "roomOf", desc := "(LRestrictedFunds;I[J)I" } : Jvm.MethodName)) ∈ WS := ws_in (List.mem_of_getElem? (i := 983) rfl) rfl
set_option maxRecDepth 100000 in
theorem w984 : (Jvm.Cond.static ({ cls := "RestrictedFundsLaw", name := "roomOf", desc := "(LRestrictedFunds;I[J)I" } : Jvm.MethodName)) ∈ WS := ws_in (List.mem_of_getElem? (i := 984) rfl) rfl
set_option maxRecDepth 100000 in
theorem w986 : (Jvm.Cond.methodLink "RestrictedFundsLaw" (52 : Nat) ({ cls := "RestrictedFunds", name := "roomOf", desc := "(I)I" } : Jvm.MethodName)) ∈ WS := ws_in (List.mem_of_getElem? (i := 986) rfl) rfl
set_option maxRecDepth 100000 in
theorem w987 : (Jvm.Cond.instanceMethod ({ cls := "RestrictedFunds", name := "roomOf", desc := "(I)I" } : Jvm.MethodName)) ∈ WS := ws_in (List.mem_of_getElem? (i := 987) rfl) rfl
set_option maxRecDepth 100000 in
theorem w988 : (Jvm.Cond.selects "RestrictedFunds" ({ cls := "RestrictedFunds", name := "roomOf", desc := "(I)I" } : Jvm.MethodName) ({ cls := "RestrictedFunds", name := "roomOf", desc := "(I)I" } : Jvm.MethodName)) ∈ WS := ws_in (List.mem_of_getElem? (i := 988) rfl) rfl
set_option maxRecDepth 100000 in
theorem w989 : (Jvm.Cond.code ({ cls := "RestrictedFunds", name := "roomOf", desc := "(I)I" } : Jvm.MethodName) prog_1_method_16_code (2 : Nat) (Option.some Jvm.ClassFile.FieldType.int)) ∈ WS := ws_in (List.mem_of_getElem? (i := 989) rfl) rfl
set_option maxRecDepth 100000 in
theorem w990 : (Jvm.Cond.methodLink "RestrictedFundsLaw" (145 : Nat) ({ cls := "RestrictedFundsLaw", name := "fundOf", desc := "(LRestrictedFunds;I[J)I" } : Jvm.MethodName)) ∈ WS := ws_in (List.mem_of_getElem? (i := 990) rfl) rfl
set_option maxRecDepth 100000 in
theorem w991 : (Jvm.Cond.static ({ cls := "RestrictedFundsLaw", name := "fundOf", desc := "(LRestrictedFunds;I[J)I" } : Jvm.MethodName)) ∈ WS := ws_in (List.mem_of_getElem? (i := 991) rfl) rfl
set_option maxRecDepth 100000 in
theorem w993 : (Jvm.Cond.methodLink "RestrictedFundsLaw" (55 : Nat) ({ cls := "RestrictedFunds", name := "fundOf", desc := "(I)I" } : Jvm.MethodName)) ∈ WS := ws_in (List.mem_of_getElem? (i := 993) rfl) rfl
set_option maxRecDepth 100000 in
theorem w994 : (Jvm.Cond.instanceMethod ({ cls := "RestrictedFunds", name := "fundOf", desc := "(I)I" } : Jvm.MethodName)) ∈ WS := ws_in (List.mem_of_getElem? (i := 994) rfl) rfl
set_option maxRecDepth 100000 in
theorem w995 : (Jvm.Cond.selects "RestrictedFunds" ({ cls := "RestrictedFunds", name := "fundOf", desc := "(I)I" } : Jvm.MethodName) ({ cls := "RestrictedFunds", name := "fundOf", desc := "(I)I" } : Jvm.MethodName)) ∈ WS := ws_in (List.mem_of_getElem? (i := 995) rfl) rfl
set_option maxRecDepth 100000 in
theorem w996 : (Jvm.Cond.code ({ cls := "RestrictedFunds", name := "fundOf", desc := "(I)I" } : Jvm.MethodName) prog_1_method_18_code (2 : Nat) (Option.some Jvm.ClassFile.FieldType.int)) ∈ WS := ws_in (List.mem_of_getElem? (i := 996) rfl) rfl
set_option maxRecDepth 100000 in
theorem w997 : (Jvm.Cond.methodLink "RestrictedFundsLaw" (148 : Nat) ({ cls := "RestrictedFundsLaw", name := "leftOf", desc := "(LRestrictedFunds;I[J)I" } : Jvm.MethodName)) ∈ WS := ws_in (List.mem_of_getElem? (i := 997) rfl) rfl
set_option maxRecDepth 100000 in
theorem w998 : (Jvm.Cond.static ({ cls := "RestrictedFundsLaw", name := "leftOf", desc := "(LRestrictedFunds;I[J)I" } : Jvm.MethodName)) ∈ WS := ws_in (List.mem_of_getElem? (i := 998) rfl) rfl
set_option maxRecDepth 100000 in
theorem w1000 : (Jvm.Cond.methodLink "RestrictedFundsLaw" (58 : Nat) ({ cls := "RestrictedFunds", name := "leftOf", desc := "(I)I" } : Jvm.MethodName)) ∈ WS := ws_in (List.mem_of_getElem? (i := 1000) rfl) rfl
set_option maxRecDepth 100000 in
theorem w1001 : (Jvm.Cond.instanceMethod ({ cls := "RestrictedFunds", name := "leftOf", desc := "(I)I" } : Jvm.MethodName)) ∈ WS := ws_in (List.mem_of_getElem? (i := 1001) rfl) rfl
set_option maxRecDepth 100000 in
theorem w1002 : (Jvm.Cond.selects "RestrictedFunds" ({ cls := "RestrictedFunds", name := "leftOf", desc := "(I)I" } : Jvm.MethodName) ({ cls := "RestrictedFunds", name := "leftOf", desc := "(I)I" } : Jvm.MethodName)) ∈ WS := ws_in (List.mem_of_getElem? (i := 1002) rfl) rfl
set_option maxRecDepth 100000 in
theorem w1003 : (Jvm.Cond.code ({ cls := "RestrictedFunds", name := "leftOf", desc := "(I)I" } : Jvm.MethodName) prog_1_method_19_code (2 : Nat) (Option.some Jvm.ClassFile.FieldType.int)) ∈ WS := ws_in (List.mem_of_getElem? (i := 1003) rfl) rfl
set_option maxRecDepth 100000 in
theorem w1004 : (Jvm.Cond.methodLink "RestrictedFundsLaw" (151 : Nat) ({ cls := "RestrictedFundsLaw", name := "untilOf", desc := "(LRestrictedFunds;I[J)I" } : Jvm.MethodName)) ∈ WS := ws_in (List.mem_of_getElem? (i := 1004) rfl) rfl
set_option maxRecDepth 100000 in
theorem w1005 : (Jvm.Cond.static ({ cls := "RestrictedFundsLaw", name := "untilOf", desc := "(LRestrictedFunds;I[J)I" } : Jvm.MethodName)) ∈ WS := ws_in (List.mem_of_getElem? (i := 1005) rfl) rfl
set_option maxRecDepth 100000 in
theorem w1007 : (Jvm.Cond.methodLink "RestrictedFundsLaw" (61 : Nat) ({ cls := "RestrictedFunds", name := "untilOf", desc := "(I)I" } : Jvm.MethodName)) ∈ WS := ws_in (List.mem_of_getElem? (i := 1007) rfl) rfl
set_option maxRecDepth 100000 in
theorem w1008 : (Jvm.Cond.instanceMethod ({ cls := "RestrictedFunds", name := "untilOf", desc := "(I)I" } : Jvm.MethodName)) ∈ WS := ws_in (List.mem_of_getElem? (i := 1008) rfl) rfl
set_option maxRecDepth 100000 in
theorem w1009 : (Jvm.Cond.selects "RestrictedFunds" ({ cls := "RestrictedFunds", name := "untilOf", desc := "(I)I" } : Jvm.MethodName) ({ cls := "RestrictedFunds", name := "untilOf", desc := "(I)I" } : Jvm.MethodName)) ∈ WS := ws_in (List.mem_of_getElem? (i := 1009) rfl) rfl
set_option maxRecDepth 100000 in
theorem w1010 : (Jvm.Cond.code ({ cls := "RestrictedFunds", name := "untilOf", desc := "(I)I" } : Jvm.MethodName) prog_1_method_20_code (2 : Nat) (Option.some Jvm.ClassFile.FieldType.int)) ∈ WS := ws_in (List.mem_of_getElem? (i := 1010) rfl) rfl
set_option maxRecDepth 100000 in
theorem w1011 : (Jvm.Cond.methodLink "RestrictedFundsLaw" (158 : Nat) ({ cls := "RestrictedFundsLaw", name := "unpaidOf", desc := "(LRestrictedFunds;I[J)I" } : Jvm.MethodName)) ∈ WS := ws_in (List.mem_of_getElem? (i := 1011) rfl) rfl
set_option maxRecDepth 100000 in
theorem w1012 : (Jvm.Cond.static ({ cls := "RestrictedFundsLaw", name := "unpaidOf", desc := "(LRestrictedFunds;I[J)I" } : Jvm.MethodName)) ∈ WS := ws_in (List.mem_of_getElem? (i := 1012) rfl) rfl
set_option maxRecDepth 100000 in
theorem w1014 : (Jvm.Cond.methodLink "RestrictedFundsLaw" (64 : Nat) ({ cls := "RestrictedFunds", name := "unpaidOf", desc := "(I)I" } : Jvm.MethodName)) ∈ WS := ws_in (List.mem_of_getElem? (i := 1014) rfl) rfl
set_option maxRecDepth 100000 in
theorem w1015 : (Jvm.Cond.instanceMethod ({ cls := "RestrictedFunds", name := "unpaidOf", desc := "(I)I" } : Jvm.MethodName)) ∈ WS := ws_in (List.mem_of_getElem? (i := 1015) rfl) rfl
set_option maxRecDepth 100000 in
theorem w1016 : (Jvm.Cond.selects "RestrictedFunds" ({ cls := "RestrictedFunds", name := "unpaidOf", desc := "(I)I" } : Jvm.MethodName) ({ cls := "RestrictedFunds", name := "unpaidOf", desc := "(I)I" } : Jvm.MethodName)) ∈ WS := ws_in (List.mem_of_getElem? (i := 1016) rfl) rfl
set_option maxRecDepth 100000 in
theorem w1017 : (Jvm.Cond.code ({ cls := "RestrictedFunds", name := "unpaidOf", desc := "(I)I" } : Jvm.MethodName) prog_1_method_22_code (2 : Nat) (Option.some Jvm.ClassFile.FieldType.int)) ∈ WS := ws_in (List.mem_of_getElem? (i := 1017) rfl) rfl
set_option maxRecDepth 100000 in
theorem w1018 : (Jvm.Cond.methodLink "RestrictedFunds" (141 : Nat) ({ cls := "RestrictedFunds", name := "costAt", desc := "(I)LRestrictedFunds$Cost;" } : Jvm.MethodName)) ∈ WS := ws_in (List.mem_of_getElem? (i := 1018) rfl) rfl
set_option maxRecDepth 100000 in
theorem w1020 : (Jvm.Cond.instanceMethod ({ cls := "RestrictedFunds", name := "costAt", desc := "(I)LRestrictedFunds$Cost;" } : Jvm.MethodName)) ∈ WS := ws_in (List.mem_of_getElem? (i := 1020) rfl) rfl
set_option maxRecDepth 100000 in
theorem w1021 : (Jvm.Cond.code ({ cls := "RestrictedFunds", name := "costAt", desc := "(I)LRestrictedFunds$Cost;" } : Jvm.MethodName) prog_1_method_32_code (2 : Nat) (Option.some (Jvm.ClassFile.FieldType.object "RestrictedFunds$Cost"))) ∈ WS := ws_in (List.mem_of_getElem? (i := 1021) rfl) rfl
set_option maxRecDepth 100000 in
theorem w1023 : (Jvm.Cond.methodLink "RestrictedFundsLaw" (161 : Nat) ({ cls := "RestrictedFundsLaw", name := "paidBy", desc := "(LRestrictedFunds;II[J)I" } : Jvm.MethodName)) ∈ WS := ws_in (List.mem_of_getElem? (i := 1023) rfl) rfl
set_option maxRecDepth 100000 in
theorem w1024 : (Jvm.Cond.static ({ cls := "RestrictedFundsLaw", name := "paidBy", desc := "(LRestrictedFunds;II[J)I" } : Jvm.MethodName)) ∈ WS := ws_in (List.mem_of_getElem? (i := 1024) rfl) rfl
set_option maxRecDepth 100000 in
theorem w1026 : (Jvm.Cond.methodLink "RestrictedFundsLaw" (67 : Nat) ({ cls := "RestrictedFunds", name := "paidBy", desc := "(II)I" } : Jvm.MethodName)) ∈ WS := ws_in (List.mem_of_getElem? (i := 1026) rfl) rfl
set_option maxRecDepth 100000 in
theorem w1027 : (Jvm.Cond.instanceMethod ({ cls := "RestrictedFunds", name := "paidBy", desc := "(II)I" } : Jvm.MethodName)) ∈ WS := ws_in (List.mem_of_getElem? (i := 1027) rfl) rfl
set_option maxRecDepth 100000 in
theorem w1028 : (Jvm.Cond.selects "RestrictedFunds" ({ cls := "RestrictedFunds", name := "paidBy", desc := "(II)I" } : Jvm.MethodName) ({ cls := "RestrictedFunds", name := "paidBy", desc := "(II)I" } : Jvm.MethodName)) ∈ WS := ws_in (List.mem_of_getElem? (i := 1028) rfl) rfl
set_option maxRecDepth 100000 in
theorem w1029 : (Jvm.Cond.code ({ cls := "RestrictedFunds", name := "paidBy", desc := "(II)I" } : Jvm.MethodName) prog_1_method_23_code (4 : Nat) (Option.some Jvm.ClassFile.FieldType.int)) ∈ WS := ws_in (List.mem_of_getElem? (i := 1029) rfl) rfl
set_option maxRecDepth 100000 in
theorem w1030 : (Jvm.Cond.methodLink "RestrictedFunds" (148 : Nat) ({ cls := "RestrictedFunds$Cost", name := "shareOf", desc := "(LRestrictedFunds$Fund;)I" } : Jvm.MethodName)) ∈ WS := ws_in (List.mem_of_getElem? (i := 1030) rfl) rfl
set_option maxRecDepth 100000 in
theorem w1031 : (Jvm.Cond.instanceMethod ({ cls := "RestrictedFunds$Cost", name := "shareOf", desc := "(LRestrictedFunds$Fund;)I" } : Jvm.MethodName)) ∈ WS := ws_in (List.mem_of_getElem? (i := 1031) rfl) rfl
set_option maxRecDepth 100000 in
theorem w1032 : (Jvm.Cond.selects "RestrictedFunds$Cost" ({ cls := "RestrictedFunds$Cost", name := "shareOf", desc := "(LRestrictedFunds$Fund;)I" } : Jvm.MethodName) ({ cls := "RestrictedFunds$Cost", name := "shareOf", desc := "(LRestrictedFunds$Fund;)I" } : Jvm.MethodName)) ∈ WS := ws_in (List.mem_of_getElem? (i := 1032) rfl) rfl
set_option maxRecDepth 100000 in
theorem w1033 : (Jvm.Cond.code ({ cls := "RestrictedFunds$Cost", name := "shareOf", desc := "(LRestrictedFunds$Fund;)I" } : Jvm.MethodName) prog_3_method_2_code (3 : Nat) (Option.some Jvm.ClassFile.FieldType.int)) ∈ WS := ws_in (List.mem_of_getElem? (i := 1033) rfl) rfl
set_option maxRecDepth 100000 in
theorem w1034 : (Jvm.Cond.methodLink "RestrictedFundsLaw" (168 : Nat) ({ cls := "RestrictedFundsLaw", name := "wouldPay", desc := "(LRestrictedFunds;I[J)I" } : Jvm.MethodName)) ∈ WS := ws_in (List.mem_of_getElem? (i := 1034) rfl) rfl
set_option maxRecDepth 100000 in
theorem w1035 : (Jvm.Cond.static ({ cls := "RestrictedFundsLaw", name := "wouldPay", desc := "(LRestrictedFunds;I[J)I" } : Jvm.MethodName)) ∈ WS := ws_in (List.mem_of_getElem? (i := 1035) rfl) rfl
set_option maxRecDepth 100000 in
theorem w1037 : (Jvm.Cond.methodLink "RestrictedFundsLaw" (70 : Nat) ({ cls := "RestrictedFunds", name := "wouldPay", desc := "(I)I" } : Jvm.MethodName)) ∈ WS := ws_in (List.mem_of_getElem? (i := 1037) rfl) rfl
set_option maxRecDepth 100000 in
theorem w1038 : (Jvm.Cond.instanceMethod ({ cls := "RestrictedFunds", name := "wouldPay", desc := "(I)I" } : Jvm.MethodName)) ∈ WS := ws_in (List.mem_of_getElem? (i := 1038) rfl) rfl
set_option maxRecDepth 100000 in
theorem w1039 : (Jvm.Cond.selects "RestrictedFunds" ({ cls := "RestrictedFunds", name := "wouldPay", desc := "(I)I" } : Jvm.MethodName) ({ cls := "RestrictedFunds", name := "wouldPay", desc := "(I)I" } : Jvm.MethodName)) ∈ WS := ws_in (List.mem_of_getElem? (i := 1039) rfl) rfl
set_option maxRecDepth 100000 in
theorem w1040 : (Jvm.Cond.code ({ cls := "RestrictedFunds", name := "wouldPay", desc := "(I)I" } : Jvm.MethodName) prog_1_method_25_code (3 : Nat) (Option.some Jvm.ClassFile.FieldType.int)) ∈ WS := ws_in (List.mem_of_getElem? (i := 1040) rfl) rfl
set_option maxRecDepth 100000 in
theorem w1041 : (Jvm.Cond.methodLink "RestrictedFunds" (152 : Nat) ({ cls := "RestrictedFunds$Plan", name := "leftOfCost", desc := "(I)I" } : Jvm.MethodName)) ∈ WS := ws_in (List.mem_of_getElem? (i := 1041) rfl) rfl
set_option maxRecDepth 100000 in
theorem w1042 : (Jvm.Cond.methodLink "RestrictedFundsLaw" (171 : Nat) ({ cls := "RestrictedFundsLaw", name := "wouldTake", desc := "(LRestrictedFunds;I[J)I" } : Jvm.MethodName)) ∈ WS := ws_in (List.mem_of_getElem? (i := 1042) rfl) rfl
set_option maxRecDepth 100000 in
theorem w1043 : (Jvm.Cond.static ({ cls := "RestrictedFundsLaw", name := "wouldTake", desc := "(LRestrictedFunds;I[J)I" } : Jvm.MethodName)) ∈ WS := ws_in (List.mem_of_getElem? (i := 1043) rfl) rfl
set_option maxRecDepth 100000 in
theorem w1045 : (Jvm.Cond.methodLink "RestrictedFundsLaw" (73 : Nat) ({ cls := "RestrictedFunds", name := "wouldTake", desc := "(I)I" } : Jvm.MethodName)) ∈ WS := ws_in (List.mem_of_getElem? (i := 1045) rfl) rfl
set_option maxRecDepth 100000 in
theorem w1046 : (Jvm.Cond.instanceMethod ({ cls := "RestrictedFunds", name := "wouldTake", desc := "(I)I" } : Jvm.MethodName)) ∈ WS := ws_in (List.mem_of_getElem? (i := 1046) rfl) rfl
set_option maxRecDepth 100000 in
theorem w1047 : (Jvm.Cond.selects "RestrictedFunds" ({ cls := "RestrictedFunds", name := "wouldTake", desc := "(I)I" } : Jvm.MethodName) ({ cls := "RestrictedFunds", name := "wouldTake", desc := "(I)I" } : Jvm.MethodName)) ∈ WS := ws_in (List.mem_of_getElem? (i := 1047) rfl) rfl
set_option maxRecDepth 100000 in
theorem w1048 : (Jvm.Cond.code ({ cls := "RestrictedFunds", name := "wouldTake", desc := "(I)I" } : Jvm.MethodName) prog_1_method_26_code (6 : Nat) (Option.some Jvm.ClassFile.FieldType.int)) ∈ WS := ws_in (List.mem_of_getElem? (i := 1048) rfl) rfl
set_option maxRecDepth 100000 in
theorem w1049 : (Jvm.Cond.methodLink "RestrictedFunds" (159 : Nat) ({ cls := "RestrictedFunds$Plan", name := "leftOfPot", desc := "(I)I" } : Jvm.MethodName)) ∈ WS := ws_in (List.mem_of_getElem? (i := 1049) rfl) rfl
set_option maxRecDepth 100000 in
theorem w1050 : (Jvm.Cond.methodLink "RestrictedFundsLaw" (174 : Nat) ({ cls := "RestrictedFundsLaw", name := "reason", desc := "(LRestrictedFunds;I[J)I" } : Jvm.MethodName)) ∈ WS := ws_in (List.mem_of_getElem? (i := 1050) rfl) rfl
set_option maxRecDepth 100000 in
theorem w1051 : (Jvm.Cond.static ({ cls := "RestrictedFundsLaw", name := "reason", desc := "(LRestrictedFunds;I[J)I" } : Jvm.MethodName)) ∈ WS := ws_in (List.mem_of_getElem? (i := 1051) rfl) rfl
set_option maxRecDepth 100000 in
theorem w1053 : (Jvm.Cond.methodLink "RestrictedFundsLaw" (76 : Nat) ({ cls := "RestrictedFunds", name := "reason", desc := "(I)I" } : Jvm.MethodName)) ∈ WS := ws_in (List.mem_of_getElem? (i := 1053) rfl) rfl
set_option maxRecDepth 100000 in
theorem w1054 : (Jvm.Cond.instanceMethod ({ cls := "RestrictedFunds", name := "reason", desc := "(I)I" } : Jvm.MethodName)) ∈ WS := ws_in (List.mem_of_getElem? (i := 1054) rfl) rfl
set_option maxRecDepth 100000 in
theorem w1055 : (Jvm.Cond.selects "RestrictedFunds" ({ cls := "RestrictedFunds", name := "reason", desc := "(I)I" } : Jvm.MethodName) ({ cls := "RestrictedFunds", name := "reason", desc := "(I)I" } : Jvm.MethodName)) ∈ WS := ws_in (List.mem_of_getElem? (i := 1055) rfl) rfl
set_option maxRecDepth 100000 in
theorem w1056 : (Jvm.Cond.code ({ cls := "RestrictedFunds", name := "reason", desc := "(I)I" } : Jvm.MethodName) prog_1_method_27_code (3 : Nat) (Option.some Jvm.ClassFile.FieldType.int)) ∈ WS := ws_in (List.mem_of_getElem? (i := 1056) rfl) rfl
set_option maxRecDepth 100000 in
theorem w1057 : (Jvm.Cond.methodLink "RestrictedFunds" (162 : Nat) ({ cls := "RestrictedFunds", name := "isAllowedBySomeFund", desc := "(LRestrictedFunds$Cost;)Z" } : Jvm.MethodName)) ∈ WS := ws_in (List.mem_of_getElem? (i := 1057) rfl) rfl
set_option maxRecDepth 100000 in
theorem w1059 : (Jvm.Cond.instanceMethod ({ cls := "RestrictedFunds", name := "isAllowedBySomeFund", desc := "(LRestrictedFunds$Cost;)Z" } : Jvm.MethodName)) ∈ WS := ws_in (List.mem_of_getElem? (i := 1059) rfl) rfl
set_option maxRecDepth 100000 in
theorem w1060 : (Jvm.Cond.code ({ cls := "RestrictedFunds", name := "isAllowedBySomeFund", desc := "(LRestrictedFunds$Cost;)Z" } : Jvm.MethodName) prog_1_method_45_code (3 : Nat) (Option.some Jvm.ClassFile.FieldType.boolean)) ∈ WS := ws_in (List.mem_of_getElem? (i := 1060) rfl) rfl
set_option maxRecDepth 100000 in
theorem w1061 : (Jvm.Cond.methodLink "RestrictedFunds" (166 : Nat) ({ cls := "RestrictedFunds", name := "isSuitedBySomeFund", desc := "(LRestrictedFunds$Cost;)Z" } : Jvm.MethodName)) ∈ WS := ws_in (List.mem_of_getElem? (i := 1061) rfl) rfl
set_option maxRecDepth 100000 in
theorem w1063 : (Jvm.Cond.instanceMethod ({ cls := "RestrictedFunds", name := "isSuitedBySomeFund", desc := "(LRestrictedFunds$Cost;)Z" } : Jvm.MethodName)) ∈ WS := ws_in (List.mem_of_getElem? (i := 1063) rfl) rfl
set_option maxRecDepth 100000 in
theorem w1064 : (Jvm.Cond.code ({ cls := "RestrictedFunds", name := "isSuitedBySomeFund", desc := "(LRestrictedFunds$Cost;)Z" } : Jvm.MethodName) prog_1_method_46_code (3 : Nat) (Option.some Jvm.ClassFile.FieldType.boolean)) ∈ WS := ws_in (List.mem_of_getElem? (i := 1064) rfl) rfl
set_option maxRecDepth 100000 in
theorem w1065 : (Jvm.Cond.methodLink "RestrictedFunds" (258 : Nat) ({ cls := "RestrictedFunds$Fund", name := "suits", desc := "(LRestrictedFunds$Cost;)Z" } : Jvm.MethodName)) ∈ WS := ws_in (List.mem_of_getElem? (i := 1065) rfl) rfl
set_option maxRecDepth 100000 in
theorem w1066 : (Jvm.Cond.methodLink "RestrictedFunds" (169 : Nat) ({ cls := "RestrictedFunds", name := "isPayableFromSomePot", desc := "(LRestrictedFunds$Cost;)Z" } : Jvm.MethodName)) ∈ WS := ws_in (List.mem_of_getElem? (i := 1066) rfl) rfl
set_option maxRecDepth 100000 in
theorem w1068 : (Jvm.Cond.instanceMethod ({ cls := "RestrictedFunds", name := "isPayableFromSomePot", desc := "(LRestrictedFunds$Cost;)Z" } : Jvm.MethodName)) ∈ WS := ws_in (List.mem_of_getElem? (i := 1068) rfl) rfl
set_option maxRecDepth 100000 in
theorem w1069 : (Jvm.Cond.code ({ cls := "RestrictedFunds", name := "isPayableFromSomePot", desc := "(LRestrictedFunds$Cost;)Z" } : Jvm.MethodName) prog_1_method_47_code (4 : Nat) (Option.some Jvm.ClassFile.FieldType.boolean)) ∈ WS := ws_in (List.mem_of_getElem? (i := 1069) rfl) rfl
set_option maxRecDepth 100000 in
theorem w1070 : (Jvm.Cond.methodLink "RestrictedFunds" (172 : Nat) ({ cls := "RestrictedFunds", name := "isHeldInCommitment", desc := "(LRestrictedFunds$Cost;)Z" } : Jvm.MethodName)) ∈ WS := ws_in (List.mem_of_getElem? (i := 1070) rfl) rfl
set_option maxRecDepth 100000 in
theorem w1072 : (Jvm.Cond.instanceMethod ({ cls := "RestrictedFunds", name := "isHeldInCommitment", desc := "(LRestrictedFunds$Cost;)Z" } : Jvm.MethodName)) ∈ WS := ws_in (List.mem_of_getElem? (i := 1072) rfl) rfl
set_option maxRecDepth 100000 in
theorem w1073 : (Jvm.Cond.code ({ cls := "RestrictedFunds", name := "isHeldInCommitment", desc := "(LRestrictedFunds$Cost;)Z" } : Jvm.MethodName) prog_1_method_48_code (4 : Nat) (Option.some Jvm.ClassFile.FieldType.boolean)) ∈ WS := ws_in (List.mem_of_getElem? (i := 1073) rfl) rfl
set_option maxRecDepth 100000 in
theorem w1074 : (Jvm.Cond.classLink "RestrictedFundsLaw" (80 : Nat) "RestrictedFundsModel") ∈ WS := ws_in (List.mem_of_getElem? (i := 1074) rfl) rfl
set_option maxRecDepth 100000 in
theorem w1075 : (Jvm.Cond.instantiable "RestrictedFundsModel" (30 : Nat)) ∈ WS := ws_in (List.mem_of_getElem? (i := 1075) rfl) rfl
set_option maxRecDepth 100000 in
theorem w1076 : (Jvm.Cond.methodLink "RestrictedFundsLaw" (82 : Nat) ({ cls := "RestrictedFundsModel", name := "<init>", desc := "()V" } : Jvm.MethodName)) ∈ WS := ws_in (List.mem_of_getElem? (i := 1076) rfl) rfl
set_option maxRecDepth 100000 in
theorem w1077 : (Jvm.Cond.instanceMethod ({ cls := "RestrictedFundsModel", name := "<init>", desc := "()V" } : Jvm.MethodName)) ∈ WS := ws_in (List.mem_of_getElem? (i := 1077) rfl) rfl
set_option maxRecDepth 100000 in
theorem w1078 : (Jvm.Cond.code ({ cls := "RestrictedFundsModel", name := "<init>", desc := "()V" } : Jvm.MethodName) prog_8_method_1_code (1 : Nat) (Option.none : Option Jvm.ClassFile.FieldType)) ∈ WS := ws_in (List.mem_of_getElem? (i := 1078) rfl) rfl
set_option maxRecDepth 100000 in
theorem w1079 : (Jvm.Cond.methodLink "RestrictedFundsModel" (1 : Nat) ({ cls := "java/lang/Object", name := "<init>", desc := "()V" } : Jvm.MethodName)) ∈ WS := ws_in (List.mem_of_getElem? (i := 1079) rfl) rfl
set_option maxRecDepth 100000 in
theorem w1080 : (Jvm.Cond.fieldLink "RestrictedFundsModel" (121 : Nat) "RestrictedFundsModel" "today" "I") ∈ WS := ws_in (List.mem_of_getElem? (i := 1080) rfl) rfl
set_option maxRecDepth 100000 in
theorem w1081 : (Jvm.Cond.fieldLink "RestrictedFundsModel" (86 : Nat) "RestrictedFundsModel" "funds" "I") ∈ WS := ws_in (List.mem_of_getElem? (i := 1081) rfl) rfl
set_option maxRecDepth 100000 in
theorem w1082 : (Jvm.Cond.fieldLink "RestrictedFundsModel" (7 : Nat) "RestrictedFundsModel" "free" "[I") ∈ WS := ws_in (List.mem_of_getElem? (i := 1082) rfl) rfl
set_option maxRecDepth 100000 in
theorem w1083 : (Jvm.Cond.fieldLink "RestrictedFundsModel" (13 : Nat) "RestrictedFundsModel" "allowed" "[I") ∈ WS := ws_in (List.mem_of_getElem? (i := 1083) rfl) rfl
set_option maxRecDepth 100000 in
theorem w1084 : (Jvm.Cond.fieldLink "RestrictedFundsModel" (16 : Nat) "RestrictedFundsModel" "lastDay" "[I") ∈ WS := ws_in (List.mem_of_getElem? (i := 1084) rfl) rfl
set_option maxRecDepth 100000 in
theorem w1085 : (Jvm.Cond.fieldLink "RestrictedFundsModel" (19 : Nat) "RestrictedFundsModel" "ceiling" "[I") ∈ WS := ws_in (List.mem_of_getElem? (i := 1085) rfl) rfl
set_option maxRecDepth 100000 in
theorem w1086 : (Jvm.Cond.fieldLink "RestrictedFundsModel" (22 : Nat) "RestrictedFundsModel" "direct" "[I") ∈ WS := ws_in (List.mem_of_getElem? (i := 1086) rfl) rfl
set_option maxRecDepth 100000 in
theorem w1087 : (Jvm.Cond.fieldLink "RestrictedFundsModel" (25 : Nat) "RestrictedFundsModel" "overhead" "[I") ∈ WS := ws_in (List.mem_of_getElem? (i := 1087) rfl) rfl
set_option maxRecDepth 100000 in
theorem w1088 : (Jvm.Cond.fieldLink "RestrictedFundsModel" (93 : Nat) "RestrictedFundsModel" "commitments" "I") ∈ WS := ws_in (List.mem_of_getElem? (i := 1088) rfl) rfl
set_option maxRecDepth 100000 in
theorem w1089 : (Jvm.Cond.fieldLink "RestrictedFundsModel" (28 : Nat) "RestrictedFundsModel" "fundOf" "[I") ∈ WS := ws_in (List.mem_of_getElem? (i := 1089) rfl) rfl
set_option maxRecDepth 100000 in
theorem w1090 : (Jvm.Cond.fieldLink "RestrictedFundsModel" (31 : Nat) "RestrictedFundsModel" "categoryOf" "[I") ∈ WS := ws_in (List.mem_of_getElem? (i := 1090) rfl) rfl
set_option maxRecDepth 100000 in
theorem w1091 : (Jvm.Cond.fieldLink "RestrictedFundsModel" (34 : Nat) "RestrictedFundsModel" "leftOf" "[I") ∈ WS := ws_in (List.mem_of_getElem? (i := 1091) rfl) rfl
set_option maxRecDepth 100000 in
theorem w1092 : (Jvm.Cond.fieldLink "RestrictedFundsModel" (37 : Nat) "RestrictedFundsModel" "untilOf" "[I") ∈ WS := ws_in (List.mem_of_getElem? (i := 1092) rfl) rfl
set_option maxRecDepth 100000 in
theorem w1093 : (Jvm.Cond.fieldLink "RestrictedFundsModel" (96 : Nat) "RestrictedFundsModel" "costs" "I") ∈ WS := ws_in (List.mem_of_getElem? (i := 1093) rfl) rfl
set_option maxRecDepth 100000 in
theorem w1094 : (Jvm.Cond.fieldLink "RestrictedFundsModel" (40 : Nat) "RestrictedFundsModel" "category" "[I") ∈ WS := ws_in (List.mem_of_getElem? (i := 1094) rfl) rfl
set_option maxRecDepth 100000 in
theorem w1095 : (Jvm.Cond.fieldLink "RestrictedFundsModel" (43 : Nat) "RestrictedFundsModel" "day" "[I") ∈ WS := ws_in (List.mem_of_getElem? (i := 1095) rfl) rfl
set_option maxRecDepth 100000 in
theorem w1096 : (Jvm.Cond.fieldLink "RestrictedFundsModel" (46 : Nat) "RestrictedFundsModel" "unpaid" "[I") ∈ WS := ws_in (List.mem_of_getElem? (i := 1096) rfl) rfl
set_option maxRecDepth 100000 in
theorem w1097 : (Jvm.Cond.fieldLink "RestrictedFundsModel" (49 : Nat) "RestrictedFundsModel" "paid" "[I") ∈ WS := ws_in (List.mem_of_getElem? (i := 1097) rfl) rfl
set_option maxRecDepth 100000 in
theorem w1098 : (Jvm.Cond.fieldLink "RestrictedFundsModel" (131 : Nat) "RestrictedFundsModel" "pots" "I") ∈ WS := ws_in (List.mem_of_getElem? (i := 1098) rfl) rfl
set_option maxRecDepth 100000 in
theorem w1099 : (Jvm.Cond.fieldLink "RestrictedFundsModel" (52 : Nat) "RestrictedFundsModel" "potFund" "[I") ∈ WS := ws_in (List.mem_of_getElem? (i := 1099) rfl) rfl
set_option maxRecDepth 100000 in
theorem w1100 : (Jvm.Cond.fieldLink "RestrictedFundsModel" (55 : Nat) "RestrictedFundsModel" "potCommitment" "[I") ∈ WS := ws_in (List.mem_of_getElem? (i := 1100) rfl) rfl
set_option maxRecDepth 100000 in
theorem w1101 : (Jvm.Cond.fieldLink "RestrictedFundsModel" (58 : Nat) "RestrictedFundsModel" "potMoney" "[I") ∈ WS := ws_in (List.mem_of_getElem? (i := 1101) rfl) rfl
set_option maxRecDepth 100000 in
theorem w1102 : (Jvm.Cond.fieldLink "RestrictedFundsModel" (61 : Nat) "RestrictedFundsModel" "potCosts" "[I") ∈ WS := ws_in (List.mem_of_getElem? (i := 1102) rfl) rfl
set_option maxRecDepth 100000 in
theorem w1103 : (Jvm.Cond.fieldLink "RestrictedFundsModel" (64 : Nat) "RestrictedFundsModel" "costPaid" "[I") ∈ WS := ws_in (List.mem_of_getElem? (i := 1103) rfl) rfl
set_option maxRecDepth 100000 in
theorem w1104 : (Jvm.Cond.fieldLink "RestrictedFundsModel" (67 : Nat) "RestrictedFundsModel" "potPays" "[I") ∈ WS := ws_in (List.mem_of_getElem? (i := 1104) rfl) rfl
set_option maxRecDepth 100000 in
theorem w1105 : (Jvm.Cond.fieldLink "RestrictedFundsModel" (70 : Nat) "RestrictedFundsModel" "shares" "[I") ∈ WS := ws_in (List.mem_of_getElem? (i := 1105) rfl) rfl
set_option maxRecDepth 100000 in
theorem w1106 : (Jvm.Cond.fieldLink "RestrictedFundsModel" (73 : Nat) "RestrictedFundsModel" "moneyOf" "[I") ∈ WS := ws_in (List.mem_of_getElem? (i := 1106) rfl) rfl
set_option maxRecDepth 100000 in
theorem w1107 : (Jvm.Cond.fieldLink "RestrictedFundsModel" (76 : Nat) "RestrictedFundsModel" "costsOf" "[I") ∈ WS := ws_in (List.mem_of_getElem? (i := 1107) rfl) rfl
set_option maxRecDepth 100000 in
theorem w1108 : (Jvm.Cond.fieldLink "RestrictedFundsModel" (79 : Nat) "RestrictedFundsModel" "rooms" "[I") ∈ WS := ws_in (List.mem_of_getElem? (i := 1108) rfl) rfl
set_option maxRecDepth 100000 in
theorem w1109 : (Jvm.Cond.fieldLink "RestrictedFundsModel" (82 : Nat) "RestrictedFundsModel" "thrown" "I") ∈ WS := ws_in (List.mem_of_getElem? (i := 1109) rfl) rfl
set_option maxRecDepth 100000 in
theorem w1110 : (Jvm.Cond.lays "RestrictedFundsModel" "RestrictedFundsModel" "today" "I") ∈ WS := ws_in (List.mem_of_getElem? (i := 1110) rfl) rfl
set_option maxRecDepth 100000 in
theorem w1112 : (Jvm.Cond.lays "RestrictedFundsModel" "RestrictedFundsModel" "funds" "I") ∈ WS := ws_in (List.mem_of_getElem? (i := 1112) rfl) rfl
set_option maxRecDepth 100000 in
theorem w1114 : (Jvm.Cond.laysFinal "RestrictedFundsModel" "RestrictedFundsModel" "free" "[I") ∈ WS := ws_in (List.mem_of_getElem? (i := 1114) rfl) rfl
set_option maxRecDepth 100000 in
theorem w1116 : (Jvm.Cond.laysFinal "RestrictedFundsModel" "RestrictedFundsModel" "allowed" "[I") ∈ WS := ws_in (List.mem_of_getElem? (i := 1116) rfl) rfl
set_option maxRecDepth 100000 in
theorem w1118 : (Jvm.Cond.laysFinal "RestrictedFundsModel" "RestrictedFundsModel" "lastDay" "[I") ∈ WS := ws_in (List.mem_of_getElem? (i := 1118) rfl) rfl
set_option maxRecDepth 100000 in
theorem w1120 : (Jvm.Cond.laysFinal "RestrictedFundsModel" "RestrictedFundsModel" "ceiling" "[I") ∈ WS := ws_in (List.mem_of_getElem? (i := 1120) rfl) rfl
set_option maxRecDepth 100000 in
theorem w1122 : (Jvm.Cond.laysFinal "RestrictedFundsModel" "RestrictedFundsModel" "direct" "[I") ∈ WS := ws_in (List.mem_of_getElem? (i := 1122) rfl) rfl
set_option maxRecDepth 100000 in
theorem w1124 : (Jvm.Cond.laysFinal "RestrictedFundsModel" "RestrictedFundsModel" "overhead" "[I") ∈ WS := ws_in (List.mem_of_getElem? (i := 1124) rfl) rfl
set_option maxRecDepth 100000 in
theorem w1126 : (Jvm.Cond.lays "RestrictedFundsModel" "RestrictedFundsModel" "commitments" "I") ∈ WS := ws_in (List.mem_of_getElem? (i := 1126) rfl) rfl
set_option maxRecDepth 100000 in
theorem w1128 : (Jvm.Cond.laysFinal "RestrictedFundsModel" "RestrictedFundsModel" "fundOf" "[I") ∈ WS := ws_in (List.mem_of_getElem? (i := 1128) rfl) rfl
set_option maxRecDepth 100000 in
theorem w1130 : (Jvm.Cond.laysFinal "RestrictedFundsModel" "RestrictedFundsModel" "categoryOf" "[I") ∈ WS := ws_in (List.mem_of_getElem? (i := 1130) rfl) rfl
set_option maxRecDepth 100000 in
theorem w1132 : (Jvm.Cond.laysFinal "RestrictedFundsModel" "RestrictedFundsModel" "leftOf" "[I") ∈ WS := ws_in (List.mem_of_getElem? (i := 1132) rfl) rfl
set_option maxRecDepth 100000 in
theorem w1134 : (Jvm.Cond.laysFinal "RestrictedFundsModel" "RestrictedFundsModel" "untilOf" "[I") ∈ WS := ws_in (List.mem_of_getElem? (i := 1134) rfl) rfl
set_option maxRecDepth 100000 in
theorem w1136 : (Jvm.Cond.lays "RestrictedFundsModel" "RestrictedFundsModel" "costs" "I") ∈ WS := ws_in (List.mem_of_getElem? (i := 1136) rfl) rfl
set_option maxRecDepth 100000 in
theorem w1138 : (Jvm.Cond.laysFinal "RestrictedFundsModel" "RestrictedFundsModel" "category" "[I") ∈ WS := ws_in (List.mem_of_getElem? (i := 1138) rfl) rfl
set_option maxRecDepth 100000 in
theorem w1140 : (Jvm.Cond.laysFinal "RestrictedFundsModel" "RestrictedFundsModel" "day" "[I") ∈ WS := ws_in (List.mem_of_getElem? (i := 1140) rfl) rfl
set_option maxRecDepth 100000 in
theorem w1142 : (Jvm.Cond.laysFinal "RestrictedFundsModel" "RestrictedFundsModel" "unpaid" "[I") ∈ WS := ws_in (List.mem_of_getElem? (i := 1142) rfl) rfl
set_option maxRecDepth 100000 in
theorem w1144 : (Jvm.Cond.laysFinal "RestrictedFundsModel" "RestrictedFundsModel" "paid" "[I") ∈ WS := ws_in (List.mem_of_getElem? (i := 1144) rfl) rfl
set_option maxRecDepth 100000 in
theorem w1146 : (Jvm.Cond.lays "RestrictedFundsModel" "RestrictedFundsModel" "pots" "I") ∈ WS := ws_in (List.mem_of_getElem? (i := 1146) rfl) rfl
set_option maxRecDepth 100000 in
theorem w1148 : (Jvm.Cond.laysFinal "RestrictedFundsModel" "RestrictedFundsModel" "potFund" "[I") ∈ WS := ws_in (List.mem_of_getElem? (i := 1148) rfl) rfl
set_option maxRecDepth 100000 in
theorem w1150 : (Jvm.Cond.laysFinal "RestrictedFundsModel" "RestrictedFundsModel" "potCommitment" "[I") ∈ WS := ws_in (List.mem_of_getElem? (i := 1150) rfl) rfl
set_option maxRecDepth 100000 in
theorem w1152 : (Jvm.Cond.laysFinal "RestrictedFundsModel" "RestrictedFundsModel" "potMoney" "[I") ∈ WS := ws_in (List.mem_of_getElem? (i := 1152) rfl) rfl
set_option maxRecDepth 100000 in
theorem w1154 : (Jvm.Cond.laysFinal "RestrictedFundsModel" "RestrictedFundsModel" "potCosts" "[I") ∈ WS := ws_in (List.mem_of_getElem? (i := 1154) rfl) rfl
set_option maxRecDepth 100000 in
theorem w1156 : (Jvm.Cond.laysFinal "RestrictedFundsModel" "RestrictedFundsModel" "costPaid" "[I") ∈ WS := ws_in (List.mem_of_getElem? (i := 1156) rfl) rfl
set_option maxRecDepth 100000 in
theorem w1158 : (Jvm.Cond.laysFinal "RestrictedFundsModel" "RestrictedFundsModel" "potPays" "[I") ∈ WS := ws_in (List.mem_of_getElem? (i := 1158) rfl) rfl
set_option maxRecDepth 100000 in
theorem w1160 : (Jvm.Cond.laysFinal "RestrictedFundsModel" "RestrictedFundsModel" "shares" "[I") ∈ WS := ws_in (List.mem_of_getElem? (i := 1160) rfl) rfl
set_option maxRecDepth 100000 in
theorem w1162 : (Jvm.Cond.laysFinal "RestrictedFundsModel" "RestrictedFundsModel" "moneyOf" "[I") ∈ WS := ws_in (List.mem_of_getElem? (i := 1162) rfl) rfl
set_option maxRecDepth 100000 in
theorem w1164 : (Jvm.Cond.laysFinal "RestrictedFundsModel" "RestrictedFundsModel" "costsOf" "[I") ∈ WS := ws_in (List.mem_of_getElem? (i := 1164) rfl) rfl
set_option maxRecDepth 100000 in
theorem w1166 : (Jvm.Cond.laysFinal "RestrictedFundsModel" "RestrictedFundsModel" "rooms" "[I") ∈ WS := ws_in (List.mem_of_getElem? (i := 1166) rfl) rfl
set_option maxRecDepth 100000 in
theorem w1168 : (Jvm.Cond.lays "RestrictedFundsModel" "RestrictedFundsModel" "thrown" "I") ∈ WS := ws_in (List.mem_of_getElem? (i := 1168) rfl) rfl
set_option maxRecDepth 100000 in
theorem w1171 : (Jvm.Cond.methodLink "RestrictedFundsLaw" (89 : Nat) ({ cls := "RestrictedFundsModel", name := "thrown", desc := "()I" } : Jvm.MethodName)) ∈ WS := ws_in (List.mem_of_getElem? (i := 1171) rfl) rfl
set_option maxRecDepth 100000 in
theorem w1172 : (Jvm.Cond.instanceMethod ({ cls := "RestrictedFundsModel", name := "thrown", desc := "()I" } : Jvm.MethodName)) ∈ WS := ws_in (List.mem_of_getElem? (i := 1172) rfl) rfl
set_option maxRecDepth 100000 in
theorem w1173 : (Jvm.Cond.selects "RestrictedFundsModel" ({ cls := "RestrictedFundsModel", name := "thrown", desc := "()I" } : Jvm.MethodName) ({ cls := "RestrictedFundsModel", name := "thrown", desc := "()I" } : Jvm.MethodName)) ∈ WS := ws_in (List.mem_of_getElem? (i := 1173) rfl) rfl
set_option maxRecDepth 100000 in
theorem w1174 : (Jvm.Cond.code ({ cls := "RestrictedFundsModel", name := "thrown", desc := "()I" } : Jvm.MethodName) prog_8_method_2_code (1 : Nat) (Option.some Jvm.ClassFile.FieldType.int)) ∈ WS := ws_in (List.mem_of_getElem? (i := 1174) rfl) rfl
set_option maxRecDepth 100000 in
theorem w1175 : (Jvm.Cond.methodLink "RestrictedFundsLaw" (88 : Nat) ({ cls := "RestrictedFundsModel", name := "addFund", desc := "(IIII)I" } : Jvm.MethodName)) ∈ WS := ws_in (List.mem_of_getElem? (i := 1175) rfl) rfl
set_option maxRecDepth 100000 in
theorem w1176 : (Jvm.Cond.instanceMethod ({ cls := "RestrictedFundsModel", name := "addFund", desc := "(IIII)I" } : Jvm.MethodName)) ∈ WS := ws_in (List.mem_of_getElem? (i := 1176) rfl) rfl
set_option maxRecDepth 100000 in
theorem w1177 : (Jvm.Cond.selects "RestrictedFundsModel" ({ cls := "RestrictedFundsModel", name := "addFund", desc := "(IIII)I" } : Jvm.MethodName) ({ cls := "RestrictedFundsModel", name := "addFund", desc := "(IIII)I" } : Jvm.MethodName)) ∈ WS := ws_in (List.mem_of_getElem? (i := 1177) rfl) rfl
set_option maxRecDepth 100000 in
theorem w1178 : (Jvm.Cond.code ({ cls := "RestrictedFundsModel", name := "addFund", desc := "(IIII)I" } : Jvm.MethodName) prog_8_method_10_code (5 : Nat) (Option.some Jvm.ClassFile.FieldType.int)) ∈ WS := ws_in (List.mem_of_getElem? (i := 1178) rfl) rfl
set_option maxRecDepth 100000 in
theorem w1179 : (Jvm.Cond.constantLong "RestrictedFundsModel" (103 : Nat) (99999 : Int64)) ∈ WS := ws_in (List.mem_of_getElem? (i := 1179) rfl) rfl
set_option maxRecDepth 100000 in
theorem w1180 : (Jvm.Cond.methodLink "RestrictedFundsModel" (89 : Nat) ({ cls := "RestrictedFundsModel", name := "in", desc := "(JJJ)Z" } : Jvm.MethodName)) ∈ WS := ws_in (List.mem_of_getElem? (i := 1180) rfl) rfl
set_option maxRecDepth 100000 in
theorem w1181 : (Jvm.Cond.static ({ cls := "RestrictedFundsModel", name := "in", desc := "(JJJ)Z" } : Jvm.MethodName)) ∈ WS := ws_in (List.mem_of_getElem? (i := 1181) rfl) rfl
set_option maxRecDepth 100000 in
theorem w1182 : (Jvm.Cond.code ({ cls := "RestrictedFundsModel", name := "in", desc := "(JJJ)Z" } : Jvm.MethodName) prog_8_method_4_code (6 : Nat) (Option.some Jvm.ClassFile.FieldType.boolean)) ∈ WS := ws_in (List.mem_of_getElem? (i := 1182) rfl) rfl
set_option maxRecDepth 100000 in
theorem w1183 : (Jvm.Cond.constantLong "RestrictedFundsModel" (105 : Nat) (255 : Int64)) ∈ WS := ws_in (List.mem_of_getElem? (i := 1183) rfl) rfl
set_option maxRecDepth 100000 in
theorem w1184 : (Jvm.Cond.constantLong "RestrictedFundsModel" (107 : Nat) (999 : Int64)) ∈ WS := ws_in (List.mem_of_getElem? (i := 1184) rfl) rfl
set_option maxRecDepth 100000 in
theorem w1185 : (Jvm.Cond.constantLong "RestrictedFundsModel" (109 : Nat) (100 : Int64)) ∈ WS := ws_in (List.mem_of_getElem? (i := 1185) rfl) rfl
set_option maxRecDepth 100000 in
theorem w1186 : (Jvm.Cond.methodLink "RestrictedFundsModel" (111 : Nat) ({ cls := "RestrictedFundsModel", name := "fails", desc := "(I)I" } : Jvm.MethodName)) ∈ WS := ws_in (List.mem_of_getElem? (i := 1186) rfl) rfl
set_option maxRecDepth 100000 in
theorem w1188 : (Jvm.Cond.instanceMethod ({ cls := "RestrictedFundsModel", name := "fails", desc := "(I)I" } : Jvm.MethodName)) ∈ WS := ws_in (List.mem_of_getElem? (i := 1188) rfl) rfl
set_option maxRecDepth 100000 in
theorem w1189 : (Jvm.Cond.code ({ cls := "RestrictedFundsModel", name := "fails", desc := "(I)I" } : Jvm.MethodName) prog_8_method_3_code (2 : Nat) (Option.some Jvm.ClassFile.FieldType.int)) ∈ WS := ws_in (List.mem_of_getElem? (i := 1189) rfl) rfl
set_option maxRecDepth 100000 in
theorem w1190 : (Jvm.Cond.methodLink "RestrictedFundsLaw" (96 : Nat) ({ cls := "RestrictedFundsModel", name := "deposit", desc := "(II)I" } : Jvm.MethodName)) ∈ WS := ws_in (List.mem_of_getElem? (i := 1190) rfl) rfl
set_option maxRecDepth 100000 in
theorem w1191 : (Jvm.Cond.instanceMethod ({ cls := "RestrictedFundsModel", name := "deposit", desc := "(II)I" } : Jvm.MethodName)) ∈ WS := ws_in (List.mem_of_getElem? (i := 1191) rfl) rfl
set_option maxRecDepth 100000 in
theorem w1192 : (Jvm.Cond.selects "RestrictedFundsModel" ({ cls := "RestrictedFundsModel", name := "deposit", desc := "(II)I" } : Jvm.MethodName) ({ cls := "RestrictedFundsModel", name := "deposit", desc := "(II)I" } : Jvm.MethodName)) ∈ WS := ws_in (List.mem_of_getElem? (i := 1192) rfl) rfl
set_option maxRecDepth 100000 in
theorem w1193 : (Jvm.Cond.code ({ cls := "RestrictedFundsModel", name := "deposit", desc := "(II)I" } : Jvm.MethodName) prog_8_method_11_code (3 : Nat) (Option.some Jvm.ClassFile.FieldType.int)) ∈ WS := ws_in (List.mem_of_getElem? (i := 1193) rfl) rfl
set_option maxRecDepth 100000 in
theorem w1194 : (Jvm.Cond.methodLink "RestrictedFundsModel" (115 : Nat) ({ cls := "RestrictedFundsModel", name := "isFund", desc := "(I)Z" } : Jvm.MethodName)) ∈ WS := ws_in (List.mem_of_getElem? (i := 1194) rfl) rfl
set_option maxRecDepth 100000 in
theorem w1196 : (Jvm.Cond.instanceMethod ({ cls := "RestrictedFundsModel", name := "isFund", desc := "(I)Z" } : Jvm.MethodName)) ∈ WS := ws_in (List.mem_of_getElem? (i := 1196) rfl) rfl
set_option maxRecDepth 100000 in
theorem w1197 : (Jvm.Cond.code ({ cls := "RestrictedFundsModel", name := "isFund", desc := "(I)Z" } : Jvm.MethodName) prog_8_method_5_code (2 : Nat) (Option.some Jvm.ClassFile.FieldType.boolean)) ∈ WS := ws_in (List.mem_of_getElem? (i := 1197) rfl) rfl
set_option maxRecDepth 100000 in
theorem w1198 : (Jvm.Cond.methodLink "RestrictedFundsLaw" (99 : Nat) ({ cls := "RestrictedFundsModel", name := "commit", desc := "(IIII)I" } : Jvm.MethodName)) ∈ WS := ws_in (List.mem_of_getElem? (i := 1198) rfl) rfl
set_option maxRecDepth 100000 in
theorem w1199 : (Jvm.Cond.instanceMethod ({ cls := "RestrictedFundsModel", name := "commit", desc := "(IIII)I" } : Jvm.MethodName)) ∈ WS := ws_in (List.mem_of_getElem? (i := 1199) rfl) rfl
set_option maxRecDepth 100000 in
theorem w1200 : (Jvm.Cond.selects "RestrictedFundsModel" ({ cls := "RestrictedFundsModel", name := "commit", desc := "(IIII)I" } : Jvm.MethodName) ({ cls := "RestrictedFundsModel", name := "commit", desc := "(IIII)I" } : Jvm.MethodName)) ∈ WS := ws_in (List.mem_of_getElem? (i := 1200) rfl) rfl
set_option maxRecDepth 100000 in
theorem w1201 : (Jvm.Cond.code ({ cls := "RestrictedFundsModel", name := "commit", desc := "(IIII)I" } : Jvm.MethodName) prog_8_method_12_code (5 : Nat) (Option.some Jvm.ClassFile.FieldType.int)) ∈ WS := ws_in (List.mem_of_getElem? (i := 1201) rfl) rfl
set_option maxRecDepth 100000 in
theorem w1202 : (Jvm.Cond.constantLong "RestrictedFundsModel" (119 : Nat) (7 : Int64)) ∈ WS := ws_in (List.mem_of_getElem? (i := 1202) rfl) rfl
set_option maxRecDepth 100000 in
theorem w1203 : (Jvm.Cond.methodLink "RestrictedFundsModel" (99 : Nat) ({ cls := "RestrictedFundsModel", name := "allows", desc := "(II)Z" } : Jvm.MethodName)) ∈ WS := ws_in (List.mem_of_getElem? (i := 1203) rfl) rfl
set_option maxRecDepth 100000 in
theorem w1205 : (Jvm.Cond.instanceMethod ({ cls := "RestrictedFundsModel", name := "allows", desc := "(II)Z" } : Jvm.MethodName)) ∈ WS := ws_in (List.mem_of_getElem? (i := 1205) rfl) rfl
set_option maxRecDepth 100000 in
theorem w1206 : (Jvm.Cond.code ({ cls := "RestrictedFundsModel", name := "allows", desc := "(II)Z" } : Jvm.MethodName) prog_8_method_8_code (3 : Nat) (Option.some Jvm.ClassFile.FieldType.boolean)) ∈ WS := ws_in (List.mem_of_getElem? (i := 1206) rfl) rfl
set_option maxRecDepth 100000 in
theorem w1207 : (Jvm.Cond.methodLink "RestrictedFundsLaw" (103 : Nat) ({ cls := "RestrictedFundsModel", name := "cancel", desc := "(I)I" } : Jvm.MethodName)) ∈ WS := ws_in (List.mem_of_getElem? (i := 1207) rfl) rfl
set_option maxRecDepth 100000 in
theorem w1208 : (Jvm.Cond.instanceMethod ({ cls := "RestrictedFundsModel", name := "cancel", desc := "(I)I" } : Jvm.MethodName)) ∈ WS := ws_in (List.mem_of_getElem? (i := 1208) rfl) rfl
set_option maxRecDepth 100000 in
theorem w1209 : (Jvm.Cond.selects "RestrictedFundsModel" ({ cls := "RestrictedFundsModel", name := "cancel", desc := "(I)I" } : Jvm.MethodName) ({ cls := "RestrictedFundsModel", name := "cancel", desc := "(I)I" } : Jvm.MethodName)) ∈ WS := ws_in (List.mem_of_getElem? (i := 1209) rfl) rfl
set_option maxRecDepth 100000 in
theorem w1210 : (Jvm.Cond.code ({ cls := "RestrictedFundsModel", name := "cancel", desc := "(I)I" } : Jvm.MethodName) prog_8_method_14_code (3 : Nat) (Option.some Jvm.ClassFile.FieldType.int)) ∈ WS := ws_in (List.mem_of_getElem? (i := 1210) rfl) rfl
set_option maxRecDepth 100000 in
theorem w1211 : (Jvm.Cond.methodLink "RestrictedFundsModel" (124 : Nat) ({ cls := "RestrictedFundsModel", name := "isCommitment", desc := "(I)Z" } : Jvm.MethodName)) ∈ WS := ws_in (List.mem_of_getElem? (i := 1211) rfl) rfl
set_option maxRecDepth 100000 in
theorem w1213 : (Jvm.Cond.instanceMethod ({ cls := "RestrictedFundsModel", name := "isCommitment", desc := "(I)Z" } : Jvm.MethodName)) ∈ WS := ws_in (List.mem_of_getElem? (i := 1213) rfl) rfl
set_option maxRecDepth 100000 in
theorem w1214 : (Jvm.Cond.code ({ cls := "RestrictedFundsModel", name := "isCommitment", desc := "(I)Z" } : Jvm.MethodName) prog_8_method_6_code (2 : Nat) (Option.some Jvm.ClassFile.FieldType.boolean)) ∈ WS := ws_in (List.mem_of_getElem? (i := 1214) rfl) rfl
set_option maxRecDepth 100000 in
theorem w1215 : (Jvm.Cond.methodLink "RestrictedFundsModel" (127 : Nat) ({ cls := "RestrictedFundsModel", name := "ends", desc := "(I)V" } : Jvm.MethodName)) ∈ WS := ws_in (List.mem_of_getElem? (i := 1215) rfl) rfl
set_option maxRecDepth 100000 in
theorem w1217 : (Jvm.Cond.instanceMethod ({ cls := "RestrictedFundsModel", name := "ends", desc := "(I)V" } : Jvm.MethodName)) ∈ WS := ws_in (List.mem_of_getElem? (i := 1217) rfl) rfl
set_option maxRecDepth 100000 in
theorem w1218 : (Jvm.Cond.code ({ cls := "RestrictedFundsModel", name := "ends", desc := "(I)V" } : Jvm.MethodName) prog_8_method_13_code (3 : Nat) (Option.none : Option Jvm.ClassFile.FieldType)) ∈ WS := ws_in (List.mem_of_getElem? (i := 1218) rfl) rfl
set_option maxRecDepth 100000 in
theorem w1219 : (Jvm.Cond.methodLink "RestrictedFundsLaw" (106 : Nat) ({ cls := "RestrictedFundsModel", name := "advance", desc := "(I)I" } : Jvm.MethodName)) ∈ WS := ws_in (List.mem_of_getElem? (i := 1219) rfl) rfl
set_option maxRecDepth 100000 in
theorem w1220 : (Jvm.Cond.instanceMethod ({ cls := "RestrictedFundsModel", name := "advance", desc := "(I)I" } : Jvm.MethodName)) ∈ WS := ws_in (List.mem_of_getElem? (i := 1220) rfl) rfl
set_option maxRecDepth 100000 in
theorem w1221 : (Jvm.Cond.selects "RestrictedFundsModel" ({ cls := "RestrictedFundsModel", name := "advance", desc := "(I)I" } : Jvm.MethodName) ({ cls := "RestrictedFundsModel", name := "advance", desc := "(I)I" } : Jvm.MethodName)) ∈ WS := ws_in (List.mem_of_getElem? (i := 1221) rfl) rfl
set_option maxRecDepth 100000 in
theorem w1222 : (Jvm.Cond.code ({ cls := "RestrictedFundsModel", name := "advance", desc := "(I)I" } : Jvm.MethodName) prog_8_method_15_code (4 : Nat) (Option.some Jvm.ClassFile.FieldType.int)) ∈ WS := ws_in (List.mem_of_getElem? (i := 1222) rfl) rfl
set_option maxRecDepth 100000 in
theorem w1223 : (Jvm.Cond.methodLink "RestrictedFundsLaw" (110 : Nat) ({ cls := "RestrictedFundsModel", name := "addCost", desc := "(III)I" } : Jvm.MethodName)) ∈ WS := ws_in (List.mem_of_getElem? (i := 1223) rfl) rfl
set_option maxRecDepth 100000 in
theorem w1224 : (Jvm.Cond.instanceMethod ({ cls := "RestrictedFundsModel", name := "addCost", desc := "(III)I" } : Jvm.MethodName)) ∈ WS := ws_in (List.mem_of_getElem? (i := 1224) rfl) rfl
set_option maxRecDepth 100000 in
theorem w1225 : (Jvm.Cond.selects "RestrictedFundsModel" ({ cls := "RestrictedFundsModel", name := "addCost", desc := "(III)I" } : Jvm.MethodName) ({ cls := "RestrictedFundsModel", name := "addCost", desc := "(III)I" } : Jvm.MethodName)) ∈ WS := ws_in (List.mem_of_getElem? (i := 1225) rfl) rfl
set_option maxRecDepth 100000 in
theorem w1226 : (Jvm.Cond.code ({ cls := "RestrictedFundsModel", name := "addCost", desc := "(III)I" } : Jvm.MethodName) prog_8_method_16_code (4 : Nat) (Option.some Jvm.ClassFile.FieldType.int)) ∈ WS := ws_in (List.mem_of_getElem? (i := 1226) rfl) rfl
set_option maxRecDepth 100000 in
theorem w1227 : (Jvm.Cond.methodLink "RestrictedFundsLaw" (114 : Nat) ({ cls := "RestrictedFundsModel", name := "charge", desc := "()I" } : Jvm.MethodName)) ∈ WS := ws_in (List.mem_of_getElem? (i := 1227) rfl) rfl
set_option maxRecDepth 100000 in
theorem w1228 : (Jvm.Cond.instanceMethod ({ cls := "RestrictedFundsModel", name := "charge", desc := "()I" } : Jvm.MethodName)) ∈ WS := ws_in (List.mem_of_getElem? (i := 1228) rfl) rfl
set_option maxRecDepth 100000 in
theorem w1229 : (Jvm.Cond.selects "RestrictedFundsModel" ({ cls := "RestrictedFundsModel", name := "charge", desc := "()I" } : Jvm.MethodName) ({ cls := "RestrictedFundsModel", name := "charge", desc := "()I" } : Jvm.MethodName)) ∈ WS := ws_in (List.mem_of_getElem? (i := 1229) rfl) rfl
set_option maxRecDepth 100000 in
theorem w1230 : (Jvm.Cond.code ({ cls := "RestrictedFundsModel", name := "charge", desc := "()I" } : Jvm.MethodName) prog_8_method_25_code (6 : Nat) (Option.some Jvm.ClassFile.FieldType.int)) ∈ WS := ws_in (List.mem_of_getElem? (i := 1230) rfl) rfl
set_option maxRecDepth 100000 in
theorem w1231 : (Jvm.Cond.methodLink "RestrictedFundsModel" (161 : Nat) ({ cls := "RestrictedFundsModel", name := "plans", desc := "()V" } : Jvm.MethodName)) ∈ WS := ws_in (List.mem_of_getElem? (i := 1231) rfl) rfl
set_option maxRecDepth 100000 in
theorem w1233 : (Jvm.Cond.instanceMethod ({ cls := "RestrictedFundsModel", name := "plans", desc := "()V" } : Jvm.MethodName)) ∈ WS := ws_in (List.mem_of_getElem? (i := 1233) rfl) rfl
set_option maxRecDepth 100000 in
theorem w1234 : (Jvm.Cond.code ({ cls := "RestrictedFundsModel", name := "plans", desc := "()V" } : Jvm.MethodName) prog_8_method_23_code (4 : Nat) (Option.none : Option Jvm.ClassFile.FieldType)) ∈ WS := ws_in (List.mem_of_getElem? (i := 1234) rfl) rfl
set_option maxRecDepth 100000 in
theorem w1235 : (Jvm.Cond.methodLink "RestrictedFundsModel" (150 : Nat) ({ cls := "RestrictedFundsModel", name := "laysPots", desc := "()V" } : Jvm.MethodName)) ∈ WS := ws_in (List.mem_of_getElem? (i := 1235) rfl) rfl
set_option maxRecDepth 100000 in
theorem w1237 : (Jvm.Cond.instanceMethod ({ cls := "RestrictedFundsModel", name := "laysPots", desc := "()V" } : Jvm.MethodName)) ∈ WS := ws_in (List.mem_of_getElem? (i := 1237) rfl) rfl
set_option maxRecDepth 100000 in
theorem w1238 : (Jvm.Cond.code ({ cls := "RestrictedFundsModel", name := "laysPots", desc := "()V" } : Jvm.MethodName) prog_8_method_19_code (4 : Nat) (Option.none : Option Jvm.ClassFile.FieldType)) ∈ WS := ws_in (List.mem_of_getElem? (i := 1238) rfl) rfl
set_option maxRecDepth 100000 in
theorem w1239 : (Jvm.Cond.methodLink "RestrictedFundsModel" (138 : Nat) ({ cls := "RestrictedFundsModel", name := "addPot", desc := "(II)V" } : Jvm.MethodName)) ∈ WS := ws_in (List.mem_of_getElem? (i := 1239) rfl) rfl
set_option maxRecDepth 100000 in
theorem w1241 : (Jvm.Cond.instanceMethod ({ cls := "RestrictedFundsModel", name := "addPot", desc := "(II)V" } : Jvm.MethodName)) ∈ WS := ws_in (List.mem_of_getElem? (i := 1241) rfl) rfl
set_option maxRecDepth 100000 in
theorem w1242 : (Jvm.Cond.code ({ cls := "RestrictedFundsModel", name := "addPot", desc := "(II)V" } : Jvm.MethodName) prog_8_method_18_code (4 : Nat) (Option.none : Option Jvm.ClassFile.FieldType)) ∈ WS := ws_in (List.mem_of_getElem? (i := 1242) rfl) rfl
set_option maxRecDepth 100000 in
theorem w1243 : (Jvm.Cond.methodLink "RestrictedFundsModel" (134 : Nat) ({ cls := "RestrictedFundsModel", name := "rank", desc := "(II)I" } : Jvm.MethodName)) ∈ WS := ws_in (List.mem_of_getElem? (i := 1243) rfl) rfl
set_option maxRecDepth 100000 in
theorem w1245 : (Jvm.Cond.instanceMethod ({ cls := "RestrictedFundsModel", name := "rank", desc := "(II)I" } : Jvm.MethodName)) ∈ WS := ws_in (List.mem_of_getElem? (i := 1245) rfl) rfl
set_option maxRecDepth 100000 in
theorem w1246 : (Jvm.Cond.code ({ cls := "RestrictedFundsModel", name := "rank", desc := "(II)I" } : Jvm.MethodName) prog_8_method_17_code (3 : Nat) (Option.some Jvm.ClassFile.FieldType.int)) ∈ WS := ws_in (List.mem_of_getElem? (i := 1246) rfl) rfl
set_option maxRecDepth 100000 in
theorem w1247 : (Jvm.Cond.methodLink "RestrictedFundsModel" (142 : Nat) ({ cls := "RestrictedFundsModel", name := "suits", desc := "(II)Z" } : Jvm.MethodName)) ∈ WS := ws_in (List.mem_of_getElem? (i := 1247) rfl) rfl
set_option maxRecDepth 100000 in
theorem w1249 : (Jvm.Cond.instanceMethod ({ cls := "RestrictedFundsModel", name := "suits", desc := "(II)Z" } : Jvm.MethodName)) ∈ WS := ws_in (List.mem_of_getElem? (i := 1249) rfl) rfl
set_option maxRecDepth 100000 in
theorem w1250 : (Jvm.Cond.code ({ cls := "RestrictedFundsModel", name := "suits", desc := "(II)Z" } : Jvm.MethodName) prog_8_method_9_code (3 : Nat) (Option.some Jvm.ClassFile.FieldType.boolean)) ∈ WS := ws_in (List.mem_of_getElem? (i := 1250) rfl) rfl
set_option maxRecDepth 100000 in
theorem w1251 : (Jvm.Cond.methodLink "RestrictedFundsModel" (153 : Nat) ({ cls := "RestrictedFundsModel", name := "laysSets", desc := "([I)V" } : Jvm.MethodName)) ∈ WS := ws_in (List.mem_of_getElem? (i := 1251) rfl) rfl
set_option maxRecDepth 100000 in
theorem w1253 : (Jvm.Cond.instanceMethod ({ cls := "RestrictedFundsModel", name := "laysSets", desc := "([I)V" } : Jvm.MethodName)) ∈ WS := ws_in (List.mem_of_getElem? (i := 1253) rfl) rfl
set_option maxRecDepth 100000 in
theorem w1254 : (Jvm.Cond.code ({ cls := "RestrictedFundsModel", name := "laysSets", desc := "([I)V" } : Jvm.MethodName) prog_8_method_20_code (4 : Nat) (Option.none : Option Jvm.ClassFile.FieldType)) ∈ WS := ws_in (List.mem_of_getElem? (i := 1254) rfl) rfl
set_option maxRecDepth 100000 in
theorem w1255 : (Jvm.Cond.methodLink "RestrictedFundsModel" (157 : Nat) ({ cls := "RestrictedFundsModel", name := "most", desc := "(II[I)I" } : Jvm.MethodName)) ∈ WS := ws_in (List.mem_of_getElem? (i := 1255) rfl) rfl
set_option maxRecDepth 100000 in
theorem w1257 : (Jvm.Cond.instanceMethod ({ cls := "RestrictedFundsModel", name := "most", desc := "(II[I)I" } : Jvm.MethodName)) ∈ WS := ws_in (List.mem_of_getElem? (i := 1257) rfl) rfl
set_option maxRecDepth 100000 in
theorem w1258 : (Jvm.Cond.code ({ cls := "RestrictedFundsModel", name := "most", desc := "(II[I)I" } : Jvm.MethodName) prog_8_method_22_code (8 : Nat) (Option.some Jvm.ClassFile.FieldType.int)) ∈ WS := ws_in (List.mem_of_getElem? (i := 1258) rfl) rfl
set_option maxRecDepth 100000 in
theorem w1259 : (Jvm.Cond.constant "RestrictedFundsModel" (145 : Nat) (2147483647 : Int32)) ∈ WS := ws_in (List.mem_of_getElem? (i := 1259) rfl) rfl
set_option maxRecDepth 100000 in
theorem w1260 : (Jvm.Cond.methodLink "RestrictedFundsModel" (146 : Nat) ({ cls := "RestrictedFundsModel", name := "sum", desc := "(I[I)I" } : Jvm.MethodName)) ∈ WS := ws_in (List.mem_of_getElem? (i := 1260) rfl) rfl
set_option maxRecDepth 100000 in
theorem w1261 : (Jvm.Cond.static ({ cls := "RestrictedFundsModel", name := "sum", desc := "(I[I)I" } : Jvm.MethodName)) ∈ WS := ws_in (List.mem_of_getElem? (i := 1261) rfl) rfl
set_option maxRecDepth 100000 in
theorem w1262 : (Jvm.Cond.code ({ cls := "RestrictedFundsModel", name := "sum", desc := "(I[I)I" } : Jvm.MethodName) prog_8_method_21_code (4 : Nat) (Option.some Jvm.ClassFile.FieldType.int)) ∈ WS := ws_in (List.mem_of_getElem? (i := 1262) rfl) rfl
set_option maxRecDepth 100000 in
theorem w1263 : (Jvm.Cond.methodLink "RestrictedFundsModel" (164 : Nat) ({ cls := "RestrictedFundsModel", name := "parts", desc := "()V" } : Jvm.MethodName)) ∈ WS := ws_in (List.mem_of_getElem? (i := 1263) rfl) rfl
set_option maxRecDepth 100000 in
theorem w1265 : (Jvm.Cond.instanceMethod ({ cls := "RestrictedFundsModel", name := "parts", desc := "()V" } : Jvm.MethodName)) ∈ WS := ws_in (List.mem_of_getElem? (i := 1265) rfl) rfl
set_option maxRecDepth 100000 in
theorem w1266 : (Jvm.Cond.code ({ cls := "RestrictedFundsModel", name := "parts", desc := "()V" } : Jvm.MethodName) prog_8_method_24_code (6 : Nat) (Option.none : Option Jvm.ClassFile.FieldType)) ∈ WS := ws_in (List.mem_of_getElem? (i := 1266) rfl) rfl
set_option maxRecDepth 100000 in
theorem w1267 : (Jvm.Cond.methodLink "RestrictedFundsLaw" (117 : Nat) ({ cls := "RestrictedFundsModel", name := "chargeOverhead", desc := "(I)I" } : Jvm.MethodName)) ∈ WS := ws_in (List.mem_of_getElem? (i := 1267) rfl) rfl
set_option maxRecDepth 100000 in
theorem w1268 : (Jvm.Cond.instanceMethod ({ cls := "RestrictedFundsModel", name := "chargeOverhead", desc := "(I)I" } : Jvm.MethodName)) ∈ WS := ws_in (List.mem_of_getElem? (i := 1268) rfl) rfl
set_option maxRecDepth 100000 in
theorem w1269 : (Jvm.Cond.selects "RestrictedFundsModel" ({ cls := "RestrictedFundsModel", name := "chargeOverhead", desc := "(I)I" } : Jvm.MethodName) ({ cls := "RestrictedFundsModel", name := "chargeOverhead", desc := "(I)I" } : Jvm.MethodName)) ∈ WS := ws_in (List.mem_of_getElem? (i := 1269) rfl) rfl
set_option maxRecDepth 100000 in
theorem w1270 : (Jvm.Cond.code ({ cls := "RestrictedFundsModel", name := "chargeOverhead", desc := "(I)I" } : Jvm.MethodName) prog_8_method_30_code (4 : Nat) (Option.some Jvm.ClassFile.FieldType.int)) ∈ WS := ws_in (List.mem_of_getElem? (i := 1270) rfl) rfl
set_option maxRecDepth 100000 in
theorem w1271 : (Jvm.Cond.methodLink "RestrictedFundsModel" (173 : Nat) ({ cls := "RestrictedFundsModel", name := "round", desc := "(I)I" } : Jvm.MethodName)) ∈ WS := ws_in (List.mem_of_getElem? (i := 1271) rfl) rfl
set_option maxRecDepth 100000 in
theorem w1273 : (Jvm.Cond.instanceMethod ({ cls := "RestrictedFundsModel", name := "round", desc := "(I)I" } : Jvm.MethodName)) ∈ WS := ws_in (List.mem_of_getElem? (i := 1273) rfl) rfl
set_option maxRecDepth 100000 in
theorem w1274 : (Jvm.Cond.code ({ cls := "RestrictedFundsModel", name := "round", desc := "(I)I" } : Jvm.MethodName) prog_8_method_28_code (9 : Nat) (Option.some Jvm.ClassFile.FieldType.int)) ∈ WS := ws_in (List.mem_of_getElem? (i := 1274) rfl) rfl
set_option maxRecDepth 100000 in
theorem w1275 : (Jvm.Cond.methodLink "RestrictedFundsModel" (167 : Nat) ({ cls := "RestrictedFundsModel", name := "room", desc := "(I)I" } : Jvm.MethodName)) ∈ WS := ws_in (List.mem_of_getElem? (i := 1275) rfl) rfl
set_option maxRecDepth 100000 in
theorem w1277 : (Jvm.Cond.instanceMethod ({ cls := "RestrictedFundsModel", name := "room", desc := "(I)I" } : Jvm.MethodName)) ∈ WS := ws_in (List.mem_of_getElem? (i := 1277) rfl) rfl
set_option maxRecDepth 100000 in
theorem w1278 : (Jvm.Cond.code ({ cls := "RestrictedFundsModel", name := "room", desc := "(I)I" } : Jvm.MethodName) prog_8_method_26_code (3 : Nat) (Option.some Jvm.ClassFile.FieldType.int)) ∈ WS := ws_in (List.mem_of_getElem? (i := 1278) rfl) rfl
set_option maxRecDepth 100000 in
theorem w1279 : (Jvm.Cond.methodLink "RestrictedFundsModel" (170 : Nat) ({ cls := "RestrictedFundsModel", name := "gets", desc := "(II)V" } : Jvm.MethodName)) ∈ WS := ws_in (List.mem_of_getElem? (i := 1279) rfl) rfl
set_option maxRecDepth 100000 in
theorem w1281 : (Jvm.Cond.instanceMethod ({ cls := "RestrictedFundsModel", name := "gets", desc := "(II)V" } : Jvm.MethodName)) ∈ WS := ws_in (List.mem_of_getElem? (i := 1281) rfl) rfl
set_option maxRecDepth 100000 in
theorem w1282 : (Jvm.Cond.code ({ cls := "RestrictedFundsModel", name := "gets", desc := "(II)V" } : Jvm.MethodName) prog_8_method_27_code (3 : Nat) (Option.none : Option Jvm.ClassFile.FieldType)) ∈ WS := ws_in (List.mem_of_getElem? (i := 1282) rfl) rfl
set_option maxRecDepth 100000 in
theorem w1283 : (Jvm.Cond.methodLink "RestrictedFundsModel" (176 : Nat) ({ cls := "RestrictedFundsModel", name := "ones", desc := "(I)I" } : Jvm.MethodName)) ∈ WS := ws_in (List.mem_of_getElem? (i := 1283) rfl) rfl
set_option maxRecDepth 100000 in
theorem w1285 : (Jvm.Cond.instanceMethod ({ cls := "RestrictedFundsModel", name := "ones", desc := "(I)I" } : Jvm.MethodName)) ∈ WS := ws_in (List.mem_of_getElem? (i := 1285) rfl) rfl
set_option maxRecDepth 100000 in
theorem w1286 : (Jvm.Cond.code ({ cls := "RestrictedFundsModel", name := "ones", desc := "(I)I" } : Jvm.MethodName) prog_8_method_29_code (4 : Nat) (Option.some Jvm.ClassFile.FieldType.int)) ∈ WS := ws_in (List.mem_of_getElem? (i := 1286) rfl) rfl
set_option maxRecDepth 100000 in
theorem w1287 : (Jvm.Cond.methodLink "RestrictedFundsLaw" (121 : Nat) ({ cls := "RestrictedFundsModel", name := "today", desc := "()I" } : Jvm.MethodName)) ∈ WS := ws_in (List.mem_of_getElem? (i := 1287) rfl) rfl
set_option maxRecDepth 100000 in
theorem w1288 : (Jvm.Cond.instanceMethod ({ cls := "RestrictedFundsModel", name := "today", desc := "()I" } : Jvm.MethodName)) ∈ WS := ws_in (List.mem_of_getElem? (i := 1288) rfl) rfl
set_option maxRecDepth 100000 in
theorem w1289 : (Jvm.Cond.selects "RestrictedFundsModel" ({ cls := "RestrictedFundsModel", name := "today", desc := "()I" } : Jvm.MethodName) ({ cls := "RestrictedFundsModel", name := "today", desc := "()I" } : Jvm.MethodName)) ∈ WS := ws_in (List.mem_of_getElem? (i := 1289) rfl) rfl
set_option maxRecDepth 100000 in
theorem w1290 : (Jvm.Cond.code ({ cls := "RestrictedFundsModel", name := "today", desc := "()I" } : Jvm.MethodName) prog_8_method_31_code (1 : Nat) (Option.some Jvm.ClassFile.FieldType.int)) ∈ WS := ws_in (List.mem_of_getElem? (i := 1290) rfl) rfl
set_option maxRecDepth 100000 in
theorem w1291 : (Jvm.Cond.methodLink "RestrictedFundsLaw" (125 : Nat) ({ cls := "RestrictedFundsModel", name := "funds", desc := "()I" } : Jvm.MethodName)) ∈ WS := ws_in (List.mem_of_getElem? (i := 1291) rfl) rfl
set_option maxRecDepth 100000 in
theorem w1292 : (Jvm.Cond.instanceMethod ({ cls := "RestrictedFundsModel", name := "funds", desc := "()I" } : Jvm.MethodName)) ∈ WS := ws_in (List.mem_of_getElem? (i := 1292) rfl) rfl
set_option maxRecDepth 100000 in
theorem w1293 : (Jvm.Cond.selects "RestrictedFundsModel" ({ cls := "RestrictedFundsModel", name := "funds", desc := "()I" } : Jvm.MethodName) ({ cls := "RestrictedFundsModel", name := "funds", desc := "()I" } : Jvm.MethodName)) ∈ WS := ws_in (List.mem_of_getElem? (i := 1293) rfl) rfl
set_option maxRecDepth 100000 in
theorem w1294 : (Jvm.Cond.code ({ cls := "RestrictedFundsModel", name := "funds", desc := "()I" } : Jvm.MethodName) prog_8_method_32_code (1 : Nat) (Option.some Jvm.ClassFile.FieldType.int)) ∈ WS := ws_in (List.mem_of_getElem? (i := 1294) rfl) rfl
set_option maxRecDepth 100000 in
theorem w1295 : (Jvm.Cond.methodLink "RestrictedFundsLaw" (128 : Nat) ({ cls := "RestrictedFundsModel", name := "freeOf", desc := "(I)I" } : Jvm.MethodName)) ∈ WS := ws_in (List.mem_of_getElem? (i := 1295) rfl) rfl
set_option maxRecDepth 100000 in
theorem w1296 : (Jvm.Cond.instanceMethod ({ cls := "RestrictedFundsModel", name := "freeOf", desc := "(I)I" } : Jvm.MethodName)) ∈ WS := ws_in (List.mem_of_getElem? (i := 1296) rfl) rfl
set_option maxRecDepth 100000 in
theorem w1297 : (Jvm.Cond.selects "RestrictedFundsModel" ({ cls := "RestrictedFundsModel", name := "freeOf", desc := "(I)I" } : Jvm.MethodName) ({ cls := "RestrictedFundsModel", name := "freeOf", desc := "(I)I" } : Jvm.MethodName)) ∈ WS := ws_in (List.mem_of_getElem? (i := 1297) rfl) rfl
set_option maxRecDepth 100000 in
theorem w1298 : (Jvm.Cond.code ({ cls := "RestrictedFundsModel", name := "freeOf", desc := "(I)I" } : Jvm.MethodName) prog_8_method_33_code (2 : Nat) (Option.some Jvm.ClassFile.FieldType.int)) ∈ WS := ws_in (List.mem_of_getElem? (i := 1298) rfl) rfl
set_option maxRecDepth 100000 in
theorem w1299 : (Jvm.Cond.methodLink "RestrictedFundsLaw" (131 : Nat) ({ cls := "RestrictedFundsModel", name := "committedOf", desc := "(I)I" } : Jvm.MethodName)) ∈ WS := ws_in (List.mem_of_getElem? (i := 1299) rfl) rfl
set_option maxRecDepth 100000 in
theorem w1300 : (Jvm.Cond.instanceMethod ({ cls := "RestrictedFundsModel", name := "committedOf", desc := "(I)I" } : Jvm.MethodName)) ∈ WS := ws_in (List.mem_of_getElem? (i := 1300) rfl) rfl
set_option maxRecDepth 100000 in
theorem w1301 : (Jvm.Cond.selects "RestrictedFundsModel" ({ cls := "RestrictedFundsModel", name := "committedOf", desc := "(I)I" } : Jvm.MethodName) ({ cls := "RestrictedFundsModel", name := "committedOf", desc := "(I)I" } : Jvm.MethodName)) ∈ WS := ws_in (List.mem_of_getElem? (i := 1301) rfl) rfl
set_option maxRecDepth 100000 in
theorem w1302 : (Jvm.Cond.code ({ cls := "RestrictedFundsModel", name := "committedOf", desc := "(I)I" } : Jvm.MethodName) prog_8_method_35_code (2 : Nat) (Option.some Jvm.ClassFile.FieldType.int)) ∈ WS := ws_in (List.mem_of_getElem? (i := 1302) rfl) rfl
set_option maxRecDepth 100000 in
theorem w1303 : (Jvm.Cond.methodLink "RestrictedFundsModel" (179 : Nat) ({ cls := "RestrictedFundsModel", name := "committed", desc := "(I)I" } : Jvm.MethodName)) ∈ WS := ws_in (List.mem_of_getElem? (i := 1303) rfl) rfl
set_option maxRecDepth 100000 in
theorem w1305 : (Jvm.Cond.instanceMethod ({ cls := "RestrictedFundsModel", name := "committed", desc := "(I)I" } : Jvm.MethodName)) ∈ WS := ws_in (List.mem_of_getElem? (i := 1305) rfl) rfl
set_option maxRecDepth 100000 in
theorem w1306 : (Jvm.Cond.code ({ cls := "RestrictedFundsModel", name := "committed", desc := "(I)I" } : Jvm.MethodName) prog_8_method_34_code (4 : Nat) (Option.some Jvm.ClassFile.FieldType.int)) ∈ WS := ws_in (List.mem_of_getElem? (i := 1306) rfl) rfl
set_option maxRecDepth 100000 in
theorem w1307 : (Jvm.Cond.methodLink "RestrictedFundsLaw" (134 : Nat) ({ cls := "RestrictedFundsModel", name := "directOf", desc := "(I)I" } : Jvm.MethodName)) ∈ WS := ws_in (List.mem_of_getElem? (i := 1307) rfl) rfl
set_option maxRecDepth 100000 in
theorem w1308 : (Jvm.Cond.instanceMethod ({ cls := "RestrictedFundsModel", name := "directOf", desc := "(I)I" } : Jvm.MethodName)) ∈ WS := ws_in (List.mem_of_getElem? (i := 1308) rfl) rfl
set_option maxRecDepth 100000 in
theorem w1309 : (Jvm.Cond.selects "RestrictedFundsModel" ({ cls := "RestrictedFundsModel", name := "directOf", desc := "(I)I" } : Jvm.MethodName) ({ cls := "RestrictedFundsModel", name := "directOf", desc := "(I)I" } : Jvm.MethodName)) ∈ WS := ws_in (List.mem_of_getElem? (i := 1309) rfl) rfl
set_option maxRecDepth 100000 in
theorem w1310 : (Jvm.Cond.code ({ cls := "RestrictedFundsModel", name := "directOf", desc := "(I)I" } : Jvm.MethodName) prog_8_method_36_code (2 : Nat) (Option.some Jvm.ClassFile.FieldType.int)) ∈ WS := ws_in (List.mem_of_getElem? (i := 1310) rfl) rfl
set_option maxRecDepth 100000 in
theorem w1311 : (Jvm.Cond.methodLink "RestrictedFundsLaw" (137 : Nat) ({ cls := "RestrictedFundsModel", name := "overheadOf", desc := "(I)I" } : Jvm.MethodName)) ∈ WS := ws_in (List.mem_of_getElem? (i := 1311) rfl) rfl
set_option maxRecDepth 100000 in
theorem w1312 : (Jvm.Cond.instanceMethod ({ cls := "RestrictedFundsModel", name := "overheadOf", desc := "(I)I" } : Jvm.MethodName)) ∈ WS := ws_in (List.mem_of_getElem? (i := 1312) rfl) rfl
set_option maxRecDepth 100000 in
theorem w1313 : (Jvm.Cond.selects "RestrictedFundsModel" ({ cls := "RestrictedFundsModel", name := "overheadOf", desc := "(I)I" } : Jvm.MethodName) ({ cls := "RestrictedFundsModel", name := "overheadOf", desc := "(I)I" } : Jvm.MethodName)) ∈ WS := ws_in (List.mem_of_getElem? (i := 1313) rfl) rfl
set_option maxRecDepth 100000 in
theorem w1314 : (Jvm.Cond.code ({ cls := "RestrictedFundsModel", name := "overheadOf", desc := "(I)I" } : Jvm.MethodName) prog_8_method_37_code (2 : Nat) (Option.some Jvm.ClassFile.FieldType.int)) ∈ WS := ws_in (List.mem_of_getElem? (i := 1314) rfl) rfl
set_option maxRecDepth 100000 in
theorem w1315 : (Jvm.Cond.methodLink "RestrictedFundsLaw" (140 : Nat) ({ cls := "RestrictedFundsModel", name := "roomOf", desc := "(I)I" } : Jvm.MethodName)) ∈ WS := ws_in (List.mem_of_getElem? (i := 1315) rfl) rfl
set_option maxRecDepth 100000 in
theorem w1316 : (Jvm.Cond.instanceMethod ({ cls := "RestrictedFundsModel", name := "roomOf", desc := "(I)I" } : Jvm.MethodName)) ∈ WS := ws_in (List.mem_of_getElem? (i := 1316) rfl) rfl
set_option maxRecDepth 100000 in
theorem w1317 : (Jvm.Cond.selects "RestrictedFundsModel" ({ cls := "RestrictedFundsModel", name := "roomOf", desc := "(I)I" } : Jvm.MethodName) ({ cls := "RestrictedFundsModel", name := "roomOf", desc := "(I)I" } : Jvm.MethodName)) ∈ WS := ws_in (List.mem_of_getElem? (i := 1317) rfl) rfl
set_option maxRecDepth 100000 in
theorem w1318 : (Jvm.Cond.code ({ cls := "RestrictedFundsModel", name := "roomOf", desc := "(I)I" } : Jvm.MethodName) prog_8_method_38_code (2 : Nat) (Option.some Jvm.ClassFile.FieldType.int)) ∈ WS := ws_in (List.mem_of_getElem? (i := 1318) rfl) rfl
set_option maxRecDepth 100000 in
theorem w1319 : (Jvm.Cond.methodLink "RestrictedFundsLaw" (144 : Nat) ({ cls := "RestrictedFundsModel", name := "commitments", desc := "()I" } : Jvm.MethodName)) ∈ WS := ws_in (List.mem_of_getElem? (i := 1319) rfl) rfl
set_option maxRecDepth 100000 in
theorem w1320 : (Jvm.Cond.instanceMethod ({ cls := "RestrictedFundsModel", name := "commitments", desc := "()I" } : Jvm.MethodName)) ∈ WS := ws_in (List.mem_of_getElem? (i := 1320) rfl) rfl
set_option maxRecDepth 100000 in
theorem w1321 : (Jvm.Cond.selects "RestrictedFundsModel" ({ cls := "RestrictedFundsModel", name := "commitments", desc := "()I" } : Jvm.MethodName) ({ cls := "RestrictedFundsModel", name := "commitments", desc := "()I" } : Jvm.MethodName)) ∈ WS := ws_in (List.mem_of_getElem? (i := 1321) rfl) rfl
set_option maxRecDepth 100000 in
theorem w1322 : (Jvm.Cond.code ({ cls := "RestrictedFundsModel", name := "commitments", desc := "()I" } : Jvm.MethodName) prog_8_method_39_code (1 : Nat) (Option.some Jvm.ClassFile.FieldType.int)) ∈ WS := ws_in (List.mem_of_getElem? (i := 1322) rfl) rfl
set_option maxRecDepth 100000 in
theorem w1323 : (Jvm.Cond.methodLink "RestrictedFundsLaw" (147 : Nat) ({ cls := "RestrictedFundsModel", name := "fundOf", desc := "(I)I" } : Jvm.MethodName)) ∈ WS := ws_in (List.mem_of_getElem? (i := 1323) rfl) rfl
set_option maxRecDepth 100000 in
theorem w1324 : (Jvm.Cond.instanceMethod ({ cls := "RestrictedFundsModel", name := "fundOf", desc := "(I)I" } : Jvm.MethodName)) ∈ WS := ws_in (List.mem_of_getElem? (i := 1324) rfl) rfl
set_option maxRecDepth 100000 in
theorem w1325 : (Jvm.Cond.selects "RestrictedFundsModel" ({ cls := "RestrictedFundsModel", name := "fundOf", desc := "(I)I" } : Jvm.MethodName) ({ cls := "RestrictedFundsModel", name := "fundOf", desc := "(I)I" } : Jvm.MethodName)) ∈ WS := ws_in (List.mem_of_getElem? (i := 1325) rfl) rfl
set_option maxRecDepth 100000 in
theorem w1326 : (Jvm.Cond.code ({ cls := "RestrictedFundsModel", name := "fundOf", desc := "(I)I" } : Jvm.MethodName) prog_8_method_40_code (2 : Nat) (Option.some Jvm.ClassFile.FieldType.int)) ∈ WS := ws_in (List.mem_of_getElem? (i := 1326) rfl) rfl
set_option maxRecDepth 100000 in
theorem w1327 : (Jvm.Cond.methodLink "RestrictedFundsLaw" (150 : Nat) ({ cls := "RestrictedFundsModel", name := "leftOf", desc := "(I)I" } : Jvm.MethodName)) ∈ WS := ws_in (List.mem_of_getElem? (i := 1327) rfl) rfl
set_option maxRecDepth 100000 in
theorem w1328 : (Jvm.Cond.instanceMethod ({ cls := "RestrictedFundsModel", name := "leftOf", desc := "(I)I" } : Jvm.MethodName)) ∈ WS := ws_in (List.mem_of_getElem? (i := 1328) rfl) rfl
set_option maxRecDepth 100000 in
theorem w1329 : (Jvm.Cond.selects "RestrictedFundsModel" ({ cls := "RestrictedFundsModel", name := "leftOf", desc := "(I)I" } : Jvm.MethodName) ({ cls := "RestrictedFundsModel", name := "leftOf", desc := "(I)I" } : Jvm.MethodName)) ∈ WS := ws_in (List.mem_of_getElem? (i := 1329) rfl) rfl
set_option maxRecDepth 100000 in
theorem w1330 : (Jvm.Cond.code ({ cls := "RestrictedFundsModel", name := "leftOf", desc := "(I)I" } : Jvm.MethodName) prog_8_method_41_code (2 : Nat) (Option.some Jvm.ClassFile.FieldType.int)) ∈ WS := ws_in (List.mem_of_getElem? (i := 1330) rfl) rfl
set_option maxRecDepth 100000 in
theorem w1331 : (Jvm.Cond.methodLink "RestrictedFundsLaw" (153 : Nat) ({ cls := "RestrictedFundsModel", name := "untilOf", desc := "(I)I" } : Jvm.MethodName)) ∈ WS := ws_in (List.mem_of_getElem? (i := 1331) rfl) rfl
set_option maxRecDepth 100000 in
theorem w1332 : (Jvm.Cond.instanceMethod ({ cls := "RestrictedFundsModel", name := "untilOf", desc := "(I)I" } : Jvm.MethodName)) ∈ WS := ws_in (List.mem_of_getElem? (i := 1332) rfl) rfl
set_option maxRecDepth 100000 in
theorem w1333 : (Jvm.Cond.selects "RestrictedFundsModel" ({ cls := "RestrictedFundsModel", name := "untilOf", desc := "(I)I" } : Jvm.MethodName) ({ cls := "RestrictedFundsModel", name := "untilOf", desc := "(I)I" } : Jvm.MethodName)) ∈ WS := ws_in (List.mem_of_getElem? (i := 1333) rfl) rfl
set_option maxRecDepth 100000 in
theorem w1334 : (Jvm.Cond.code ({ cls := "RestrictedFundsModel", name := "untilOf", desc := "(I)I" } : Jvm.MethodName) prog_8_method_42_code (2 : Nat) (Option.some Jvm.ClassFile.FieldType.int)) ∈ WS := ws_in (List.mem_of_getElem? (i := 1334) rfl) rfl
set_option maxRecDepth 100000 in
theorem w1335 : (Jvm.Cond.methodLink "RestrictedFundsLaw" (157 : Nat) ({ cls := "RestrictedFundsModel", name := "costs", desc := "()I" } : Jvm.MethodName)) ∈ WS := ws_in (List.mem_of_getElem? (i := 1335) rfl) rfl
set_option maxRecDepth 100000 in
theorem w1336 : (Jvm.Cond.instanceMethod ({ cls := "RestrictedFundsModel", name := "costs", desc := "()I" } : Jvm.MethodName)) ∈ WS := ws_in (List.mem_of_getElem? (i := 1336) rfl) rfl
set_option maxRecDepth 100000 in
theorem w1337 : (Jvm.Cond.selects "RestrictedFundsModel" ({ cls := "RestrictedFundsModel", name := "costs", desc := "()I" } : Jvm.MethodName) ({ cls := "RestrictedFundsModel", name := "costs", desc := "()I" } : Jvm.MethodName)) ∈ WS := ws_in (List.mem_of_getElem? (i := 1337) rfl) rfl
set_option maxRecDepth 100000 in
theorem w1338 : (Jvm.Cond.code ({ cls := "RestrictedFundsModel", name := "costs", desc := "()I" } : Jvm.MethodName) prog_8_method_43_code (1 : Nat) (Option.some Jvm.ClassFile.FieldType.int)) ∈ WS := ws_in (List.mem_of_getElem? (i := 1338) rfl) rfl
set_option maxRecDepth 100000 in
theorem w1339 : (Jvm.Cond.methodLink "RestrictedFundsLaw" (160 : Nat) ({ cls := "RestrictedFundsModel", name := "unpaidOf", desc := "(I)I" } : Jvm.MethodName)) ∈ WS := ws_in (List.mem_of_getElem? (i := 1339) rfl) rfl
set_option maxRecDepth 100000 in
theorem w1340 : (Jvm.Cond.instanceMethod ({ cls := "RestrictedFundsModel", name := "unpaidOf", desc := "(I)I" } : Jvm.MethodName)) ∈ WS := ws_in (List.mem_of_getElem? (i := 1340) rfl) rfl
set_option maxRecDepth 100000 in
theorem w1341 : (Jvm.Cond.selects "RestrictedFundsModel" ({ cls := "RestrictedFundsModel", name := "unpaidOf", desc := "(I)I" } : Jvm.MethodName) ({ cls := "RestrictedFundsModel", name := "unpaidOf", desc := "(I)I" } : Jvm.MethodName)) ∈ WS := ws_in (List.mem_of_getElem? (i := 1341) rfl) rfl
set_option maxRecDepth 100000 in
theorem w1342 : (Jvm.Cond.code ({ cls := "RestrictedFundsModel", name := "unpaidOf", desc := "(I)I" } : Jvm.MethodName) prog_8_method_44_code (2 : Nat) (Option.some Jvm.ClassFile.FieldType.int)) ∈ WS := ws_in (List.mem_of_getElem? (i := 1342) rfl) rfl
set_option maxRecDepth 100000 in
theorem w1343 : (Jvm.Cond.methodLink "RestrictedFundsModel" (182 : Nat) ({ cls := "RestrictedFundsModel", name := "isCost", desc := "(I)Z" } : Jvm.MethodName)) ∈ WS := ws_in (List.mem_of_getElem? (i := 1343) rfl) rfl
set_option maxRecDepth 100000 in
theorem w1345 : (Jvm.Cond.instanceMethod ({ cls := "RestrictedFundsModel", name := "isCost", desc := "(I)Z" } : Jvm.MethodName)) ∈ WS := ws_in (List.mem_of_getElem? (i := 1345) rfl) rfl
set_option maxRecDepth 100000 in
theorem w1346 : (Jvm.Cond.code ({ cls := "RestrictedFundsModel", name := "isCost", desc := "(I)Z" } : Jvm.MethodName) prog_8_method_7_code (2 : Nat) (Option.some Jvm.ClassFile.FieldType.boolean)) ∈ WS := ws_in (List.mem_of_getElem? (i := 1346) rfl) rfl
set_option maxRecDepth 100000 in
theorem w1347 : (Jvm.Cond.methodLink "RestrictedFundsLaw" (163 : Nat) ({ cls := "RestrictedFundsModel", name := "paidBy", desc := "(II)I" } : Jvm.MethodName)) ∈ WS := ws_in (List.mem_of_getElem? (i := 1347) rfl) rfl
set_option maxRecDepth 100000 in
theorem w1348 : (Jvm.Cond.instanceMethod ({ cls := "RestrictedFundsModel", name := "paidBy", desc := "(II)I" } : Jvm.MethodName)) ∈ WS := ws_in (List.mem_of_getElem? (i := 1348) rfl) rfl
set_option maxRecDepth 100000 in
theorem w1349 : (Jvm.Cond.selects "RestrictedFundsModel" ({ cls := "RestrictedFundsModel", name := "paidBy", desc := "(II)I" } : Jvm.MethodName) ({ cls := "RestrictedFundsModel", name := "paidBy", desc := "(II)I" } : Jvm.MethodName)) ∈ WS := ws_in (List.mem_of_getElem? (i := 1349) rfl) rfl
set_option maxRecDepth 100000 in
theorem w1350 : (Jvm.Cond.code ({ cls := "RestrictedFundsModel", name := "paidBy", desc := "(II)I" } : Jvm.MethodName) prog_8_method_45_code (3 : Nat) (Option.some Jvm.ClassFile.FieldType.int)) ∈ WS := ws_in (List.mem_of_getElem? (i := 1350) rfl) rfl
set_option maxRecDepth 100000 in
theorem w1351 : (Jvm.Cond.methodLink "RestrictedFundsLaw" (167 : Nat) ({ cls := "RestrictedFundsModel", name := "payable", desc := "()I" } : Jvm.MethodName)) ∈ WS := ws_in (List.mem_of_getElem? (i := 1351) rfl) rfl
set_option maxRecDepth 100000 in
theorem w1352 : (Jvm.Cond.instanceMethod ({ cls := "RestrictedFundsModel", name := "payable", desc := "()I" } : Jvm.MethodName)) ∈ WS := ws_in (List.mem_of_getElem? (i := 1352) rfl) rfl
set_option maxRecDepth 100000 in
theorem w1353 : (Jvm.Cond.selects "RestrictedFundsModel" ({ cls := "RestrictedFundsModel", name := "payable", desc := "()I" } : Jvm.MethodName) ({ cls := "RestrictedFundsModel", name := "payable", desc := "()I" } : Jvm.MethodName)) ∈ WS := ws_in (List.mem_of_getElem? (i := 1353) rfl) rfl
set_option maxRecDepth 100000 in
theorem w1354 : (Jvm.Cond.code ({ cls := "RestrictedFundsModel", name := "payable", desc := "()I" } : Jvm.MethodName) prog_8_method_46_code (1 : Nat) (Option.some Jvm.ClassFile.FieldType.int)) ∈ WS := ws_in (List.mem_of_getElem? (i := 1354) rfl) rfl
set_option maxRecDepth 100000 in
theorem w1355 : (Jvm.Cond.methodLink "RestrictedFundsLaw" (170 : Nat) ({ cls := "RestrictedFundsModel", name := "wouldPay", desc := "(I)I" } : Jvm.MethodName)) ∈ WS := ws_in (List.mem_of_getElem? (i := 1355) rfl) rfl
set_option maxRecDepth 100000 in
theorem w1356 : (Jvm.Cond.instanceMethod ({ cls := "RestrictedFundsModel", name := "wouldPay", desc := "(I)I" } : Jvm.MethodName)) ∈ WS := ws_in (List.mem_of_getElem? (i := 1356) rfl) rfl
set_option maxRecDepth 100000 in
theorem w1357 : (Jvm.Cond.selects "RestrictedFundsModel" ({ cls := "RestrictedFundsModel", name := "wouldPay", desc := "(I)I" } : Jvm.MethodName) ({ cls := "RestrictedFundsModel", name := "wouldPay", desc := "(I)I" } : Jvm.MethodName)) ∈ WS := ws_in (List.mem_of_getElem? (i := 1357) rfl) rfl
set_option maxRecDepth 100000 in
theorem w1358 : (Jvm.Cond.code ({ cls := "RestrictedFundsModel", name := "wouldPay", desc := "(I)I" } : Jvm.MethodName) prog_8_method_47_code (2 : Nat) (Option.some Jvm.ClassFile.FieldType.int)) ∈ WS := ws_in (List.mem_of_getElem? (i := 1358) rfl) rfl
set_option maxRecDepth 100000 in
theorem w1359 : (Jvm.Cond.methodLink "RestrictedFundsLaw" (173 : Nat) ({ cls := "RestrictedFundsModel", name := "wouldTake", desc := "(I)I" } : Jvm.MethodName)) ∈ WS := ws_in (List.mem_of_getElem? (i := 1359) rfl) rfl
set_option maxRecDepth 100000 in
theorem w1360 : (Jvm.Cond.instanceMethod ({ cls := "RestrictedFundsModel", name := "wouldTake", desc := "(I)I" } : Jvm.MethodName)) ∈ WS := ws_in (List.mem_of_getElem? (i := 1360) rfl) rfl
set_option maxRecDepth 100000 in
theorem w1361 : (Jvm.Cond.selects "RestrictedFundsModel" ({ cls := "RestrictedFundsModel", name := "wouldTake", desc := "(I)I" } : Jvm.MethodName) ({ cls := "RestrictedFundsModel", name := "wouldTake", desc := "(I)I" } : Jvm.MethodName)) ∈ WS := ws_in (List.mem_of_getElem? (i := 1361) rfl) rfl
set_option maxRecDepth 100000 in
theorem w1362 : (Jvm.Cond.code ({ cls := "RestrictedFundsModel", name := "wouldTake", desc := "(I)I" } : Jvm.MethodName) prog_8_method_48_code (4 : Nat) (Option.some Jvm.ClassFile.FieldType.int)) ∈ WS := ws_in (List.mem_of_getElem? (i := 1362) rfl) rfl
set_option maxRecDepth 100000 in
theorem w1363 : (Jvm.Cond.methodLink "RestrictedFundsLaw" (176 : Nat) ({ cls := "RestrictedFundsModel", name := "reason", desc := "(I)I" } : Jvm.MethodName)) ∈ WS := ws_in (List.mem_of_getElem? (i := 1363) rfl) rfl
set_option maxRecDepth 100000 in
theorem w1364 : (Jvm.Cond.instanceMethod ({ cls := "RestrictedFundsModel", name := "reason", desc := "(I)I" } : Jvm.MethodName)) ∈ WS := ws_in (List.mem_of_getElem? (i := 1364) rfl) rfl
set_option maxRecDepth 100000 in
theorem w1365 : (Jvm.Cond.selects "RestrictedFundsModel" ({ cls := "RestrictedFundsModel", name := "reason", desc := "(I)I" } : Jvm.MethodName) ({ cls := "RestrictedFundsModel", name := "reason", desc := "(I)I" } : Jvm.MethodName)) ∈ WS := ws_in (List.mem_of_getElem? (i := 1365) rfl) rfl
set_option maxRecDepth 100000 in
theorem w1366 : (Jvm.Cond.code ({ cls := "RestrictedFundsModel", name := "reason", desc := "(I)I" } : Jvm.MethodName) prog_8_method_49_code (7 : Nat) (Option.some Jvm.ClassFile.FieldType.int)) ∈ WS := ws_in (List.mem_of_getElem? (i := 1366) rfl) rfl
set_option maxRecDepth 100000 in
theorem w1367 : (Jvm.Cond.arrayClass Jvm.ClassFile.FieldType.long) ∈ WS := ws_in (List.mem_of_getElem? (i := 1367) rfl) rfl
set_option maxRecDepth 100000 in
theorem w1368 : (Jvm.Cond.sameMethod "java/lang/Throwable" "java/lang/Throwable" "fillInStackTrace" "(I)Ljava/lang/Throwable;") ∈ WS := ws_in (List.mem_of_getElem? (i := 1368) rfl) rfl
set_option maxRecDepth 100000 in
theorem w1369 : (Jvm.Cond.sameMethod "java/lang/AbstractStringBuilder" "java/lang/AbstractStringBuilder" "append" "(Ljava/lang/String;)Ljava/lang/AbstractStringBuilder;") ∈ WS := ws_in (List.mem_of_getElem? (i := 1369) rfl) rfl
set_option maxRecDepth 100000 in
theorem w1370 : (Jvm.Cond.sameMethod "java/lang/AbstractStringBuilder" "java/lang/AbstractStringBuilder" "appendNull" "()Ljava/lang/AbstractStringBuilder;") ∈ WS := ws_in (List.mem_of_getElem? (i := 1370) rfl) rfl
set_option maxRecDepth 100000 in
theorem w1371 : (Jvm.Cond.sameMethod "java/lang/AbstractStringBuilder" "java/lang/AbstractStringBuilder" "ensureCapacityInternal" "(I)V") ∈ WS := ws_in (List.mem_of_getElem? (i := 1371) rfl) rfl
set_option maxRecDepth 100000 in
theorem w1372 : (Jvm.Cond.sameMethod "java/lang/AbstractStringBuilder" "java/lang/AbstractStringBuilder" "newCapacity" "(I)I") ∈ WS := ws_in (List.mem_of_getElem? (i := 1372) rfl) rfl
set_option maxRecDepth 100000 in
theorem w1373 : (Jvm.Cond.sameMethod "java/lang/AbstractStringBuilder" "java/lang/AbstractStringBuilder" "putStringAt" "(ILjava/lang/String;)V") ∈ WS := ws_in (List.mem_of_getElem? (i := 1373) rfl) rfl
set_option maxRecDepth 100000 in
theorem w1374 : (Jvm.Cond.sameMethod "java/lang/AbstractStringBuilder" "java/lang/AbstractStringBuilder" "inflateIfNeededFor" "(Ljava/lang/String;)V") ∈ WS := ws_in (List.mem_of_getElem? (i := 1374) rfl) rfl
set_option maxRecDepth 100000 in
theorem w1375 : (Jvm.Cond.sameMethod "java/lang/AbstractStringBuilder" "java/lang/AbstractStringBuilder" "inflate" "()V") ∈ WS := ws_in (List.mem_of_getElem? (i := 1375) rfl) rfl
set_option maxRecDepth 100000 in
theorem w1376 : (Jvm.Cond.sameMethod "java/lang/AbstractStringBuilder" "java/lang/AbstractStringBuilder" "append" "(I)Ljava/lang/AbstractStringBuilder;") ∈ WS := ws_in (List.mem_of_getElem? (i := 1376) rfl) rfl
set_option maxRecDepth 100000 in
theorem w1377 : (Jvm.Cond.selects "RestrictedFunds$Commitment" ({ cls := "RestrictedFunds$Commitment", name := "owner", desc := "()LRestrictedFunds$Fund;" } : Jvm.MethodName) ({ cls := "RestrictedFunds$Commitment", name := "owner", desc := "()LRestrictedFunds$Fund;" } : Jvm.MethodName)) ∈ WS := ws_in (List.mem_of_getElem? (i := 1377) rfl) rfl
set_option maxRecDepth 100000 in
theorem w1378 : (Jvm.Cond.selects "RestrictedFunds$Commitment" ({ cls := "RestrictedFunds$Commitment", name := "expiry", desc := "()I" } : Jvm.MethodName) ({ cls := "RestrictedFunds$Commitment", name := "expiry", desc := "()I" } : Jvm.MethodName)) ∈ WS := ws_in (List.mem_of_getElem? (i := 1378) rfl) rfl
set_option maxRecDepth 100000 in
theorem w1394 : (Jvm.Cond.sameMethod "[Ljava/lang/Object;" "java/lang/Object" "getClass" "()Ljava/lang/Class;") ∈ WS := ws_in (List.mem_of_getElem? (i := 1394) rfl) rfl
set_option maxRecDepth 100000 in
theorem w1395 : (Jvm.Cond.selects "[Ljava/lang/Object;" ({ cls := "java/lang/Object", name := "getClass", desc := "()Ljava/lang/Class;" } : Jvm.MethodName) ({ cls := "java/lang/Object", name := "getClass", desc := "()Ljava/lang/Class;" } : Jvm.MethodName)) ∈ WS := ws_in (List.mem_of_getElem? (i := 1395) rfl) rfl
theorem in_J0 : ∀ w ∈ u_ws RJ0 TJ0 4, w ∈ WS := by
  intro w hw
  obtain ⟨k, hk, rfl⟩ := List.mem_map.mp hw
  have hk := List.mem_range.mp hk
  match k, hk with
  | 0, _ => exact w497
  | 1, _ => exact w499
  | 2, _ => exact w501
  | 3, _ => exact w503
  | k + 4, h => exact absurd h (by omega)
theorem in_J4 : ∀ w ∈ u_ws RJ4 TJ4 4, w ∈ WS := by
  intro w hw
  obtain ⟨k, hk, rfl⟩ := List.mem_map.mp hw
  have hk := List.mem_range.mp hk
  match k, hk with
  | 0, _ => exact w249
  | 1, _ => exact w251
  | 2, _ => exact w253
  | 3, _ => exact w255
  | k + 4, h => exact absurd h (by omega)
theorem in_Jx4a65c : ∀ w ∈ u_ws RJx4a65c TJx4a65c 3, w ∈ WS := by
  intro w hw
  obtain ⟨k, hk, rfl⟩ := List.mem_map.mp hw
  have hk := List.mem_range.mp hk
  match k, hk with
  | 0, _ => exact w61
  | 1, _ => exact w57
  | 2, _ => exact w59
  | k + 3, h => exact absurd h (by omega)
theorem in_X0 : ∀ w ∈ u_ws RX0 TX0 4, w ∈ WS := by
  intro w hw
  obtain ⟨k, hk, rfl⟩ := List.mem_map.mp hw
  have hk := List.mem_range.mp hk
  match k, hk with
  | 0, _ => exact w867
  | 1, _ => exact w861
  | 2, _ => exact w863
  | 3, _ => exact w865
  | k + 4, h => exact absurd h (by omega)
theorem in_X1 : ∀ w ∈ u_ws RX1 TX1 4, w ∈ WS := by
  intro w hw
  obtain ⟨k, hk, rfl⟩ := List.mem_map.mp hw
  have hk := List.mem_range.mp hk
  match k, hk with
  | 0, _ => exact w914
  | 1, _ => exact w916
  | 2, _ => exact w918
  | 3, _ => exact w920
  | k + 4, h => exact absurd h (by omega)
theorem in_X2 : ∀ w ∈ u_ws RX2 TX2 7, w ∈ WS := by
  intro w hw
  obtain ⟨k, hk, rfl⟩ := List.mem_map.mp hw
  have hk := List.mem_range.mp hk
  match k, hk with
  | 0, _ => exact w819
  | 1, _ => exact w807
  | 2, _ => exact w809
  | 3, _ => exact w811
  | 4, _ => exact w813
  | 5, _ => exact w815
  | 6, _ => exact w817
  | k + 7, h => exact absurd h (by omega)
theorem in_X3 : ∀ w ∈ u_ws RX3 TX3 11, w ∈ WS := by
  intro w hw
  obtain ⟨k, hk, rfl⟩ := List.mem_map.mp hw
  have hk := List.mem_range.mp hk
  match k, hk with
  | 0, _ => exact w83
  | 1, _ => exact w85
  | 2, _ => exact w87
  | 3, _ => exact w89
  | 4, _ => exact w91
  | 5, _ => exact w93
  | 6, _ => exact w95
  | 7, _ => exact w97
  | 8, _ => exact w99
  | 9, _ => exact w101
  | 10, _ => exact w103
  | k + 11, h => exact absurd h (by omega)
theorem in_X5 : ∀ w ∈ u_ws RX5 TX5 6, w ∈ WS := by
  intro w hw
  obtain ⟨k, hk, rfl⟩ := List.mem_map.mp hw
  have hk := List.mem_range.mp hk
  match k, hk with
  | 0, _ => exact w113
  | 1, _ => exact w115
  | 2, _ => exact w117
  | 3, _ => exact w119
  | 4, _ => exact w121
  | 5, _ => exact w123
  | k + 6, h => exact absurd h (by omega)
theorem in_X6 : ∀ w ∈ u_ws RX6 TX6 30, w ∈ WS := by
  intro w hw
  obtain ⟨k, hk, rfl⟩ := List.mem_map.mp hw
  have hk := List.mem_range.mp hk
  match k, hk with
  | 0, _ => exact w1110
  | 1, _ => exact w1112
  | 2, _ => exact w1114
  | 3, _ => exact w1116
  | 4, _ => exact w1118
  | 5, _ => exact w1120
  | 6, _ => exact w1122
  | 7, _ => exact w1124
  | 8, _ => exact w1126
  | 9, _ => exact w1128
  | 10, _ => exact w1130
  | 11, _ => exact w1132
  | 12, _ => exact w1134
  | 13, _ => exact w1136
  | 14, _ => exact w1138
  | 15, _ => exact w1140
  | 16, _ => exact w1142
  | 17, _ => exact w1144
  | 18, _ => exact w1146
  | 19, _ => exact w1148
  | 20, _ => exact w1150
  | 21, _ => exact w1152
  | 22, _ => exact w1154
  | 23, _ => exact w1156
  | 24, _ => exact w1158
  | 25, _ => exact w1160
  | 26, _ => exact w1162
  | 27, _ => exact w1164
  | 28, _ => exact w1166
  | 29, _ => exact w1168
  | k + 30, h => exact absurd h (by omega)
theorem fgJx4a65c_9_2 : FG RJx4a65c 9 2 1 := ⟨"java/util/ArrayList", _, _, _, rfl, by decide, in_Jx4a65c, w52, .inl rfl⟩
theorem fwJx4a65c_9_2 : FW RJx4a65c 9 2 1 (.array (.object "java/lang/Object")) := ⟨"java/util/ArrayList", _, _, _, tyJx4a65c, rfl, by decide, in_Jx4a65c, w52, .inl rfl, tyJx4a65c_ok, nmJx4a65c, rfl, by decide +kernel⟩
theorem fgJx4a65c_48_2 : FG RJx4a65c 48 2 2 := ⟨"java/util/ArrayList", _, _, _, rfl, by decide, in_Jx4a65c, w53, .inl rfl⟩
theorem fwJx4a65c_48_2 : FW RJx4a65c 48 2 2 .int := ⟨"java/util/ArrayList", _, _, _, tyJx4a65c, rfl, by decide, in_Jx4a65c, w53, .inl rfl, tyJx4a65c_ok, nmJx4a65c, rfl, by decide +kernel⟩
theorem fgJxc12de_7_2 : FG RJxc12de 7 2 0 := ⟨"java/util/AbstractList", _, _, _, rfl, by decide, in_Jx4a65c, w54, .inl rfl⟩
theorem fwJxc12de_7_2 : FW RJxc12de 7 2 0 .int := ⟨"java/util/AbstractList", _, _, _, tyJx4a65c, rfl, by decide, in_Jx4a65c, w54, .inl rfl, tyJx4a65c_ok, nmJx4a65c, rfl, by decide +kernel⟩
theorem fgJx4a65c_63_2 : FG RJx4a65c 63 2 0 := ⟨"java/util/ArrayList", _, _, _, rfl, by decide, in_Jx4a65c, w55, .inr w56⟩
theorem fwJx4a65c_63_2 : FW RJx4a65c 63 2 0 .int := ⟨"java/util/ArrayList", _, _, _, tyJx4a65c, rfl, by decide, in_Jx4a65c, w55, .inr w56, tyJx4a65c_ok, nmJx4a65c, rfl, by decide +kernel⟩
theorem fgX3_50_6 : FG RX3 50 6 0 := ⟨"RestrictedFunds$Plan", _, _, _, rfl, by decide, in_X3, w72, .inl rfl⟩
theorem fwX3_50_6 : FW RX3 50 6 0 .int := ⟨"RestrictedFunds$Plan", _, _, _, tyX3, rfl, by decide, in_X3, w72, .inl rfl, tyX3_ok, nmX3, rfl, by decide +kernel⟩
theorem fgX3_54_6 : FG RX3 54 6 1 := ⟨"RestrictedFunds$Plan", _, _, _, rfl, by decide, in_X3, w73, .inl rfl⟩
theorem fwX3_54_6 : FW RX3 54 6 1 .int := ⟨"RestrictedFunds$Plan", _, _, _, tyX3, rfl, by decide, in_X3, w73, .inl rfl, tyX3_ok, nmX3, rfl, by decide +kernel⟩
theorem fgX3_9_6 : FG RX3 9 6 2 := ⟨"RestrictedFunds$Plan", _, _, _, rfl, by decide, in_X3, w74, .inl rfl⟩
theorem ffX3_9_6 : FF RX3 9 6 2 (.array .int) := ⟨"RestrictedFunds$Plan", _, _, _, tyX3, rfl, by decide, in_X3, w74, .inl rfl, tyX3_ok, nmX3, rfl, rfl, by decide +kernel⟩
theorem fgX3_15_6 : FG RX3 15 6 3 := ⟨"RestrictedFunds$Plan", _, _, _, rfl, by decide, in_X3, w75, .inl rfl⟩
theorem ffX3_15_6 : FF RX3 15 6 3 (.array .int) := ⟨"RestrictedFunds$Plan", _, _, _, tyX3, rfl, by decide, in_X3, w75, .inl rfl, tyX3_ok, nmX3, rfl, rfl, by decide +kernel⟩
theorem fgX3_18_6 : FG RX3 18 6 4 := ⟨"RestrictedFunds$Plan", _, _, _, rfl, by decide, in_X3, w76, .inl rfl⟩
theorem ffX3_18_6 : FF RX3 18 6 4 (.array .int) := ⟨"RestrictedFunds$Plan", _, _, _, tyX3, rfl, by decide, in_X3, w76, .inl rfl, tyX3_ok, nmX3, rfl, rfl, by decide +kernel⟩
theorem fgX3_23_6 : FG RX3 23 6 5 := ⟨"RestrictedFunds$Plan", _, _, _, rfl, by decide, in_X3, w77, .inl rfl⟩
theorem ffX3_23_6 : FF RX3 23 6 5 (.array (.array .int)) := ⟨"RestrictedFunds$Plan", _, _, _, tyX3, rfl, by decide, in_X3, w77, .inl rfl, tyX3_ok, nmX3, rfl, rfl, by decide +kernel⟩
theorem fgX3_26_6 : FG RX3 26 6 6 := ⟨"RestrictedFunds$Plan", _, _, _, rfl, by decide, in_X3, w78, .inl rfl⟩
theorem ffX3_26_6 : FF RX3 26 6 6 (.array .int) := ⟨"RestrictedFunds$Plan", _, _, _, tyX3, rfl, by decide, in_X3, w78, .inl rfl, tyX3_ok, nmX3, rfl, rfl, by decide +kernel⟩
theorem fgX3_29_6 : FG RX3 29 6 7 := ⟨"RestrictedFunds$Plan", _, _, _, rfl, by decide, in_X3, w79, .inl rfl⟩
theorem ffX3_29_6 : FF RX3 29 6 7 (.array .int) := ⟨"RestrictedFunds$Plan", _, _, _, tyX3, rfl, by decide, in_X3, w79, .inl rfl, tyX3_ok, nmX3, rfl, rfl, by decide +kernel⟩
theorem fgX3_32_6 : FG RX3 32 6 8 := ⟨"RestrictedFunds$Plan", _, _, _, rfl, by decide, in_X3, w80, .inl rfl⟩
theorem ffX3_32_6 : FF RX3 32 6 8 (.array .int) := ⟨"RestrictedFunds$Plan", _, _, _, tyX3, rfl, by decide, in_X3, w80, .inl rfl, tyX3_ok, nmX3, rfl, rfl, by decide +kernel⟩
theorem fgX3_35_6 : FG RX3 35 6 9 := ⟨"RestrictedFunds$Plan", _, _, _, rfl, by decide, in_X3, w81, .inl rfl⟩
theorem ffX3_35_6 : FF RX3 35 6 9 (.array .int) := ⟨"RestrictedFunds$Plan", _, _, _, tyX3, rfl, by decide, in_X3, w81, .inl rfl, tyX3_ok, nmX3, rfl, rfl, by decide +kernel⟩
theorem fgX3_38_6 : FG RX3 38 6 10 := ⟨"RestrictedFunds$Plan", _, _, _, rfl, by decide, in_X3, w82, .inl rfl⟩
theorem ffX3_38_6 : FF RX3 38 6 10 (.array .int) := ⟨"RestrictedFunds$Plan", _, _, _, tyX3, rfl, by decide, in_X3, w82, .inl rfl, tyX3_ok, nmX3, rfl, rfl, by decide +kernel⟩
theorem fgX5_12_7 : FG RX5 12 7 0 := ⟨"RestrictedFunds", _, _, _, rfl, by decide, in_X5, w107, .inl rfl⟩
theorem ffX5_12_7 : FF RX5 12 7 0 (.object "java/util/ArrayList") := ⟨"RestrictedFunds", _, _, _, tyX5, rfl, by decide, in_X5, w107, .inl rfl, tyX5_ok, nmX5, rfl, rfl, by decide +kernel⟩
theorem fgX5_16_7 : FG RX5 16 7 1 := ⟨"RestrictedFunds", _, _, _, rfl, by decide, in_X5, w108, .inl rfl⟩
theorem ffX5_16_7 : FF RX5 16 7 1 (.object "java/util/ArrayList") := ⟨"RestrictedFunds", _, _, _, tyX5, rfl, by decide, in_X5, w108, .inl rfl, tyX5_ok, nmX5, rfl, rfl, by decide +kernel⟩
theorem fgX5_19_7 : FG RX5 19 7 2 := ⟨"RestrictedFunds", _, _, _, rfl, by decide, in_X5, w109, .inl rfl⟩
theorem ffX5_19_7 : FF RX5 19 7 2 (.object "java/util/ArrayList") := ⟨"RestrictedFunds", _, _, _, tyX5, rfl, by decide, in_X5, w109, .inl rfl, tyX5_ok, nmX5, rfl, rfl, by decide +kernel⟩
theorem fgX5_22_7 : FG RX5 22 7 3 := ⟨"RestrictedFunds", _, _, _, rfl, by decide, in_X5, w110, .inl rfl⟩
theorem ffX5_22_7 : FF RX5 22 7 3 (.object "java/util/ArrayList") := ⟨"RestrictedFunds", _, _, _, tyX5, rfl, by decide, in_X5, w110, .inl rfl, tyX5_ok, nmX5, rfl, rfl, by decide +kernel⟩
theorem fgX5_28_7 : FG RX5 28 7 4 := ⟨"RestrictedFunds", _, _, _, rfl, by decide, in_X5, w111, .inl rfl⟩
theorem ffX5_28_7 : FF RX5 28 7 4 (.object "RestrictedFunds$Plan") := ⟨"RestrictedFunds", _, _, _, tyX5, rfl, by decide, in_X5, w111, .inl rfl, tyX5_ok, nmX5, rfl, rfl, by decide +kernel⟩
theorem fgX5_32_7 : FG RX5 32 7 5 := ⟨"RestrictedFunds", _, _, _, rfl, by decide, in_X5, w112, .inl rfl⟩
theorem fwX5_32_7 : FW RX5 32 7 5 .int := ⟨"RestrictedFunds", _, _, _, tyX5, rfl, by decide, in_X5, w112, .inl rfl, tyX5_ok, nmX5, rfl, by decide +kernel⟩
theorem fgX2_9_5 : FG RX2 9 5 1 := ⟨"RestrictedFunds$Fund", _, _, _, rfl, by decide, in_X2, w790, .inl rfl⟩
theorem ffX2_9_5 : FF RX2 9 5 1 .int := ⟨"RestrictedFunds$Fund", _, _, _, tyX2, rfl, by decide, in_X2, w790, .inl rfl, tyX2_ok, nmX2, rfl, rfl, by decide +kernel⟩
theorem fgX1_25_5 : FG RX1 25 5 1 := ⟨"RestrictedFunds$Fund", _, _, _, rfl, by decide, in_X2, w791, .inl rfl⟩
theorem fgX5_135_5 : FG RX5 135 5 1 := ⟨"RestrictedFunds$Fund", _, _, _, rfl, by decide, in_X2, w792, .inl rfl⟩
theorem fgX2_15_5 : FG RX2 15 5 2 := ⟨"RestrictedFunds$Fund", _, _, _, rfl, by decide, in_X2, w793, .inl rfl⟩
theorem ffX2_15_5 : FF RX2 15 5 2 .int := ⟨"RestrictedFunds$Fund", _, _, _, tyX2, rfl, by decide, in_X2, w793, .inl rfl, tyX2_ok, nmX2, rfl, rfl, by decide +kernel⟩
theorem fgX2_18_5 : FG RX2 18 5 3 := ⟨"RestrictedFunds$Fund", _, _, _, rfl, by decide, in_X2, w794, .inl rfl⟩
theorem ffX2_18_5 : FF RX2 18 5 3 .int := ⟨"RestrictedFunds$Fund", _, _, _, tyX2, rfl, by decide, in_X2, w794, .inl rfl, tyX2_ok, nmX2, rfl, rfl, by decide +kernel⟩
theorem fgX2_21_5 : FG RX2 21 5 4 := ⟨"RestrictedFunds$Fund", _, _, _, rfl, by decide, in_X2, w795, .inl rfl⟩
theorem ffX2_21_5 : FF RX2 21 5 4 .int := ⟨"RestrictedFunds$Fund", _, _, _, tyX2, rfl, by decide, in_X2, w795, .inl rfl, tyX2_ok, nmX2, rfl, rfl, by decide +kernel⟩
theorem fgX2_44_5 : FG RX2 44 5 5 := ⟨"RestrictedFunds$Fund", _, _, _, rfl, by decide, in_X2, w796, .inl rfl⟩
theorem fwX2_44_5 : FW RX2 44 5 5 .int := ⟨"RestrictedFunds$Fund", _, _, _, tyX2, rfl, by decide, in_X2, w796, .inl rfl, tyX2_ok, nmX2, rfl, by decide +kernel⟩
theorem fgX5_126_5 : FG RX5 126 5 5 := ⟨"RestrictedFunds$Fund", _, _, _, rfl, by decide, in_X2, w797, .inl rfl⟩
theorem fwX5_126_5 : FW RX5 126 5 5 .int := ⟨"RestrictedFunds$Fund", _, _, _, tyX2, rfl, by decide, in_X2, w797, .inl rfl, tyX2_ok, nmX2, rfl, by decide +kernel⟩
theorem fgX2_47_5 : FG RX2 47 5 6 := ⟨"RestrictedFunds$Fund", _, _, _, rfl, by decide, in_X2, w798, .inl rfl⟩
theorem fwX2_47_5 : FW RX2 47 5 6 .int := ⟨"RestrictedFunds$Fund", _, _, _, tyX2, rfl, by decide, in_X2, w798, .inl rfl, tyX2_ok, nmX2, rfl, by decide +kernel⟩
theorem fgX5_129_5 : FG RX5 129 5 6 := ⟨"RestrictedFunds$Fund", _, _, _, rfl, by decide, in_X2, w799, .inl rfl⟩
theorem fwX5_129_5 : FW RX5 129 5 6 .int := ⟨"RestrictedFunds$Fund", _, _, _, tyX2, rfl, by decide, in_X2, w799, .inl rfl, tyX2_ok, nmX2, rfl, by decide +kernel⟩
theorem fgX4_7_3 : FG RX4 7 3 0 := ⟨"RestrictedFunds$Pot", _, _, _, rfl, by decide, in_X0, w800, .inl rfl⟩
theorem fwX4_7_3 : FW RX4 7 3 0 .int := ⟨"RestrictedFunds$Pot", _, _, _, tyX0, rfl, by decide, in_X0, w800, .inl rfl, tyX0_ok, nmX0, rfl, by decide +kernel⟩
theorem fgX4_7_5 : FG RX4 7 5 0 := ⟨"RestrictedFunds$Pot", _, _, _, rfl, by decide, in_X2, w800, .inl rfl⟩
theorem fwX4_7_5 : FW RX4 7 5 0 .int := ⟨"RestrictedFunds$Pot", _, _, _, tyX2, rfl, by decide, in_X2, w800, .inl rfl, tyX2_ok, nmX2, rfl, by decide +kernel⟩
theorem fgX5_62_5 : FG RX5 62 5 0 := ⟨"RestrictedFunds$Fund", _, _, _, rfl, by decide, in_X2, w801, .inr w802⟩
theorem fwX5_62_5 : FW RX5 62 5 0 .int := ⟨"RestrictedFunds$Fund", _, _, _, tyX2, rfl, by decide, in_X2, w801, .inr w802, tyX2_ok, nmX2, rfl, by decide +kernel⟩
theorem fgX5_78_3 : FG RX5 78 3 0 := ⟨"RestrictedFunds$Commitment", _, _, _, rfl, by decide, in_X0, w803, .inr w804⟩
theorem fwX5_78_3 : FW RX5 78 3 0 .int := ⟨"RestrictedFunds$Commitment", _, _, _, tyX0, rfl, by decide, in_X0, w803, .inr w804, tyX0_ok, nmX0, rfl, by decide +kernel⟩
theorem fgX2_50_5 : FG RX2 50 5 0 := ⟨"RestrictedFunds$Fund", _, _, _, rfl, by decide, in_X2, w805, .inr w802⟩
theorem fwX2_50_5 : FW RX2 50 5 0 .int := ⟨"RestrictedFunds$Fund", _, _, _, tyX2, rfl, by decide, in_X2, w805, .inr w802, tyX2_ok, nmX2, rfl, by decide +kernel⟩
theorem fgX5_158_3 : FG RX5 158 3 0 := ⟨"RestrictedFunds$Pot", _, _, _, rfl, by decide, in_X0, w806, .inl rfl⟩
theorem fwX5_158_3 : FW RX5 158 3 0 .int := ⟨"RestrictedFunds$Pot", _, _, _, tyX0, rfl, by decide, in_X0, w806, .inl rfl, tyX0_ok, nmX0, rfl, by decide +kernel⟩
theorem fgX5_158_5 : FG RX5 158 5 0 := ⟨"RestrictedFunds$Pot", _, _, _, rfl, by decide, in_X2, w806, .inl rfl⟩
theorem fwX5_158_5 : FW RX5 158 5 0 .int := ⟨"RestrictedFunds$Pot", _, _, _, tyX2, rfl, by decide, in_X2, w806, .inl rfl, tyX2_ok, nmX2, rfl, by decide +kernel⟩
theorem fgX0_7_3 : FG RX0 7 3 1 := ⟨"RestrictedFunds$Commitment", _, _, _, rfl, by decide, in_X0, w858, .inl rfl⟩
theorem ffX0_7_3 : FF RX0 7 3 1 (.object "RestrictedFunds$Fund") := ⟨"RestrictedFunds$Commitment", _, _, _, tyX0, rfl, by decide, in_X0, w858, .inl rfl, tyX0_ok, nmX0, rfl, rfl, by decide +kernel⟩
theorem fgX0_13_3 : FG RX0 13 3 2 := ⟨"RestrictedFunds$Commitment", _, _, _, rfl, by decide, in_X0, w859, .inl rfl⟩
theorem ffX0_13_3 : FF RX0 13 3 2 .int := ⟨"RestrictedFunds$Commitment", _, _, _, tyX0, rfl, by decide, in_X0, w859, .inl rfl, tyX0_ok, nmX0, rfl, rfl, by decide +kernel⟩
theorem fgX0_17_3 : FG RX0 17 3 3 := ⟨"RestrictedFunds$Commitment", _, _, _, rfl, by decide, in_X0, w860, .inl rfl⟩
theorem ffX0_17_3 : FF RX0 17 3 3 .int := ⟨"RestrictedFunds$Commitment", _, _, _, tyX0, rfl, by decide, in_X0, w860, .inl rfl, tyX0_ok, nmX0, rfl, rfl, by decide +kernel⟩
theorem fgX1_15_4 : FG RX1 15 4 0 := ⟨"RestrictedFunds$Cost", _, _, _, rfl, by decide, in_X1, w905, .inl rfl⟩
theorem ffX1_15_4 : FF RX1 15 4 0 .int := ⟨"RestrictedFunds$Cost", _, _, _, tyX1, rfl, by decide, in_X1, w905, .inl rfl, tyX1_ok, nmX1, rfl, rfl, by decide +kernel⟩
theorem fgX0_20_4 : FG RX0 20 4 0 := ⟨"RestrictedFunds$Cost", _, _, _, rfl, by decide, in_X1, w906, .inl rfl⟩
theorem fgX2_32_4 : FG RX2 32 4 0 := ⟨"RestrictedFunds$Cost", _, _, _, rfl, by decide, in_X1, w907, .inl rfl⟩
theorem fgX5_255_4 : FG RX5 255 4 0 := ⟨"RestrictedFunds$Cost", _, _, _, rfl, by decide, in_X1, w908, .inl rfl⟩
theorem fgX1_19_4 : FG RX1 19 4 1 := ⟨"RestrictedFunds$Cost", _, _, _, rfl, by decide, in_X1, w909, .inl rfl⟩
theorem ffX1_19_4 : FF RX1 19 4 1 .int := ⟨"RestrictedFunds$Cost", _, _, _, tyX1, rfl, by decide, in_X1, w909, .inl rfl, tyX1_ok, nmX1, rfl, rfl, by decide +kernel⟩
theorem fgX2_41_4 : FG RX2 41 4 1 := ⟨"RestrictedFunds$Cost", _, _, _, rfl, by decide, in_X1, w910, .inl rfl⟩
theorem fgX1_22_4 : FG RX1 22 4 2 := ⟨"RestrictedFunds$Cost", _, _, _, rfl, by decide, in_X1, w911, .inl rfl⟩
theorem fwX1_22_4 : FW RX1 22 4 2 .int := ⟨"RestrictedFunds$Cost", _, _, _, tyX1, rfl, by decide, in_X1, w911, .inl rfl, tyX1_ok, nmX1, rfl, by decide +kernel⟩
theorem fgX5_145_4 : FG RX5 145 4 2 := ⟨"RestrictedFunds$Cost", _, _, _, rfl, by decide, in_X1, w912, .inl rfl⟩
theorem fwX5_145_4 : FW RX5 145 4 2 .int := ⟨"RestrictedFunds$Cost", _, _, _, tyX1, rfl, by decide, in_X1, w912, .inl rfl, tyX1_ok, nmX1, rfl, by decide +kernel⟩
theorem fgX1_9_4 : FG RX1 9 4 3 := ⟨"RestrictedFunds$Cost", _, _, _, rfl, by decide, in_X1, w913, .inl rfl⟩
theorem ffX1_9_4 : FF RX1 9 4 3 (.array .int) := ⟨"RestrictedFunds$Cost", _, _, _, tyX1, rfl, by decide, in_X1, w913, .inl rfl, tyX1_ok, nmX1, rfl, rfl, by decide +kernel⟩
theorem fgX6_121_8 : FG RX6 121 8 0 := ⟨"RestrictedFundsModel", _, _, _, rfl, by decide, in_X6, w1080, .inl rfl⟩
theorem fwX6_121_8 : FW RX6 121 8 0 .int := ⟨"RestrictedFundsModel", _, _, _, tyX6, rfl, by decide, in_X6, w1080, .inl rfl, tyX6_ok, nmX6, rfl, by decide +kernel⟩
theorem fgX6_86_8 : FG RX6 86 8 1 := ⟨"RestrictedFundsModel", _, _, _, rfl, by decide, in_X6, w1081, .inl rfl⟩
theorem fwX6_86_8 : FW RX6 86 8 1 .int := ⟨"RestrictedFundsModel", _, _, _, tyX6, rfl, by decide, in_X6, w1081, .inl rfl, tyX6_ok, nmX6, rfl, by decide +kernel⟩
theorem fgX6_7_8 : FG RX6 7 8 2 := ⟨"RestrictedFundsModel", _, _, _, rfl, by decide, in_X6, w1082, .inl rfl⟩
theorem ffX6_7_8 : FF RX6 7 8 2 (.array .int) := ⟨"RestrictedFundsModel", _, _, _, tyX6, rfl, by decide, in_X6, w1082, .inl rfl, tyX6_ok, nmX6, rfl, rfl, by decide +kernel⟩
theorem fgX6_13_8 : FG RX6 13 8 3 := ⟨"RestrictedFundsModel", _, _, _, rfl, by decide, in_X6, w1083, .inl rfl⟩
theorem ffX6_13_8 : FF RX6 13 8 3 (.array .int) := ⟨"RestrictedFundsModel", _, _, _, tyX6, rfl, by decide, in_X6, w1083, .inl rfl, tyX6_ok, nmX6, rfl, rfl, by decide +kernel⟩
theorem fgX6_16_8 : FG RX6 16 8 4 := ⟨"RestrictedFundsModel", _, _, _, rfl, by decide, in_X6, w1084, .inl rfl⟩
theorem ffX6_16_8 : FF RX6 16 8 4 (.array .int) := ⟨"RestrictedFundsModel", _, _, _, tyX6, rfl, by decide, in_X6, w1084, .inl rfl, tyX6_ok, nmX6, rfl, rfl, by decide +kernel⟩
theorem fgX6_19_8 : FG RX6 19 8 5 := ⟨"RestrictedFundsModel", _, _, _, rfl, by decide, in_X6, w1085, .inl rfl⟩
theorem ffX6_19_8 : FF RX6 19 8 5 (.array .int) := ⟨"RestrictedFundsModel", _, _, _, tyX6, rfl, by decide, in_X6, w1085, .inl rfl, tyX6_ok, nmX6, rfl, rfl, by decide +kernel⟩
theorem fgX6_22_8 : FG RX6 22 8 6 := ⟨"RestrictedFundsModel", _, _, _, rfl, by decide, in_X6, w1086, .inl rfl⟩
theorem ffX6_22_8 : FF RX6 22 8 6 (.array .int) := ⟨"RestrictedFundsModel", _, _, _, tyX6, rfl, by decide, in_X6, w1086, .inl rfl, tyX6_ok, nmX6, rfl, rfl, by decide +kernel⟩
theorem fgX6_25_8 : FG RX6 25 8 7 := ⟨"RestrictedFundsModel", _, _, _, rfl, by decide, in_X6, w1087, .inl rfl⟩
theorem ffX6_25_8 : FF RX6 25 8 7 (.array .int) := ⟨"RestrictedFundsModel", _, _, _, tyX6, rfl, by decide, in_X6, w1087, .inl rfl, tyX6_ok, nmX6, rfl, rfl, by decide +kernel⟩
theorem fgX6_93_8 : FG RX6 93 8 8 := ⟨"RestrictedFundsModel", _, _, _, rfl, by decide, in_X6, w1088, .inl rfl⟩
theorem fwX6_93_8 : FW RX6 93 8 8 .int := ⟨"RestrictedFundsModel", _, _, _, tyX6, rfl, by decide, in_X6, w1088, .inl rfl, tyX6_ok, nmX6, rfl, by decide +kernel⟩
theorem fgX6_28_8 : FG RX6 28 8 9 := ⟨"RestrictedFundsModel", _, _, _, rfl, by decide, in_X6, w1089, .inl rfl⟩
theorem ffX6_28_8 : FF RX6 28 8 9 (.array .int) := ⟨"RestrictedFundsModel", _, _, _, tyX6, rfl, by decide, in_X6, w1089, .inl rfl, tyX6_ok, nmX6, rfl, rfl, by decide +kernel⟩
theorem fgX6_31_8 : FG RX6 31 8 10 := ⟨"RestrictedFundsModel", _, _, _, rfl, by decide, in_X6, w1090, .inl rfl⟩
theorem ffX6_31_8 : FF RX6 31 8 10 (.array .int) := ⟨"RestrictedFundsModel", _, _, _, tyX6, rfl, by decide, in_X6, w1090, .inl rfl, tyX6_ok, nmX6, rfl, rfl, by decide +kernel⟩
theorem fgX6_34_8 : FG RX6 34 8 11 := ⟨"RestrictedFundsModel", _, _, _, rfl, by decide, in_X6, w1091, .inl rfl⟩
theorem ffX6_34_8 : FF RX6 34 8 11 (.array .int) := ⟨"RestrictedFundsModel", _, _, _, tyX6, rfl, by decide, in_X6, w1091, .inl rfl, tyX6_ok, nmX6, rfl, rfl, by decide +kernel⟩
theorem fgX6_37_8 : FG RX6 37 8 12 := ⟨"RestrictedFundsModel", _, _, _, rfl, by decide, in_X6, w1092, .inl rfl⟩
theorem ffX6_37_8 : FF RX6 37 8 12 (.array .int) := ⟨"RestrictedFundsModel", _, _, _, tyX6, rfl, by decide, in_X6, w1092, .inl rfl, tyX6_ok, nmX6, rfl, rfl, by decide +kernel⟩
theorem fgX6_96_8 : FG RX6 96 8 13 := ⟨"RestrictedFundsModel", _, _, _, rfl, by decide, in_X6, w1093, .inl rfl⟩
theorem fwX6_96_8 : FW RX6 96 8 13 .int := ⟨"RestrictedFundsModel", _, _, _, tyX6, rfl, by decide, in_X6, w1093, .inl rfl, tyX6_ok, nmX6, rfl, by decide +kernel⟩
theorem fgX6_40_8 : FG RX6 40 8 14 := ⟨"RestrictedFundsModel", _, _, _, rfl, by decide, in_X6, w1094, .inl rfl⟩
theorem ffX6_40_8 : FF RX6 40 8 14 (.array .int) := ⟨"RestrictedFundsModel", _, _, _, tyX6, rfl, by decide, in_X6, w1094, .inl rfl, tyX6_ok, nmX6, rfl, rfl, by decide +kernel⟩
theorem fgX6_43_8 : FG RX6 43 8 15 := ⟨"RestrictedFundsModel", _, _, _, rfl, by decide, in_X6, w1095, .inl rfl⟩
theorem ffX6_43_8 : FF RX6 43 8 15 (.array .int) := ⟨"RestrictedFundsModel", _, _, _, tyX6, rfl, by decide, in_X6, w1095, .inl rfl, tyX6_ok, nmX6, rfl, rfl, by decide +kernel⟩
theorem fgX6_46_8 : FG RX6 46 8 16 := ⟨"RestrictedFundsModel", _, _, _, rfl, by decide, in_X6, w1096, .inl rfl⟩
theorem ffX6_46_8 : FF RX6 46 8 16 (.array .int) := ⟨"RestrictedFundsModel", _, _, _, tyX6, rfl, by decide, in_X6, w1096, .inl rfl, tyX6_ok, nmX6, rfl, rfl, by decide +kernel⟩
theorem fgX6_49_8 : FG RX6 49 8 17 := ⟨"RestrictedFundsModel", _, _, _, rfl, by decide, in_X6, w1097, .inl rfl⟩
theorem ffX6_49_8 : FF RX6 49 8 17 (.array .int) := ⟨"RestrictedFundsModel", _, _, _, tyX6, rfl, by decide, in_X6, w1097, .inl rfl, tyX6_ok, nmX6, rfl, rfl, by decide +kernel⟩
theorem fgX6_131_8 : FG RX6 131 8 18 := ⟨"RestrictedFundsModel", _, _, _, rfl, by decide, in_X6, w1098, .inl rfl⟩
theorem fwX6_131_8 : FW RX6 131 8 18 .int := ⟨"RestrictedFundsModel", _, _, _, tyX6, rfl, by decide, in_X6, w1098, .inl rfl, tyX6_ok, nmX6, rfl, by decide +kernel⟩
theorem fgX6_52_8 : FG RX6 52 8 19 := ⟨"RestrictedFundsModel", _, _, _, rfl, by decide, in_X6, w1099, .inl rfl⟩
theorem ffX6_52_8 : FF RX6 52 8 19 (.array .int) := ⟨"RestrictedFundsModel", _, _, _, tyX6, rfl, by decide, in_X6, w1099, .inl rfl, tyX6_ok, nmX6, rfl, rfl, by decide +kernel⟩
theorem fgX6_55_8 : FG RX6 55 8 20 := ⟨"RestrictedFundsModel", _, _, _, rfl, by decide, in_X6, w1100, .inl rfl⟩
theorem ffX6_55_8 : FF RX6 55 8 20 (.array .int) := ⟨"RestrictedFundsModel", _, _, _, tyX6, rfl, by decide, in_X6, w1100, .inl rfl, tyX6_ok, nmX6, rfl, rfl, by decide +kernel⟩
theorem fgX6_58_8 : FG RX6 58 8 21 := ⟨"RestrictedFundsModel", _, _, _, rfl, by decide, in_X6, w1101, .inl rfl⟩
theorem ffX6_58_8 : FF RX6 58 8 21 (.array .int) := ⟨"RestrictedFundsModel", _, _, _, tyX6, rfl, by decide, in_X6, w1101, .inl rfl, tyX6_ok, nmX6, rfl, rfl, by decide +kernel⟩
theorem fgX6_61_8 : FG RX6 61 8 22 := ⟨"RestrictedFundsModel", _, _, _, rfl, by decide, in_X6, w1102, .inl rfl⟩
theorem ffX6_61_8 : FF RX6 61 8 22 (.array .int) := ⟨"RestrictedFundsModel", _, _, _, tyX6, rfl, by decide, in_X6, w1102, .inl rfl, tyX6_ok, nmX6, rfl, rfl, by decide +kernel⟩
theorem fgX6_64_8 : FG RX6 64 8 23 := ⟨"RestrictedFundsModel", _, _, _, rfl, by decide, in_X6, w1103, .inl rfl⟩
theorem ffX6_64_8 : FF RX6 64 8 23 (.array .int) := ⟨"RestrictedFundsModel", _, _, _, tyX6, rfl, by decide, in_X6, w1103, .inl rfl, tyX6_ok, nmX6, rfl, rfl, by decide +kernel⟩
theorem fgX6_67_8 : FG RX6 67 8 24 := ⟨"RestrictedFundsModel", _, _, _, rfl, by decide, in_X6, w1104, .inl rfl⟩
theorem ffX6_67_8 : FF RX6 67 8 24 (.array .int) := ⟨"RestrictedFundsModel", _, _, _, tyX6, rfl, by decide, in_X6, w1104, .inl rfl, tyX6_ok, nmX6, rfl, rfl, by decide +kernel⟩
theorem fgX6_70_8 : FG RX6 70 8 25 := ⟨"RestrictedFundsModel", _, _, _, rfl, by decide, in_X6, w1105, .inl rfl⟩
theorem ffX6_70_8 : FF RX6 70 8 25 (.array .int) := ⟨"RestrictedFundsModel", _, _, _, tyX6, rfl, by decide, in_X6, w1105, .inl rfl, tyX6_ok, nmX6, rfl, rfl, by decide +kernel⟩
theorem fgX6_73_8 : FG RX6 73 8 26 := ⟨"RestrictedFundsModel", _, _, _, rfl, by decide, in_X6, w1106, .inl rfl⟩
theorem ffX6_73_8 : FF RX6 73 8 26 (.array .int) := ⟨"RestrictedFundsModel", _, _, _, tyX6, rfl, by decide, in_X6, w1106, .inl rfl, tyX6_ok, nmX6, rfl, rfl, by decide +kernel⟩
theorem fgX6_76_8 : FG RX6 76 8 27 := ⟨"RestrictedFundsModel", _, _, _, rfl, by decide, in_X6, w1107, .inl rfl⟩
theorem ffX6_76_8 : FF RX6 76 8 27 (.array .int) := ⟨"RestrictedFundsModel", _, _, _, tyX6, rfl, by decide, in_X6, w1107, .inl rfl, tyX6_ok, nmX6, rfl, rfl, by decide +kernel⟩
theorem fgX6_79_8 : FG RX6 79 8 28 := ⟨"RestrictedFundsModel", _, _, _, rfl, by decide, in_X6, w1108, .inl rfl⟩
theorem ffX6_79_8 : FF RX6 79 8 28 (.array .int) := ⟨"RestrictedFundsModel", _, _, _, tyX6, rfl, by decide, in_X6, w1108, .inl rfl, tyX6_ok, nmX6, rfl, rfl, by decide +kernel⟩
theorem fgX6_82_8 : FG RX6 82 8 29 := ⟨"RestrictedFundsModel", _, _, _, rfl, by decide, in_X6, w1109, .inl rfl⟩
theorem fwX6_82_8 : FW RX6 82 8 29 .int := ⟨"RestrictedFundsModel", _, _, _, tyX6, rfl, by decide, in_X6, w1109, .inl rfl, tyX6_ok, nmX6, rfl, by decide +kernel⟩
theorem kL_79 : WIt RL 79 yX5_init cX5_init 1 0 := ⟨⟨w34, w1, ⟨by decide, by decide⟩, by decide +kernel, w32⟩, rfl, w33⟩
theorem kX5_11 : WIt RX5 11 yJx4a65c_init_da8c8 cJx4a65c_init_da8c8 1 0 := ⟨⟨w42, w4, ⟨by decide, by decide⟩, by decide +kernel, w40⟩, rfl, w41⟩
theorem kJx4a65c_1 : WIt RJx4a65c 1 yJxc12de_init_da8c8 cJxc12de_init_da8c8 1 0 := ⟨⟨w45, w3, ⟨by decide, by decide⟩, by decide +kernel, w43⟩, rfl, w44⟩
theorem kJxc12de_1 : WIt RJxc12de 1 yJxa1e45_init_da8c8 cJxa1e45_init_da8c8 1 0 := ⟨⟨w48, w2, ⟨by decide, by decide⟩, by decide +kernel, w46⟩, rfl, w47⟩
theorem kL_111 : WVt RL 111 yX5_charge cX5_charge 2 (some .int) 0 := ⟨⟨w129, w1, ⟨by decide, by decide⟩, by decide +kernel, w126⟩, w127, w128⟩
theorem kX5_216 : WVt RX5 216 yJx4a65c_clear_da8c8 cJx4a65c_clear_da8c8 4 none 0 := ⟨⟨w141, w4, ⟨by decide, by decide⟩, by decide +kernel, w138⟩, w139, w140⟩
theorem kX5_41 : WVt RX5 41 yJx4a65c_size_8abf5 cJx4a65c_size_8abf5 1 (some .int) 0 := ⟨⟨w145, w4, ⟨by decide, by decide⟩, by decide +kernel, w142⟩, w143, w144⟩
theorem kX5_118 : WVt RX5 118 yJx4a65c_get_915e3 cJx4a65c_get_915e3 2 (some (.object "java/lang/Object")) 1 := ⟨⟨w149, w4, ⟨by decide, by decide⟩, by decide +kernel, w146⟩, w147, w148⟩
theorem kJx4a65c_118 : WSt RJx4a65c 118 yJ15_checkIndex_7cf53 cJ15_checkIndex_7cf53 2 (some .int) 2 := ⟨⟨w152, w19, ⟨by decide, by decide⟩, by decide +kernel, w150⟩, w151⟩
theorem kJ15_105 : WSt RJ15 105 yJ3_checkIndex_8e157 cJ3_checkIndex_8e157 3 (some .int) 3 := ⟨⟨w155, w20, ⟨by decide, by decide⟩, by decide +kernel, w153⟩, w154⟩
theorem kJx4a65c_123 : WVt RJx4a65c 123 yJx4a65c_elementData_915e3 cJx4a65c_elementData_915e3 2 (some (.object "java/lang/Object")) 1 := ⟨⟨w159, w4, ⟨by decide, by decide⟩, by decide +kernel, w156⟩, w157, w158⟩
theorem kX5_224 : WVt RX5 224 yJx4a65c_add_7a177 cJx4a65c_add_7a177 5 none 2 := ⟨⟨w177, w4, ⟨by decide, by decide⟩, by decide +kernel, w174⟩, w175, w176⟩
theorem kJx4a65c_22 : WIt RJx4a65c 22 yJ4_init_da8c8 cJ4_init_da8c8 1 0 := ⟨⟨w231, w24, ⟨by decide, by decide⟩, by decide +kernel, w229⟩, rfl, w230⟩
theorem kJx4a65c_25 : WVt RJx4a65c 25 yJ4_append_15ec4 cJ4_append_15ec4 2 (some (.object "java/lang/StringBuilder")) 1 := ⟨⟨w263, w24, ⟨by decide, by decide⟩, by decide +kernel, w260⟩, w261, w262⟩
theorem kJ8_194 : WSt RJ8 194 yJ9_max_7cf53 cJ9_max_7cf53 2 (some .int) 2 := ⟨⟨w284, w15, ⟨by decide, by decide⟩, by decide +kernel, w282⟩, w283⟩
theorem kJ8_201 : WSt RJ8 201 yJ8_hugeLength_7cf53 cJ8_hugeLength_7cf53 3 (some .int) 2 := ⟨⟨w288, w14, ⟨by decide, by decide⟩, by decide +kernel, w286⟩, w287⟩
theorem kJ7_304 : WSt RJ7 304 yJ9_min_7cf53 cJ9_min_7cf53 2 (some .int) 2 := ⟨⟨w302, w15, ⟨by decide, by decide⟩, by decide +kernel, w300⟩, w301⟩
theorem kJx4a65c_29 : WVt RJx4a65c 29 yJ4_append_bf812 cJ4_append_bf812 2 (some (.object "java/lang/StringBuilder")) 1 := ⟨⟨w383, w24, ⟨by decide, by decide⟩, by decide +kernel, w380⟩, w381, w382⟩
theorem kJx4a65c_32 : WVt RJx4a65c 32 yJ4_toString_0e30d cJ4_toString_0e30d 1 (some (.object "java/lang/String")) 0 := ⟨⟨w409, w24, ⟨by decide, by decide⟩, by decide +kernel, w406⟩, w407, w408⟩
theorem kJ7_343 : WSt RJ7 343 yJ7_checkLength_df160 cJ7_checkLength_df160 2 none 2 := ⟨⟨w441, w16, ⟨by decide, by decide⟩, by decide +kernel, w439⟩, w440⟩
theorem kJ7_47 : WIt RJ7 47 yJ4_init_da8c8 cJ4_init_da8c8 1 0 := ⟨⟨w231, w24, ⟨by decide, by decide⟩, by decide +kernel, w452⟩, rfl, w230⟩
theorem kJ7_54 : WVt RJ7 54 yJ4_append_bf812 cJ4_append_bf812 2 (some (.object "java/lang/StringBuilder")) 1 := ⟨⟨w383, w24, ⟨by decide, by decide⟩, by decide +kernel, w453⟩, w381, w382⟩
theorem kJ7_50 : WVt RJ7 50 yJ4_append_15ec4 cJ4_append_15ec4 2 (some (.object "java/lang/StringBuilder")) 1 := ⟨⟨w263, w24, ⟨by decide, by decide⟩, by decide +kernel, w455⟩, w261, w262⟩
theorem kJ7_61 : WVt RJ7 61 yJ4_toString_0e30d cJ4_toString_0e30d 1 (some (.object "java/lang/String")) 0 := ⟨⟨w409, w24, ⟨by decide, by decide⟩, by decide +kernel, w456⟩, w407, w408⟩
theorem kJx4a65c_73 : WSt RJx4a65c 73 yJ8_newLength_cabcc cJ8_newLength_cabcc 4 (some .int) 3 := ⟨⟨w281, w14, ⟨by decide, by decide⟩, by decide +kernel, w520⟩, w280⟩
theorem kJx4a65c_66 : WSt RJx4a65c 66 yJ7_copyOf_1904c cJ7_copyOf_1904c 2 (some (.array (.object "java/lang/Object"))) 2 := ⟨⟨w523, w16, ⟨by decide, by decide⟩, by decide +kernel, w521⟩, w522⟩
theorem kJ7_300 : WSt RJ7 300 yJ7_copyOf_6403c cJ7_copyOf_6403c 4 (some (.array (.object "java/lang/Object"))) 3 := ⟨⟨w542, w16, ⟨by decide, by decide⟩, by decide +kernel, w540⟩, w541⟩
theorem kJx4a65c_79 : WSt RJx4a65c 79 yJ9_max_7cf53 cJ9_max_7cf53 2 (some .int) 2 := ⟨⟨w284, w15, ⟨by decide, by decide⟩, by decide +kernel, w546⟩, w283⟩
theorem kX5_202 : WVt RX5 202 yX3_begin cX3_begin 5 none 2 := ⟨⟨w552, w5, ⟨by decide, by decide⟩, by decide +kernel, w549⟩, w550, w551⟩
theorem kX3_41 : WSt RX3 41 yJ9_min_7cf53 cJ9_min_7cf53 2 (some .int) 2 := ⟨⟨w302, w15, ⟨by decide, by decide⟩, by decide +kernel, w553⟩, w301⟩
theorem kX3_47 : WSt RX3 47 yJ9_max_7cf53 cJ9_max_7cf53 2 (some .int) 2 := ⟨⟨w284, w15, ⟨by decide, by decide⟩, by decide +kernel, w554⟩, w283⟩
theorem kX5_206 : WVt RX5 206 yX3_setCost cX3_setCost 3 none 2 := ⟨⟨w559, w5, ⟨by decide, by decide⟩, by decide +kernel, w556⟩, w557, w558⟩
theorem kX0_23 : WVt RX0 23 yX2_suits cX2_suits 2 (some .boolean) 1 := ⟨⟨w577, w13, ⟨by decide, by decide⟩, by decide +kernel, w574⟩, w575, w576⟩
theorem kX2_37 : WVt RX2 37 yX2_allows cX2_allows 2 (some .boolean) 1 := ⟨⟨w581, w13, ⟨by decide, by decide⟩, by decide +kernel, w578⟩, w579, w580⟩
theorem kX2_24 : WVt RX2 24 yX2_suits cX2_suits 2 (some .boolean) 1 := ⟨⟨w577, w13, ⟨by decide, by decide⟩, by decide +kernel, w588⟩, w575, w576⟩
theorem kX5_213 : WVt RX5 213 yX3_setPot cX3_setPot 4 none 3 := ⟨⟨w592, w5, ⟨by decide, by decide⟩, by decide +kernel, w589⟩, w590, w591⟩
theorem kX5_93 : WVt RX5 93 yX3_payCosts cX3_payCosts 4 none 0 := ⟨⟨w600, w5, ⟨by decide, by decide⟩, by decide +kernel, w597⟩, w598, w599⟩
theorem kX3_78 : WVt RX3 78 yX3_leftOfCost cX3_leftOfCost 2 (some .int) 1 := ⟨⟨w609, w5, ⟨by decide, by decide⟩, by decide +kernel, w606⟩, w607, w608⟩
theorem kX3_97 : WVt RX3 97 yX3_leftOfPot cX3_leftOfPot 2 (some .int) 1 := ⟨⟨w638, w5, ⟨by decide, by decide⟩, by decide +kernel, w635⟩, w636, w637⟩
theorem kX3_120 : WVt RX3 120 yX3_share cX3_share 3 (some .int) 2 := ⟨⟨w646, w5, ⟨by decide, by decide⟩, by decide +kernel, w643⟩, w644, w645⟩
theorem kX5_96 : WVt RX5 96 yX3_drawOnPots cX3_drawOnPots 4 none 0 := ⟨⟨w666, w5, ⟨by decide, by decide⟩, by decide +kernel, w663⟩, w664, w665⟩
theorem kX5_99 : WVt RX5 99 yX3_spreadCosts cX3_spreadCosts 5 none 0 := ⟨⟨w678, w5, ⟨by decide, by decide⟩, by decide +kernel, w675⟩, w676, w677⟩
theorem kX5_102 : WVt RX5 102 yX3_paidInAll cX3_paidInAll 3 (some .int) 0 := ⟨⟨w686, w5, ⟨by decide, by decide⟩, by decide +kernel, w683⟩, w684, w685⟩
theorem kX5_230 : WVt RX5 230 yX3_share cX3_share 3 (some .int) 2 := ⟨⟨w646, w5, ⟨by decide, by decide⟩, by decide +kernel, w691⟩, w644, w645⟩
theorem kX5_234 : WSt RX5 234 yX5_book cX5_book 3 none 3 := ⟨⟨w694, w1, ⟨by decide, by decide⟩, by decide +kernel, w692⟩, w693⟩
theorem kX5_238 : WVt RX5 238 yX1_pay cX1_pay 4 none 2 := ⟨⟨w707, w22, ⟨by decide, by decide⟩, by decide +kernel, w704⟩, w705, w706⟩
theorem kX5_122 : WVt RX5 122 yX0_owner cX0_owner 1 (some (.object "RestrictedFunds$Fund")) 0 := ⟨⟨w700, w21, ⟨by decide, by decide⟩, by decide +kernel, w717⟩, w699, w1377⟩
theorem kX5_196 : WVt RX5 196 yJx4a65c_remove_915e3 cJx4a65c_remove_915e3 4 (some (.object "java/lang/Object")) 1 := ⟨⟨w721, w4, ⟨by decide, by decide⟩, by decide +kernel, w718⟩, w719, w720⟩
theorem kL_118 : WVt RL 118 yX5_today cX5_today 1 (some .int) 0 := ⟨⟨w729, w1, ⟨by decide, by decide⟩, by decide +kernel, w726⟩, w727, w728⟩
theorem kL_122 : WVt RL 122 yX5_funds cX5_funds 1 (some .int) 0 := ⟨⟨w733, w1, ⟨by decide, by decide⟩, by decide +kernel, w730⟩, w731, w732⟩
theorem kL_141 : WVt RL 141 yX5_commitments cX5_commitments 1 (some .int) 0 := ⟨⟨w737, w1, ⟨by decide, by decide⟩, by decide +kernel, w734⟩, w735, w736⟩
theorem kL_154 : WVt RL 154 yX5_costs cX5_costs 1 (some .int) 0 := ⟨⟨w741, w1, ⟨by decide, by decide⟩, by decide +kernel, w738⟩, w739, w740⟩
theorem kL_164 : WVt RL 164 yX5_payable cX5_payable 1 (some .int) 0 := ⟨⟨w745, w1, ⟨by decide, by decide⟩, by decide +kernel, w742⟩, w743, w744⟩
theorem kL_7 : WVt RL 7 yX5_addFund cX5_addFund 6 (some .int) 4 := ⟨⟨w754, w1, ⟨by decide, by decide⟩, by decide +kernel, w751⟩, w752, w753⟩
theorem kX5_37 : WSt RX5 37 yX5_requireRange cX5_requireRange 3 none 3 := ⟨⟨w758, w1, ⟨by decide, by decide⟩, by decide +kernel, w756⟩, w757⟩
theorem kX5_45 : WSt RX5 45 yX5_requireState cX5_requireState 1 none 1 := ⟨⟨w764, w1, ⟨by decide, by decide⟩, by decide +kernel, w762⟩, w763⟩
theorem kX5_51 : WIt RX5 51 yX2_init cX2_init 6 5 := ⟨⟨w785, w13, ⟨by decide, by decide⟩, by decide +kernel, w783⟩, rfl, w784⟩
theorem kX2_3 : WIt RX2 3 yX4_init cX4_init 2 1 := ⟨⟨w788, w12, ⟨by decide, by decide⟩, by decide +kernel, w786⟩, rfl, w787⟩
theorem kX5_54 : WVt RX5 54 yJx4a65c_add_9ea2d cJx4a65c_add_9ea2d 2 (some .boolean) 1 := ⟨⟨w825, w4, ⟨by decide, by decide⟩, by decide +kernel, w822⟩, w823, w824⟩
theorem kL_17 : WVt RL 17 yX5_deposit cX5_deposit 4 (some .int) 2 := ⟨⟨w837, w1, ⟨by decide, by decide⟩, by decide +kernel, w834⟩, w835, w836⟩
theorem kL_23 : WVt RL 23 yX5_commit cX5_commit 6 (some .int) 4 := ⟨⟨w851, w1, ⟨by decide, by decide⟩, by decide +kernel, w848⟩, w849, w850⟩
theorem kX5_65 : WVt RX5 65 yX2_allows cX2_allows 2 (some .boolean) 1 := ⟨⟨w581, w13, ⟨by decide, by decide⟩, by decide +kernel, w852⟩, w579, w580⟩
theorem kX5_71 : WIt RX5 71 yX0_init cX0_init 5 4 := ⟨⟨w856, w21, ⟨by decide, by decide⟩, by decide +kernel, w854⟩, rfl, w855⟩
theorem kX0_1 : WIt RX0 1 yX4_init cX4_init 2 1 := ⟨⟨w788, w12, ⟨by decide, by decide⟩, by decide +kernel, w857⟩, rfl, w787⟩
theorem kL_26 : WVt RL 26 yX5_cancel cX5_cancel 3 (some .int) 1 := ⟨⟨w875, w1, ⟨by decide, by decide⟩, by decide +kernel, w872⟩, w873, w874⟩
theorem kL_30 : WVt RL 30 yX5_advance cX5_advance 2 (some .int) 1 := ⟨⟨w887, w1, ⟨by decide, by decide⟩, by decide +kernel, w884⟩, w885, w886⟩
theorem kX5_138 : WVt RX5 138 yX0_expiry cX0_expiry 1 (some .int) 0 := ⟨⟨w170, w21, ⟨by decide, by decide⟩, by decide +kernel, w892⟩, w169, w1378⟩
theorem kL_33 : WVt RL 33 yX5_addCost cX5_addCost 4 (some .int) 3 := ⟨⟨w899, w1, ⟨by decide, by decide⟩, by decide +kernel, w896⟩, w897, w898⟩
theorem kX5_88 : WIt RX5 88 yX1_init cX1_init 4 3 := ⟨⟨w903, w22, ⟨by decide, by decide⟩, by decide +kernel, w901⟩, rfl, w902⟩
theorem kL_37 : WVt RL 37 yX5_chargeOverhead cX5_chargeOverhead 6 (some .int) 1 := ⟨⟨w929, w1, ⟨by decide, by decide⟩, by decide +kernel, w926⟩, w927, w928⟩
theorem kX5_132 : WVt RX5 132 yX2_room cX2_room 2 (some .int) 0 := ⟨⟨w941, w13, ⟨by decide, by decide⟩, by decide +kernel, w938⟩, w939, w940⟩
theorem kX2_53 : WSt RX2 53 yJ9_min_7cf53 cJ9_min_7cf53 2 (some .int) 2 := ⟨⟨w302, w15, ⟨by decide, by decide⟩, by decide +kernel, w942⟩, w301⟩
theorem kX2_59 : WSt RX2 59 yJ9_max_7cf53 cJ9_max_7cf53 2 (some .int) 2 := ⟨⟨w284, w15, ⟨by decide, by decide⟩, by decide +kernel, w943⟩, w283⟩
theorem kX5_246 : WSt RX5 246 yJ9_min_f86c9 cJ9_min_f86c9 4 (some .long) 2 := ⟨⟨w946, w15, ⟨by decide, by decide⟩, by decide +kernel, w944⟩, w945⟩
theorem kX5_252 : WVt RX5 252 yX2_takeOverhead cX2_takeOverhead 2 none 1 := ⟨⟨w950, w13, ⟨by decide, by decide⟩, by decide +kernel, w947⟩, w948, w949⟩
theorem kL_40 : WVt RL 40 yX5_freeOf cX5_freeOf 2 (some .int) 1 := ⟨⟨w961, w1, ⟨by decide, by decide⟩, by decide +kernel, w958⟩, w959, w960⟩
theorem kL_43 : WVt RL 43 yX5_committedOf cX5_committedOf 6 (some .int) 1 := ⟨⟨w968, w1, ⟨by decide, by decide⟩, by decide +kernel, w965⟩, w966, w967⟩
theorem kL_46 : WVt RL 46 yX5_directOf cX5_directOf 2 (some .int) 1 := ⟨⟨w975, w1, ⟨by decide, by decide⟩, by decide +kernel, w972⟩, w973, w974⟩
theorem kL_49 : WVt RL 49 yX5_overheadOf cX5_overheadOf 2 (some .int) 1 := ⟨⟨w982, w1, ⟨by decide, by decide⟩, by decide +kernel, w979⟩, w980, w981⟩
theorem kL_52 : WVt RL 52 yX5_roomOf cX5_roomOf 2 (some .int) 1 := ⟨⟨w989, w1, ⟨by decide, by decide⟩, by decide +kernel, w986⟩, w987, w988⟩
theorem kL_55 : WVt RL 55 yX5_fundOf cX5_fundOf 2 (some .int) 1 := ⟨⟨w996, w1, ⟨by decide, by decide⟩, by decide +kernel, w993⟩, w994, w995⟩
theorem kL_58 : WVt RL 58 yX5_leftOf cX5_leftOf 2 (some .int) 1 := ⟨⟨w1003, w1, ⟨by decide, by decide⟩, by decide +kernel, w1000⟩, w1001, w1002⟩
theorem kL_61 : WVt RL 61 yX5_untilOf cX5_untilOf 2 (some .int) 1 := ⟨⟨w1010, w1, ⟨by decide, by decide⟩, by decide +kernel, w1007⟩, w1008, w1009⟩
theorem kL_64 : WVt RL 64 yX5_unpaidOf cX5_unpaidOf 2 (some .int) 1 := ⟨⟨w1017, w1, ⟨by decide, by decide⟩, by decide +kernel, w1014⟩, w1015, w1016⟩
theorem kL_67 : WVt RL 67 yX5_paidBy cX5_paidBy 4 (some .int) 2 := ⟨⟨w1029, w1, ⟨by decide, by decide⟩, by decide +kernel, w1026⟩, w1027, w1028⟩
theorem kX5_148 : WVt RX5 148 yX1_shareOf cX1_shareOf 3 (some .int) 1 := ⟨⟨w1033, w22, ⟨by decide, by decide⟩, by decide +kernel, w1030⟩, w1031, w1032⟩
theorem kL_70 : WVt RL 70 yX5_wouldPay cX5_wouldPay 3 (some .int) 1 := ⟨⟨w1040, w1, ⟨by decide, by decide⟩, by decide +kernel, w1037⟩, w1038, w1039⟩
theorem kX5_152 : WVt RX5 152 yX3_leftOfCost cX3_leftOfCost 2 (some .int) 1 := ⟨⟨w609, w5, ⟨by decide, by decide⟩, by decide +kernel, w1041⟩, w607, w608⟩
theorem kL_73 : WVt RL 73 yX5_wouldTake cX5_wouldTake 6 (some .int) 1 := ⟨⟨w1048, w1, ⟨by decide, by decide⟩, by decide +kernel, w1045⟩, w1046, w1047⟩
theorem kX5_159 : WVt RX5 159 yX3_leftOfPot cX3_leftOfPot 2 (some .int) 1 := ⟨⟨w638, w5, ⟨by decide, by decide⟩, by decide +kernel, w1049⟩, w636, w637⟩
theorem kL_76 : WVt RL 76 yX5_reason cX5_reason 3 (some .int) 1 := ⟨⟨w1056, w1, ⟨by decide, by decide⟩, by decide +kernel, w1053⟩, w1054, w1055⟩
theorem kX5_258 : WVt RX5 258 yX2_suits cX2_suits 2 (some .boolean) 1 := ⟨⟨w577, w13, ⟨by decide, by decide⟩, by decide +kernel, w1065⟩, w575, w576⟩
theorem kL_82 : WIt RL 82 yX6_init cX6_init 1 0 := ⟨⟨w1078, w6, ⟨by decide, by decide⟩, by decide +kernel, w1076⟩, rfl, w1077⟩
theorem kL_89 : WVt RL 89 yX6_thrown cX6_thrown 1 (some .int) 0 := ⟨⟨w1174, w6, ⟨by decide, by decide⟩, by decide +kernel, w1171⟩, w1172, w1173⟩
theorem kL_88 : WVt RL 88 yX6_addFund cX6_addFund 5 (some .int) 4 := ⟨⟨w1178, w6, ⟨by decide, by decide⟩, by decide +kernel, w1175⟩, w1176, w1177⟩
theorem kX6_89 : WSt RX6 89 yX6_in cX6_in 6 (some .boolean) 3 := ⟨⟨w1182, w6, ⟨by decide, by decide⟩, by decide +kernel, w1180⟩, w1181⟩
theorem kL_96 : WVt RL 96 yX6_deposit cX6_deposit 3 (some .int) 2 := ⟨⟨w1193, w6, ⟨by decide, by decide⟩, by decide +kernel, w1190⟩, w1191, w1192⟩
theorem kL_99 : WVt RL 99 yX6_commit cX6_commit 5 (some .int) 4 := ⟨⟨w1201, w6, ⟨by decide, by decide⟩, by decide +kernel, w1198⟩, w1199, w1200⟩
theorem kL_103 : WVt RL 103 yX6_cancel cX6_cancel 3 (some .int) 1 := ⟨⟨w1210, w6, ⟨by decide, by decide⟩, by decide +kernel, w1207⟩, w1208, w1209⟩
theorem kL_106 : WVt RL 106 yX6_advance cX6_advance 4 (some .int) 1 := ⟨⟨w1222, w6, ⟨by decide, by decide⟩, by decide +kernel, w1219⟩, w1220, w1221⟩
theorem kL_110 : WVt RL 110 yX6_addCost cX6_addCost 4 (some .int) 3 := ⟨⟨w1226, w6, ⟨by decide, by decide⟩, by decide +kernel, w1223⟩, w1224, w1225⟩
theorem kL_114 : WVt RL 114 yX6_charge cX6_charge 6 (some .int) 0 := ⟨⟨w1230, w6, ⟨by decide, by decide⟩, by decide +kernel, w1227⟩, w1228, w1229⟩
theorem kX6_146 : WSt RX6 146 yX6_sum cX6_sum 4 (some .int) 2 := ⟨⟨w1262, w6, ⟨by decide, by decide⟩, by decide +kernel, w1260⟩, w1261⟩
theorem kL_117 : WVt RL 117 yX6_chargeOverhead cX6_chargeOverhead 4 (some .int) 1 := ⟨⟨w1270, w6, ⟨by decide, by decide⟩, by decide +kernel, w1267⟩, w1268, w1269⟩
theorem kL_121 : WVt RL 121 yX6_today cX6_today 1 (some .int) 0 := ⟨⟨w1290, w6, ⟨by decide, by decide⟩, by decide +kernel, w1287⟩, w1288, w1289⟩
theorem kL_125 : WVt RL 125 yX6_funds cX6_funds 1 (some .int) 0 := ⟨⟨w1294, w6, ⟨by decide, by decide⟩, by decide +kernel, w1291⟩, w1292, w1293⟩
theorem kL_128 : WVt RL 128 yX6_freeOf cX6_freeOf 2 (some .int) 1 := ⟨⟨w1298, w6, ⟨by decide, by decide⟩, by decide +kernel, w1295⟩, w1296, w1297⟩
theorem kL_131 : WVt RL 131 yX6_committedOf cX6_committedOf 2 (some .int) 1 := ⟨⟨w1302, w6, ⟨by decide, by decide⟩, by decide +kernel, w1299⟩, w1300, w1301⟩
theorem kL_134 : WVt RL 134 yX6_directOf cX6_directOf 2 (some .int) 1 := ⟨⟨w1310, w6, ⟨by decide, by decide⟩, by decide +kernel, w1307⟩, w1308, w1309⟩
theorem kL_137 : WVt RL 137 yX6_overheadOf cX6_overheadOf 2 (some .int) 1 := ⟨⟨w1314, w6, ⟨by decide, by decide⟩, by decide +kernel, w1311⟩, w1312, w1313⟩
theorem kL_140 : WVt RL 140 yX6_roomOf cX6_roomOf 2 (some .int) 1 := ⟨⟨w1318, w6, ⟨by decide, by decide⟩, by decide +kernel, w1315⟩, w1316, w1317⟩
theorem kL_144 : WVt RL 144 yX6_commitments cX6_commitments 1 (some .int) 0 := ⟨⟨w1322, w6, ⟨by decide, by decide⟩, by decide +kernel, w1319⟩, w1320, w1321⟩
theorem kL_147 : WVt RL 147 yX6_fundOf cX6_fundOf 2 (some .int) 1 := ⟨⟨w1326, w6, ⟨by decide, by decide⟩, by decide +kernel, w1323⟩, w1324, w1325⟩
theorem kL_150 : WVt RL 150 yX6_leftOf cX6_leftOf 2 (some .int) 1 := ⟨⟨w1330, w6, ⟨by decide, by decide⟩, by decide +kernel, w1327⟩, w1328, w1329⟩
theorem kL_153 : WVt RL 153 yX6_untilOf cX6_untilOf 2 (some .int) 1 := ⟨⟨w1334, w6, ⟨by decide, by decide⟩, by decide +kernel, w1331⟩, w1332, w1333⟩
theorem kL_157 : WVt RL 157 yX6_costs cX6_costs 1 (some .int) 0 := ⟨⟨w1338, w6, ⟨by decide, by decide⟩, by decide +kernel, w1335⟩, w1336, w1337⟩
theorem kL_160 : WVt RL 160 yX6_unpaidOf cX6_unpaidOf 2 (some .int) 1 := ⟨⟨w1342, w6, ⟨by decide, by decide⟩, by decide +kernel, w1339⟩, w1340, w1341⟩
theorem kL_163 : WVt RL 163 yX6_paidBy cX6_paidBy 3 (some .int) 2 := ⟨⟨w1350, w6, ⟨by decide, by decide⟩, by decide +kernel, w1347⟩, w1348, w1349⟩
theorem kL_167 : WVt RL 167 yX6_payable cX6_payable 1 (some .int) 0 := ⟨⟨w1354, w6, ⟨by decide, by decide⟩, by decide +kernel, w1351⟩, w1352, w1353⟩
theorem kL_170 : WVt RL 170 yX6_wouldPay cX6_wouldPay 2 (some .int) 1 := ⟨⟨w1358, w6, ⟨by decide, by decide⟩, by decide +kernel, w1355⟩, w1356, w1357⟩
theorem kL_173 : WVt RL 173 yX6_wouldTake cX6_wouldTake 4 (some .int) 1 := ⟨⟨w1362, w6, ⟨by decide, by decide⟩, by decide +kernel, w1359⟩, w1360, w1361⟩
theorem kL_176 : WVt RL 176 yX6_reason cX6_reason 7 (some .int) 1 := ⟨⟨w1366, w6, ⟨by decide, by decide⟩, by decide +kernel, w1363⟩, w1364, w1365⟩
