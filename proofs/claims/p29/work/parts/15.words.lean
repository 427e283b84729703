set_option maxRecDepth 100000 in
theorem w0 : (Jvm.Cond.initialized "RestrictedFundsLaw") ∈ WS := ws_in (List.mem_of_getElem? (i := 0) rfl) rfl
set_option maxRecDepth 100000 in
theorem w1 : (Jvm.Cond.initialized "RestrictedFunds") ∈ WS := ws_in (List.mem_of_getElem? (i := 1) rfl) rfl
set_option maxRecDepth 100000 in
theorem w2 : (Jvm.Cond.initialized "java/util/AbstractCollection") ∈ WS := ws_in (List.mem_of_getElem? (i := 2) rfl) rfl
set_option maxRecDepth 100000 in
theorem w3 : (Jvm.Cond.initialized "java/util/AbstractList") ∈ WS := ws_in (List.mem_of_getElem? (i := 3) rfl) rfl
set_option maxRecDepth 100000 in
theorem w4 : (Jvm.Cond.initialized "java/util/ArrayList") ∈ WS := ws_in (List.mem_of_getElem? (i := 4) rfl) rfl
set_option maxRecDepth 100000 in
theorem w5 : (Jvm.Cond.initialized "RestrictedFunds$Plan") ∈ WS := ws_in (List.mem_of_getElem? (i := 5) rfl) rfl
set_option maxRecDepth 100000 in
theorem w6 : (Jvm.Cond.initialized "java/lang/Throwable") ∈ WS := ws_in (List.mem_of_getElem? (i := 6) rfl) rfl
set_option maxRecDepth 100000 in
theorem w7 : (Jvm.Cond.initialized "java/lang/Exception") ∈ WS := ws_in (List.mem_of_getElem? (i := 7) rfl) rfl
set_option maxRecDepth 100000 in
theorem w8 : (Jvm.Cond.initialized "java/lang/RuntimeException") ∈ WS := ws_in (List.mem_of_getElem? (i := 8) rfl) rfl
set_option maxRecDepth 100000 in
theorem w9 : (Jvm.Cond.initialized "java/lang/IndexOutOfBoundsException") ∈ WS := ws_in (List.mem_of_getElem? (i := 9) rfl) rfl
set_option maxRecDepth 100000 in
theorem w10 : (Jvm.Cond.initialized "java/util/Objects") ∈ WS := ws_in (List.mem_of_getElem? (i := 10) rfl) rfl
set_option maxRecDepth 100000 in
theorem w11 : (Jvm.Cond.initialized "jdk/internal/util/Preconditions") ∈ WS := ws_in (List.mem_of_getElem? (i := 11) rfl) rfl
set_option maxRecDepth 100000 in
theorem w12 : (Jvm.Cond.initialized "java/lang/Math") ∈ WS := ws_in (List.mem_of_getElem? (i := 12) rfl) rfl
set_option maxRecDepth 100000 in
theorem w13 : (Jvm.Cond.initialized "jdk/internal/util/ArraysSupport") ∈ WS := ws_in (List.mem_of_getElem? (i := 13) rfl) rfl
set_option maxRecDepth 100000 in
theorem w14 : (Jvm.Cond.initialized "java/util/Arrays") ∈ WS := ws_in (List.mem_of_getElem? (i := 14) rfl) rfl
set_option maxRecDepth 100000 in
theorem w15 : (Jvm.Cond.initialized "java/lang/System") ∈ WS := ws_in (List.mem_of_getElem? (i := 15) rfl) rfl
set_option maxRecDepth 100000 in
theorem w16 : (Jvm.Cond.initialized "java/lang/IllegalArgumentException") ∈ WS := ws_in (List.mem_of_getElem? (i := 16) rfl) rfl
set_option maxRecDepth 100000 in
theorem w17 : (Jvm.Cond.initialized "java/lang/IllegalStateException") ∈ WS := ws_in (List.mem_of_getElem? (i := 17) rfl) rfl
set_option maxRecDepth 100000 in
theorem w18 : (Jvm.Cond.initialized "RestrictedFunds$Pot") ∈ WS := ws_in (List.mem_of_getElem? (i := 18) rfl) rfl
set_option maxRecDepth 100000 in
theorem w19 : (Jvm.Cond.initialized "RestrictedFunds$Fund") ∈ WS := ws_in (List.mem_of_getElem? (i := 19) rfl) rfl
set_option maxRecDepth 100000 in
theorem w20 : (Jvm.Cond.initialized "RestrictedFunds$Commitment") ∈ WS := ws_in (List.mem_of_getElem? (i := 20) rfl) rfl
set_option maxRecDepth 100000 in
theorem w21 : (Jvm.Cond.initialized "RestrictedFunds$Cost") ∈ WS := ws_in (List.mem_of_getElem? (i := 21) rfl) rfl
set_option maxRecDepth 100000 in
theorem w22 : (Jvm.Cond.classLink "RestrictedFundsLaw" (10 : Nat) "RestrictedFunds") ∈ WS := ws_in (List.mem_of_getElem? (i := 22) rfl) rfl
set_option maxRecDepth 100000 in
theorem w23 : (Jvm.Cond.instantiable "RestrictedFunds" (6 : Nat)) ∈ WS := ws_in (List.mem_of_getElem? (i := 23) rfl) rfl
set_option maxRecDepth 100000 in
theorem w24 : (Jvm.Cond.methodLink "RestrictedFundsLaw" (77 : Nat) ({ cls := "RestrictedFunds", name := "<init>", desc := "()V" } : Jvm.MethodName)) ∈ WS := ws_in (List.mem_of_getElem? (i := 24) rfl) rfl
set_option maxRecDepth 100000 in
theorem w25 : (Jvm.Cond.instanceMethod ({ cls := "RestrictedFunds", name := "<init>", desc := "()V" } : Jvm.MethodName)) ∈ WS := ws_in (List.mem_of_getElem? (i := 25) rfl) rfl
set_option maxRecDepth 100000 in
theorem w26 : (Jvm.Cond.code ({ cls := "RestrictedFunds", name := "<init>", desc := "()V" } : Jvm.MethodName) prog_1_method_1_code (1 : Nat) (Option.none : Option Jvm.ClassFile.FieldType)) ∈ WS := ws_in (List.mem_of_getElem? (i := 26) rfl) rfl
set_option maxRecDepth 100000 in
theorem w27 : (Jvm.Cond.methodLink "RestrictedFunds" (3 : Nat) ({ cls := "java/lang/Object", name := "<init>", desc := "()V" } : Jvm.MethodName)) ∈ WS := ws_in (List.mem_of_getElem? (i := 27) rfl) rfl
set_option maxRecDepth 100000 in
theorem w28 : (Jvm.Cond.instanceMethod ({ cls := "java/lang/Object", name := "<init>", desc := "()V" } : Jvm.MethodName)) ∈ WS := ws_in (List.mem_of_getElem? (i := 28) rfl) rfl
set_option maxRecDepth 100000 in
theorem w29 : (Jvm.Cond.code ({ cls := "java/lang/Object", name := "<init>", desc := "()V" } : Jvm.MethodName) object_method_1_code (1 : Nat) (Option.none : Option Jvm.ClassFile.FieldType)) ∈ WS := ws_in (List.mem_of_getElem? (i := 29) rfl) rfl
set_option maxRecDepth 100000 in
theorem w30 : (Jvm.Cond.classLink "RestrictedFunds" (9 : Nat) "java/util/ArrayList") ∈ WS := ws_in (List.mem_of_getElem? (i := 30) rfl) rfl
set_option maxRecDepth 100000 in
theorem w31 : (Jvm.Cond.instantiable "java/util/ArrayList" (3 : Nat)) ∈ WS := ws_in (List.mem_of_getElem? (i := 31) rfl) rfl
set_option maxRecDepth 100000 in
theorem w32 : (Jvm.Cond.methodLink "RestrictedFunds" (11 : Nat) ({ cls := "java/util/ArrayList", name := "<init>", desc := "()V" } : Jvm.MethodName)) ∈ WS := ws_in (List.mem_of_getElem? (i := 32) rfl) rfl
set_option maxRecDepth 100000 in
theorem w33 : (Jvm.Cond.instanceMethod ({ cls := "java/util/ArrayList", name := "<init>", desc := "()V" } : Jvm.MethodName)) ∈ WS := ws_in (List.mem_of_getElem? (i := 33) rfl) rfl
set_option maxRecDepth 100000 in
theorem w34 : (Jvm.Cond.code ({ cls := "java/util/ArrayList", name := "<init>", desc := "()V" } : Jvm.MethodName) prog_23_method_2_code (1 : Nat) (Option.none : Option Jvm.ClassFile.FieldType)) ∈ WS := ws_in (List.mem_of_getElem? (i := 34) rfl) rfl
set_option maxRecDepth 100000 in
theorem w35 : (Jvm.Cond.methodLink "java/util/ArrayList" (1 : Nat) ({ cls := "java/util/AbstractList", name := "<init>", desc := "()V" } : Jvm.MethodName)) ∈ WS := ws_in (List.mem_of_getElem? (i := 35) rfl) rfl
set_option maxRecDepth 100000 in
theorem w36 : (Jvm.Cond.instanceMethod ({ cls := "java/util/AbstractList", name := "<init>", desc := "()V" } : Jvm.MethodName)) ∈ WS := ws_in (List.mem_of_getElem? (i := 36) rfl) rfl
set_option maxRecDepth 100000 in
theorem w37 : (Jvm.Cond.code ({ cls := "java/util/AbstractList", name := "<init>", desc := "()V" } : Jvm.MethodName) prog_22_method_1_code (1 : Nat) (Option.none : Option Jvm.ClassFile.FieldType)) ∈ WS := ws_in (List.mem_of_getElem? (i := 37) rfl) rfl
set_option maxRecDepth 100000 in
theorem w38 : (Jvm.Cond.methodLink "java/util/AbstractList" (1 : Nat) ({ cls := "java/util/AbstractCollection", name := "<init>", desc := "()V" } : Jvm.MethodName)) ∈ WS := ws_in (List.mem_of_getElem? (i := 38) rfl) rfl
set_option maxRecDepth 100000 in
theorem w39 : (Jvm.Cond.instanceMethod ({ cls := "java/util/AbstractCollection", name := "<init>", desc := "()V" } : Jvm.MethodName)) ∈ WS := ws_in (List.mem_of_getElem? (i := 39) rfl) rfl
set_option maxRecDepth 100000 in
theorem w40 : (Jvm.Cond.code ({ cls := "java/util/AbstractCollection", name := "<init>", desc := "()V" } : Jvm.MethodName) prog_21_method_1_code (1 : Nat) (Option.none : Option Jvm.ClassFile.FieldType)) ∈ WS := ws_in (List.mem_of_getElem? (i := 40) rfl) rfl
set_option maxRecDepth 100000 in
theorem w41 : (Jvm.Cond.methodLink "java/util/AbstractCollection" (1 : Nat) ({ cls := "java/lang/Object", name := "<init>", desc := "()V" } : Jvm.MethodName)) ∈ WS := ws_in (List.mem_of_getElem? (i := 41) rfl) rfl
set_option maxRecDepth 100000 in
theorem w42 : (Jvm.Cond.fieldLink "java/util/ArrayList" (39 : Nat) "java/util/ArrayList" "DEFAULTCAPACITY_EMPTY_ELEMENTDATA" "[Ljava/lang/Object;") ∈ WS := ws_in (List.mem_of_getElem? (i := 42) rfl) rfl
set_option maxRecDepth 100000 in
theorem w44 : (Jvm.Cond.fieldLink "java/util/ArrayList" (9 : Nat) "java/util/ArrayList" "elementData" "[Ljava/lang/Object;") ∈ WS := ws_in (List.mem_of_getElem? (i := 44) rfl) rfl
set_option maxRecDepth 100000 in
theorem w45 : (Jvm.Cond.fieldLink "java/util/ArrayList" (48 : Nat) "java/util/ArrayList" "size" "I") ∈ WS := ws_in (List.mem_of_getElem? (i := 45) rfl) rfl
set_option maxRecDepth 100000 in
theorem w46 : (Jvm.Cond.fieldLink "java/util/AbstractList" (7 : Nat) "java/util/AbstractList" "modCount" "I") ∈ WS := ws_in (List.mem_of_getElem? (i := 46) rfl) rfl
set_option maxRecDepth 100000 in
theorem w47 : (Jvm.Cond.fieldLink "java/util/ArrayList" (63 : Nat) "java/util/ArrayList" "modCount" "I") ∈ WS := ws_in (List.mem_of_getElem? (i := 47) rfl) rfl
set_option maxRecDepth 100000 in
theorem w48 : (Jvm.Cond.sameField "java/util/ArrayList" "java/util/AbstractList" "modCount" "I") ∈ WS := ws_in (List.mem_of_getElem? (i := 48) rfl) rfl
set_option maxRecDepth 100000 in
theorem w49 : (Jvm.Cond.lays "java/util/ArrayList" "java/util/ArrayList" "elementData" "[Ljava/lang/Object;") ∈ WS := ws_in (List.mem_of_getElem? (i := 49) rfl) rfl
set_option maxRecDepth 100000 in
theorem w51 : (Jvm.Cond.lays "java/util/ArrayList" "java/util/ArrayList" "size" "I") ∈ WS := ws_in (List.mem_of_getElem? (i := 51) rfl) rfl
set_option maxRecDepth 100000 in
theorem w53 : (Jvm.Cond.lays "java/util/ArrayList" "java/util/AbstractList" "modCount" "I") ∈ WS := ws_in (List.mem_of_getElem? (i := 53) rfl) rfl
set_option maxRecDepth 100000 in
theorem w56 : (Jvm.Cond.classLink "RestrictedFunds" (25 : Nat) "RestrictedFunds$Plan") ∈ WS := ws_in (List.mem_of_getElem? (i := 56) rfl) rfl
set_option maxRecDepth 100000 in
theorem w57 : (Jvm.Cond.instantiable "RestrictedFunds$Plan" (11 : Nat)) ∈ WS := ws_in (List.mem_of_getElem? (i := 57) rfl) rfl
set_option maxRecDepth 100000 in
theorem w59 : (Jvm.Cond.instanceMethod ({ cls := "RestrictedFunds$Plan", name := "<init>", desc := "()V" } : Jvm.MethodName)) ∈ WS := ws_in (List.mem_of_getElem? (i := 59) rfl) rfl
set_option maxRecDepth 100000 in
theorem w60 : (Jvm.Cond.code ({ cls := "RestrictedFunds$Plan", name := "<init>", desc := "()V" } : Jvm.MethodName) prog_5_method_1_code (1 : Nat) (Option.none : Option Jvm.ClassFile.FieldType)) ∈ WS := ws_in (List.mem_of_getElem? (i := 60) rfl) rfl
set_option maxRecDepth 100000 in
theorem w61 : (Jvm.Cond.methodLink "RestrictedFunds$Plan" (3 : Nat) ({ cls := "java/lang/Object", name := "<init>", desc := "()V" } : Jvm.MethodName)) ∈ WS := ws_in (List.mem_of_getElem? (i := 61) rfl) rfl
set_option maxRecDepth 100000 in
theorem w62 : (Jvm.Cond.classLink "RestrictedFunds$Plan" (21 : Nat) "[[I") ∈ WS := ws_in (List.mem_of_getElem? (i := 62) rfl) rfl
set_option maxRecDepth 100000 in
theorem w64 : (Jvm.Cond.fieldLink "RestrictedFunds$Plan" (50 : Nat) "RestrictedFunds$Plan" "pots" "I") ∈ WS := ws_in (List.mem_of_getElem? (i := 64) rfl) rfl
set_option maxRecDepth 100000 in
theorem w65 : (Jvm.Cond.fieldLink "RestrictedFunds$Plan" (54 : Nat) "RestrictedFunds$Plan" "costs" "I") ∈ WS := ws_in (List.mem_of_getElem? (i := 65) rfl) rfl
set_option maxRecDepth 100000 in
theorem w66 : (Jvm.Cond.fieldLink "RestrictedFunds$Plan" (9 : Nat) "RestrictedFunds$Plan" "potLeft" "[I") ∈ WS := ws_in (List.mem_of_getElem? (i := 66) rfl) rfl
set_option maxRecDepth 100000 in
theorem w67 : (Jvm.Cond.fieldLink "RestrictedFunds$Plan" (15 : Nat) "RestrictedFunds$Plan" "costLeft" "[I") ∈ WS := ws_in (List.mem_of_getElem? (i := 67) rfl) rfl
set_option maxRecDepth 100000 in
theorem w68 : (Jvm.Cond.fieldLink "RestrictedFunds$Plan" (18 : Nat) "RestrictedFunds$Plan" "planned" "[I") ∈ WS := ws_in (List.mem_of_getElem? (i := 68) rfl) rfl
set_option maxRecDepth 100000 in
theorem w69 : (Jvm.Cond.fieldLink "RestrictedFunds$Plan" (23 : Nat) "RestrictedFunds$Plan" "shares" "[[I") ∈ WS := ws_in (List.mem_of_getElem? (i := 69) rfl) rfl
set_option maxRecDepth 100000 in
theorem w70 : (Jvm.Cond.fieldLink "RestrictedFunds$Plan" (26 : Nat) "RestrictedFunds$Plan" "reach" "[I") ∈ WS := ws_in (List.mem_of_getElem? (i := 70) rfl) rfl
set_option maxRecDepth 100000 in
theorem w71 : (Jvm.Cond.fieldLink "RestrictedFunds$Plan" (29 : Nat) "RestrictedFunds$Plan" "paying" "[I") ∈ WS := ws_in (List.mem_of_getElem? (i := 71) rfl) rfl
set_option maxRecDepth 100000 in
theorem w72 : (Jvm.Cond.fieldLink "RestrictedFunds$Plan" (32 : Nat) "RestrictedFunds$Plan" "queue" "[I") ∈ WS := ws_in (List.mem_of_getElem? (i := 72) rfl) rfl
set_option maxRecDepth 100000 in
theorem w73 : (Jvm.Cond.fieldLink "RestrictedFunds$Plan" (35 : Nat) "RestrictedFunds$Plan" "ahead" "[I") ∈ WS := ws_in (List.mem_of_getElem? (i := 73) rfl) rfl
set_option maxRecDepth 100000 in
theorem w74 : (Jvm.Cond.fieldLink "RestrictedFunds$Plan" (38 : Nat) "RestrictedFunds$Plan" "via" "[I") ∈ WS := ws_in (List.mem_of_getElem? (i := 74) rfl) rfl
set_option maxRecDepth 100000 in
theorem w75 : (Jvm.Cond.lays "RestrictedFunds$Plan" "RestrictedFunds$Plan" "pots" "I") ∈ WS := ws_in (List.mem_of_getElem? (i := 75) rfl) rfl
set_option maxRecDepth 100000 in
theorem w77 : (Jvm.Cond.lays "RestrictedFunds$Plan" "RestrictedFunds$Plan" "costs" "I") ∈ WS := ws_in (List.mem_of_getElem? (i := 77) rfl) rfl
set_option maxRecDepth 100000 in
theorem w79 : (Jvm.Cond.laysFinal "RestrictedFunds$Plan" "RestrictedFunds$Plan" "potLeft" "[I") ∈ WS := ws_in (List.mem_of_getElem? (i := 79) rfl) rfl
set_option maxRecDepth 100000 in
theorem w81 : (Jvm.Cond.laysFinal "RestrictedFunds$Plan" "RestrictedFunds$Plan" "costLeft" "[I") ∈ WS := ws_in (List.mem_of_getElem? (i := 81) rfl) rfl
set_option maxRecDepth 100000 in
theorem w83 : (Jvm.Cond.laysFinal "RestrictedFunds$Plan" "RestrictedFunds$Plan" "planned" "[I") ∈ WS := ws_in (List.mem_of_getElem? (i := 83) rfl) rfl
set_option maxRecDepth 100000 in
theorem w85 : (Jvm.Cond.laysFinal "RestrictedFunds$Plan" "RestrictedFunds$Plan" "shares" "[[I") ∈ WS := ws_in (List.mem_of_getElem? (i := 85) rfl) rfl
set_option maxRecDepth 100000 in
theorem w87 : (Jvm.Cond.laysFinal "RestrictedFunds$Plan" "RestrictedFunds$Plan" "reach" "[I") ∈ WS := ws_in (List.mem_of_getElem? (i := 87) rfl) rfl
set_option maxRecDepth 100000 in
theorem w89 : (Jvm.Cond.laysFinal "RestrictedFunds$Plan" "RestrictedFunds$Plan" "paying" "[I") ∈ WS := ws_in (List.mem_of_getElem? (i := 89) rfl) rfl
set_option maxRecDepth 100000 in
theorem w91 : (Jvm.Cond.laysFinal "RestrictedFunds$Plan" "RestrictedFunds$Plan" "queue" "[I") ∈ WS := ws_in (List.mem_of_getElem? (i := 91) rfl) rfl
set_option maxRecDepth 100000 in
theorem w93 : (Jvm.Cond.laysFinal "RestrictedFunds$Plan" "RestrictedFunds$Plan" "ahead" "[I") ∈ WS := ws_in (List.mem_of_getElem? (i := 93) rfl) rfl
set_option maxRecDepth 100000 in
theorem w95 : (Jvm.Cond.laysFinal "RestrictedFunds$Plan" "RestrictedFunds$Plan" "via" "[I") ∈ WS := ws_in (List.mem_of_getElem? (i := 95) rfl) rfl
set_option maxRecDepth 100000 in
theorem w98 : (Jvm.Cond.arrayClass Jvm.ClassFile.FieldType.int) ∈ WS := ws_in (List.mem_of_getElem? (i := 98) rfl) rfl
set_option maxRecDepth 100000 in
theorem w99 : (Jvm.Cond.fieldLink "RestrictedFunds" (12 : Nat) "RestrictedFunds" "funds" "Ljava/util/ArrayList;") ∈ WS := ws_in (List.mem_of_getElem? (i := 99) rfl) rfl
set_option maxRecDepth 100000 in
theorem w100 : (Jvm.Cond.fieldLink "RestrictedFunds" (16 : Nat) "RestrictedFunds" "commitments" "Ljava/util/ArrayList;") ∈ WS := ws_in (List.mem_of_getElem? (i := 100) rfl) rfl
set_option maxRecDepth 100000 in
theorem w101 : (Jvm.Cond.fieldLink "RestrictedFunds" (19 : Nat) "RestrictedFunds" "costs" "Ljava/util/ArrayList;") ∈ WS := ws_in (List.mem_of_getElem? (i := 101) rfl) rfl
set_option maxRecDepth 100000 in
theorem w102 : (Jvm.Cond.fieldLink "RestrictedFunds" (22 : Nat) "RestrictedFunds" "pots" "Ljava/util/ArrayList;") ∈ WS := ws_in (List.mem_of_getElem? (i := 102) rfl) rfl
set_option maxRecDepth 100000 in
theorem w103 : (Jvm.Cond.fieldLink "RestrictedFunds" (28 : Nat) "RestrictedFunds" "plan" "LRestrictedFunds$Plan;") ∈ WS := ws_in (List.mem_of_getElem? (i := 103) rfl) rfl
set_option maxRecDepth 100000 in
theorem w104 : (Jvm.Cond.fieldLink "RestrictedFunds" (32 : Nat) "RestrictedFunds" "today" "I") ∈ WS := ws_in (List.mem_of_getElem? (i := 104) rfl) rfl
set_option maxRecDepth 100000 in
theorem w105 : (Jvm.Cond.laysFinal "RestrictedFunds" "RestrictedFunds" "funds" "Ljava/util/ArrayList;") ∈ WS := ws_in (List.mem_of_getElem? (i := 105) rfl) rfl
set_option maxRecDepth 100000 in
theorem w107 : (Jvm.Cond.laysFinal "RestrictedFunds" "RestrictedFunds" "commitments" "Ljava/util/ArrayList;") ∈ WS := ws_in (List.mem_of_getElem? (i := 107) rfl) rfl
set_option maxRecDepth 100000 in
theorem w109 : (Jvm.Cond.laysFinal "RestrictedFunds" "RestrictedFunds" "costs" "Ljava/util/ArrayList;") ∈ WS := ws_in (List.mem_of_getElem? (i := 109) rfl) rfl
set_option maxRecDepth 100000 in
theorem w111 : (Jvm.Cond.laysFinal "RestrictedFunds" "RestrictedFunds" "pots" "Ljava/util/ArrayList;") ∈ WS := ws_in (List.mem_of_getElem? (i := 111) rfl) rfl
set_option maxRecDepth 100000 in
theorem w113 : (Jvm.Cond.laysFinal "RestrictedFunds" "RestrictedFunds" "plan" "LRestrictedFunds$Plan;") ∈ WS := ws_in (List.mem_of_getElem? (i := 113) rfl) rfl
set_option maxRecDepth 100000 in
theorem w115 : (Jvm.Cond.lays "RestrictedFunds" "RestrictedFunds" "today" "I") ∈ WS := ws_in (List.mem_of_getElem? (i := 115) rfl) rfl
set_option maxRecDepth 100000 in
theorem w118 : (Jvm.Cond.methodLink "RestrictedFundsLaw" (95 : Nat) ({ cls := "RestrictedFunds", name := "addFund", desc := "(IIII)I" } : Jvm.MethodName)) ∈ WS := ws_in (List.mem_of_getElem? (i := 118) rfl) rfl
set_option maxRecDepth 100000 in
theorem w119 : (Jvm.Cond.instanceMethod ({ cls := "RestrictedFunds", name := "addFund", desc := "(IIII)I" } : Jvm.MethodName)) ∈ WS := ws_in (List.mem_of_getElem? (i := 119) rfl) rfl
set_option maxRecDepth 100000 in
theorem w120 : (Jvm.Cond.selects "RestrictedFunds" ({ cls := "RestrictedFunds", name := "addFund", desc := "(IIII)I" } : Jvm.MethodName) ({ cls := "RestrictedFunds", name := "addFund", desc := "(IIII)I" } : Jvm.MethodName)) ∈ WS := ws_in (List.mem_of_getElem? (i := 120) rfl) rfl
set_option maxRecDepth 100000 in
theorem w121 : (Jvm.Cond.code ({ cls := "RestrictedFunds", name := "addFund", desc := "(IIII)I" } : Jvm.MethodName) prog_1_method_2_code (6 : Nat) (Option.some Jvm.ClassFile.FieldType.int)) ∈ WS := ws_in (List.mem_of_getElem? (i := 121) rfl) rfl
set_option maxRecDepth 100000 in
theorem w122 : (Jvm.Cond.constant "RestrictedFunds" (36 : Nat) (99999 : Int32)) ∈ WS := ws_in (List.mem_of_getElem? (i := 122) rfl) rfl
set_option maxRecDepth 100000 in
theorem w123 : (Jvm.Cond.methodLink "RestrictedFunds" (37 : Nat) ({ cls := "RestrictedFunds", name := "requireRange", desc := "(III)V" } : Jvm.MethodName)) ∈ WS := ws_in (List.mem_of_getElem? (i := 123) rfl) rfl
set_option maxRecDepth 100000 in
theorem w124 : (Jvm.Cond.static ({ cls := "RestrictedFunds", name := "requireRange", desc := "(III)V" } : Jvm.MethodName)) ∈ WS := ws_in (List.mem_of_getElem? (i := 124) rfl) rfl
set_option maxRecDepth 100000 in
theorem w125 : (Jvm.Cond.code ({ cls := "RestrictedFunds", name := "requireRange", desc := "(III)V" } : Jvm.MethodName) prog_1_method_28_code (3 : Nat) (Option.none : Option Jvm.ClassFile.FieldType)) ∈ WS := ws_in (List.mem_of_getElem? (i := 125) rfl) rfl
set_option maxRecDepth 100000 in
theorem w126 : (Jvm.Cond.classLink "RestrictedFunds" (175 : Nat) "java/lang/IllegalArgumentException") ∈ WS := ws_in (List.mem_of_getElem? (i := 126) rfl) rfl
set_option maxRecDepth 100000 in
theorem w127 : (Jvm.Cond.instantiable "java/lang/IllegalArgumentException" (6 : Nat)) ∈ WS := ws_in (List.mem_of_getElem? (i := 127) rfl) rfl
set_option maxRecDepth 100000 in
theorem w135 : (Jvm.Cond.selects "java/lang/IllegalArgumentException" ({ cls := "java/lang/Throwable", name := "fillInStackTrace", desc := "(I)Ljava/lang/Throwable;" } : Jvm.MethodName) ({ cls := "java/lang/Throwable", name := "fillInStackTrace", desc := "(I)Ljava/lang/Throwable;" } : Jvm.MethodName)) ∈ WS := ws_in (List.mem_of_getElem? (i := 135) rfl) rfl
set_option maxRecDepth 100000 in
theorem w136 : (Jvm.Cond.selects "java/lang/IllegalArgumentException" ({ cls := "java/lang/Throwable", name := "fillInStackTrace", desc := "()Ljava/lang/Throwable;" } : Jvm.MethodName) ({ cls := "java/lang/Throwable", name := "fillInStackTrace", desc := "()Ljava/lang/Throwable;" } : Jvm.MethodName)) ∈ WS := ws_in (List.mem_of_getElem? (i := 136) rfl) rfl
set_option maxRecDepth 100000 in
theorem w137 : (Jvm.Cond.lays "java/lang/IllegalArgumentException" "java/lang/Throwable" "cause" "Ljava/lang/Throwable;") ∈ WS := ws_in (List.mem_of_getElem? (i := 137) rfl) rfl
set_option maxRecDepth 100000 in
theorem w138 : (Jvm.Cond.lays "java/lang/Throwable" "java/lang/Throwable" "cause" "Ljava/lang/Throwable;") ∈ WS := ws_in (List.mem_of_getElem? (i := 138) rfl) rfl
set_option maxRecDepth 100000 in
theorem w139 : (Jvm.Cond.lays "java/lang/IllegalArgumentException" "java/lang/Throwable" "stackTrace" "[Ljava/lang/StackTraceElement;") ∈ WS := ws_in (List.mem_of_getElem? (i := 139) rfl) rfl
set_option maxRecDepth 100000 in
theorem w140 : (Jvm.Cond.lays "java/lang/Throwable" "java/lang/Throwable" "stackTrace" "[Ljava/lang/StackTraceElement;") ∈ WS := ws_in (List.mem_of_getElem? (i := 140) rfl) rfl
set_option maxRecDepth 100000 in
theorem w141 : (Jvm.Cond.lays "java/lang/IllegalArgumentException" "java/lang/Throwable" "suppressedExceptions" "Ljava/util/List;") ∈ WS := ws_in (List.mem_of_getElem? (i := 141) rfl) rfl
set_option maxRecDepth 100000 in
theorem w142 : (Jvm.Cond.lays "java/lang/Throwable" "java/lang/Throwable" "suppressedExceptions" "Ljava/util/List;") ∈ WS := ws_in (List.mem_of_getElem? (i := 142) rfl) rfl
set_option maxRecDepth 100000 in
theorem w143 : (Jvm.Cond.lays "java/lang/IllegalArgumentException" "java/lang/Throwable" "detailMessage" "Ljava/lang/String;") ∈ WS := ws_in (List.mem_of_getElem? (i := 143) rfl) rfl
set_option maxRecDepth 100000 in
theorem w144 : (Jvm.Cond.lays "java/lang/Throwable" "java/lang/Throwable" "detailMessage" "Ljava/lang/String;") ∈ WS := ws_in (List.mem_of_getElem? (i := 144) rfl) rfl
set_option maxRecDepth 100000 in
theorem w145 : (Jvm.Cond.lays "java/lang/IllegalArgumentException" "java/lang/Throwable" "backtrace" "Ljava/lang/Object;") ∈ WS := ws_in (List.mem_of_getElem? (i := 145) rfl) rfl
set_option maxRecDepth 100000 in
theorem w146 : (Jvm.Cond.lays "java/lang/Throwable" "java/lang/Throwable" "backtrace" "Ljava/lang/Object;") ∈ WS := ws_in (List.mem_of_getElem? (i := 146) rfl) rfl
set_option maxRecDepth 100000 in
theorem w149 : (Jvm.Cond.instanceMethod ({ cls := "java/lang/Throwable", name := "<init>", desc := "()V" } : Jvm.MethodName)) ∈ WS := ws_in (List.mem_of_getElem? (i := 149) rfl) rfl
set_option maxRecDepth 100000 in
theorem w150 : (Jvm.Cond.code ({ cls := "java/lang/Throwable", name := "<init>", desc := "()V" } : Jvm.MethodName) prog_20_method_1_code (1 : Nat) (Option.none : Option Jvm.ClassFile.FieldType)) ∈ WS := ws_in (List.mem_of_getElem? (i := 150) rfl) rfl
set_option maxRecDepth 100000 in
theorem w157 : (Jvm.Cond.instanceMethod ({ cls := "java/lang/Throwable", name := "fillInStackTrace", desc := "()Ljava/lang/Throwable;" } : Jvm.MethodName)) ∈ WS := ws_in (List.mem_of_getElem? (i := 157) rfl) rfl
set_option maxRecDepth 100000 in
theorem w158 : (Jvm.Cond.sameMethod "java/lang/Throwable" "java/lang/Throwable" "fillInStackTrace" "()Ljava/lang/Throwable;") ∈ WS := ws_in (List.mem_of_getElem? (i := 158) rfl) rfl
set_option maxRecDepth 100000 in
theorem w159 : (Jvm.Cond.selects "java/lang/IllegalStateException" ({ cls := "java/lang/Throwable", name := "fillInStackTrace", desc := "()Ljava/lang/Throwable;" } : Jvm.MethodName) ({ cls := "java/lang/Throwable", name := "fillInStackTrace", desc := "()Ljava/lang/Throwable;" } : Jvm.MethodName)) ∈ WS := ws_in (List.mem_of_getElem? (i := 159) rfl) rfl
set_option maxRecDepth 100000 in
theorem w160 : (Jvm.Cond.selects "java/lang/IndexOutOfBoundsException" ({ cls := "java/lang/Throwable", name := "fillInStackTrace", desc := "()Ljava/lang/Throwable;" } : Jvm.MethodName) ({ cls := "java/lang/Throwable", name := "fillInStackTrace", desc := "()Ljava/lang/Throwable;" } : Jvm.MethodName)) ∈ WS := ws_in (List.mem_of_getElem? (i := 160) rfl) rfl
set_option maxRecDepth 100000 in
theorem w164 : (Jvm.Cond.instanceMethod ({ cls := "java/lang/Throwable", name := "fillInStackTrace", desc := "(I)Ljava/lang/Throwable;" } : Jvm.MethodName)) ∈ WS := ws_in (List.mem_of_getElem? (i := 164) rfl) rfl
set_option maxRecDepth 100000 in
theorem w165 : (Jvm.Cond.instantiable "java/lang/Throwable" (6 : Nat)) ∈ WS := ws_in (List.mem_of_getElem? (i := 165) rfl) rfl
set_option maxRecDepth 100000 in
theorem w168 : (Jvm.Cond.methodLink "RestrictedFunds" (179 : Nat) ({ cls := "java/lang/IllegalArgumentException", name := "<init>", desc := "(Ljava/lang/String;)V" } : Jvm.MethodName)) ∈ WS := ws_in (List.mem_of_getElem? (i := 168) rfl) rfl
set_option maxRecDepth 100000 in
theorem w169 : (Jvm.Cond.instanceMethod ({ cls := "java/lang/IllegalArgumentException", name := "<init>", desc := "(Ljava/lang/String;)V" } : Jvm.MethodName)) ∈ WS := ws_in (List.mem_of_getElem? (i := 169) rfl) rfl
set_option maxRecDepth 100000 in
theorem w170 : (Jvm.Cond.code ({ cls := "java/lang/IllegalArgumentException", name := "<init>", desc := "(Ljava/lang/String;)V" } : Jvm.MethodName) prog_12_method_2_code (2 : Nat) (Option.none : Option Jvm.ClassFile.FieldType)) ∈ WS := ws_in (List.mem_of_getElem? (i := 170) rfl) rfl
set_option maxRecDepth 100000 in
theorem w172 : (Jvm.Cond.instanceMethod ({ cls := "java/lang/RuntimeException", name := "<init>", desc := "(Ljava/lang/String;)V" } : Jvm.MethodName)) ∈ WS := ws_in (List.mem_of_getElem? (i := 172) rfl) rfl
set_option maxRecDepth 100000 in
theorem w173 : (Jvm.Cond.code ({ cls := "java/lang/RuntimeException", name := "<init>", desc := "(Ljava/lang/String;)V" } : Jvm.MethodName) prog_17_method_2_code (2 : Nat) (Option.none : Option Jvm.ClassFile.FieldType)) ∈ WS := ws_in (List.mem_of_getElem? (i := 173) rfl) rfl
set_option maxRecDepth 100000 in
theorem w175 : (Jvm.Cond.instanceMethod ({ cls := "java/lang/Exception", name := "<init>", desc := "(Ljava/lang/String;)V" } : Jvm.MethodName)) ∈ WS := ws_in (List.mem_of_getElem? (i := 175) rfl) rfl
set_option maxRecDepth 100000 in
theorem w176 : (Jvm.Cond.code ({ cls := "java/lang/Exception", name := "<init>", desc := "(Ljava/lang/String;)V" } : Jvm.MethodName) prog_11_method_2_code (2 : Nat) (Option.none : Option Jvm.ClassFile.FieldType)) ∈ WS := ws_in (List.mem_of_getElem? (i := 176) rfl) rfl
set_option maxRecDepth 100000 in
theorem w178 : (Jvm.Cond.instanceMethod ({ cls := "java/lang/Throwable", name := "<init>", desc := "(Ljava/lang/String;)V" } : Jvm.MethodName)) ∈ WS := ws_in (List.mem_of_getElem? (i := 178) rfl) rfl
set_option maxRecDepth 100000 in
theorem w179 : (Jvm.Cond.code ({ cls := "java/lang/Throwable", name := "<init>", desc := "(Ljava/lang/String;)V" } : Jvm.MethodName) prog_20_method_2_code (2 : Nat) (Option.none : Option Jvm.ClassFile.FieldType)) ∈ WS := ws_in (List.mem_of_getElem? (i := 179) rfl) rfl
set_option maxRecDepth 100000 in
theorem w189 : (Jvm.Cond.lays "java/lang/IllegalArgumentException" "java/lang/Throwable" "depth" "I") ∈ WS := ws_in (List.mem_of_getElem? (i := 189) rfl) rfl
set_option maxRecDepth 100000 in
theorem w193 : (Jvm.Cond.arrayClass Jvm.ClassFile.FieldType.byte) ∈ WS := ws_in (List.mem_of_getElem? (i := 193) rfl) rfl
set_option maxRecDepth 100000 in
theorem w194 : (Jvm.Cond.methodLink "RestrictedFunds" (41 : Nat) ({ cls := "java/util/ArrayList", name := "size", desc := "()I" } : Jvm.MethodName)) ∈ WS := ws_in (List.mem_of_getElem? (i := 194) rfl) rfl
set_option maxRecDepth 100000 in
theorem w195 : (Jvm.Cond.instanceMethod ({ cls := "java/util/ArrayList", name := "size", desc := "()I" } : Jvm.MethodName)) ∈ WS := ws_in (List.mem_of_getElem? (i := 195) rfl) rfl
set_option maxRecDepth 100000 in
theorem w196 : (Jvm.Cond.selects "java/util/ArrayList" ({ cls := "java/util/ArrayList", name := "size", desc := "()I" } : Jvm.MethodName) ({ cls := "java/util/ArrayList", name := "size", desc := "()I" } : Jvm.MethodName)) ∈ WS := ws_in (List.mem_of_getElem? (i := 196) rfl) rfl
set_option maxRecDepth 100000 in
theorem w197 : (Jvm.Cond.code ({ cls := "java/util/ArrayList", name := "size", desc := "()I" } : Jvm.MethodName) prog_23_method_8_code (1 : Nat) (Option.some Jvm.ClassFile.FieldType.int)) ∈ WS := ws_in (List.mem_of_getElem? (i := 197) rfl) rfl
set_option maxRecDepth 100000 in
theorem w198 : (Jvm.Cond.methodLink "RestrictedFunds" (45 : Nat) ({ cls := "RestrictedFunds", name := "requireState", desc := "(Z)V" } : Jvm.MethodName)) ∈ WS := ws_in (List.mem_of_getElem? (i := 198) rfl) rfl
set_option maxRecDepth 100000 in
theorem w199 : (Jvm.Cond.static ({ cls := "RestrictedFunds", name := "requireState", desc := "(Z)V" } : Jvm.MethodName)) ∈ WS := ws_in (List.mem_of_getElem? (i := 199) rfl) rfl
set_option maxRecDepth 100000 in
theorem w200 : (Jvm.Cond.code ({ cls := "RestrictedFunds", name := "requireState", desc := "(Z)V" } : Jvm.MethodName) prog_1_method_29_code (1 : Nat) (Option.none : Option Jvm.ClassFile.FieldType)) ∈ WS := ws_in (List.mem_of_getElem? (i := 200) rfl) rfl
set_option maxRecDepth 100000 in
theorem w201 : (Jvm.Cond.classLink "RestrictedFunds" (182 : Nat) "java/lang/IllegalStateException") ∈ WS := ws_in (List.mem_of_getElem? (i := 201) rfl) rfl
set_option maxRecDepth 100000 in
theorem w202 : (Jvm.Cond.instantiable "java/lang/IllegalStateException" (6 : Nat)) ∈ WS := ws_in (List.mem_of_getElem? (i := 202) rfl) rfl
set_option maxRecDepth 100000 in
theorem w204 : (Jvm.Cond.selects "java/lang/IllegalStateException" ({ cls := "java/lang/Throwable", name := "fillInStackTrace", desc := "(I)Ljava/lang/Throwable;" } : Jvm.MethodName) ({ cls := "java/lang/Throwable", name := "fillInStackTrace", desc := "(I)Ljava/lang/Throwable;" } : Jvm.MethodName)) ∈ WS := ws_in (List.mem_of_getElem? (i := 204) rfl) rfl
set_option maxRecDepth 100000 in
theorem w205 : (Jvm.Cond.lays "java/lang/IllegalStateException" "java/lang/Throwable" "cause" "Ljava/lang/Throwable;") ∈ WS := ws_in (List.mem_of_getElem? (i := 205) rfl) rfl
set_option maxRecDepth 100000 in
theorem w206 : (Jvm.Cond.lays "java/lang/IllegalStateException" "java/lang/Throwable" "stackTrace" "[Ljava/lang/StackTraceElement;") ∈ WS := ws_in (List.mem_of_getElem? (i := 206) rfl) rfl
set_option maxRecDepth 100000 in
theorem w207 : (Jvm.Cond.lays "java/lang/IllegalStateException" "java/lang/Throwable" "suppressedExceptions" "Ljava/util/List;") ∈ WS := ws_in (List.mem_of_getElem? (i := 207) rfl) rfl
set_option maxRecDepth 100000 in
theorem w208 : (Jvm.Cond.lays "java/lang/IllegalStateException" "java/lang/Throwable" "detailMessage" "Ljava/lang/String;") ∈ WS := ws_in (List.mem_of_getElem? (i := 208) rfl) rfl
set_option maxRecDepth 100000 in
theorem w209 : (Jvm.Cond.lays "java/lang/IllegalStateException" "java/lang/Throwable" "backtrace" "Ljava/lang/Object;") ∈ WS := ws_in (List.mem_of_getElem? (i := 209) rfl) rfl
set_option maxRecDepth 100000 in
theorem w211 : (Jvm.Cond.methodLink "RestrictedFunds" (186 : Nat) ({ cls := "java/lang/IllegalStateException", name := "<init>", desc := "(Ljava/lang/String;)V" } : Jvm.MethodName)) ∈ WS := ws_in (List.mem_of_getElem? (i := 211) rfl) rfl
set_option maxRecDepth 100000 in
theorem w212 : (Jvm.Cond.instanceMethod ({ cls := "java/lang/IllegalStateException", name := "<init>", desc := "(Ljava/lang/String;)V" } : Jvm.MethodName)) ∈ WS := ws_in (List.mem_of_getElem? (i := 212) rfl) rfl
set_option maxRecDepth 100000 in
theorem w213 : (Jvm.Cond.code ({ cls := "java/lang/IllegalStateException", name := "<init>", desc := "(Ljava/lang/String;)V" } : Jvm.MethodName) prog_13_method_2_code (2 : Nat) (Option.none : Option Jvm.ClassFile.FieldType)) ∈ WS := ws_in (List.mem_of_getElem? (i := 213) rfl) rfl
set_option maxRecDepth 100000 in
theorem w215 : (Jvm.Cond.lays "java/lang/IllegalStateException" "java/lang/Throwable" "depth" "I") ∈ WS := ws_in (List.mem_of_getElem? (i := 215) rfl) rfl
set_option maxRecDepth 100000 in
theorem w217 : (Jvm.Cond.classLink "RestrictedFunds" (49 : Nat) "RestrictedFunds$Fund") ∈ WS := ws_in (List.mem_of_getElem? (i := 217) rfl) rfl
set_option maxRecDepth 100000 in
theorem w218 : (Jvm.Cond.instantiable "RestrictedFunds$Fund" (7 : Nat)) ∈ WS := ws_in (List.mem_of_getElem? (i := 218) rfl) rfl
set_option maxRecDepth 100000 in
theorem w219 : (Jvm.Cond.methodLink "RestrictedFunds" (51 : Nat) ({ cls := "RestrictedFunds$Fund", name := "<init>", desc := "(IIIII)V" } : Jvm.MethodName)) ∈ WS := ws_in (List.mem_of_getElem? (i := 219) rfl) rfl
set_option maxRecDepth 100000 in
theorem w220 : (Jvm.Cond.instanceMethod ({ cls := "RestrictedFunds$Fund", name := "<init>", desc := "(IIIII)V" } : Jvm.MethodName)) ∈ WS := ws_in (List.mem_of_getElem? (i := 220) rfl) rfl
set_option maxRecDepth 100000 in
theorem w221 : (Jvm.Cond.code ({ cls := "RestrictedFunds$Fund", name := "<init>", desc := "(IIIII)V" } : Jvm.MethodName) prog_4_method_1_code (6 : Nat) (Option.none : Option Jvm.ClassFile.FieldType)) ∈ WS := ws_in (List.mem_of_getElem? (i := 221) rfl) rfl
set_option maxRecDepth 100000 in
theorem w222 : (Jvm.Cond.methodLink "RestrictedFunds$Fund" (3 : Nat) ({ cls := "RestrictedFunds$Pot", name := "<init>", desc := "(I)V" } : Jvm.MethodName)) ∈ WS := ws_in (List.mem_of_getElem? (i := 222) rfl) rfl
set_option maxRecDepth 100000 in
theorem w223 : (Jvm.Cond.instanceMethod ({ cls := "RestrictedFunds$Pot", name := "<init>", desc := "(I)V" } : Jvm.MethodName)) ∈ WS := ws_in (List.mem_of_getElem? (i := 223) rfl) rfl
set_option maxRecDepth 100000 in
theorem w224 : (Jvm.Cond.code ({ cls := "RestrictedFunds$Pot", name := "<init>", desc := "(I)V" } : Jvm.MethodName) prog_6_method_1_code (2 : Nat) (Option.none : Option Jvm.ClassFile.FieldType)) ∈ WS := ws_in (List.mem_of_getElem? (i := 224) rfl) rfl
set_option maxRecDepth 100000 in
theorem w225 : (Jvm.Cond.methodLink "RestrictedFunds$Pot" (1 : Nat) ({ cls := "java/lang/Object", name := "<init>", desc := "()V" } : Jvm.MethodName)) ∈ WS := ws_in (List.mem_of_getElem? (i := 225) rfl) rfl
set_option maxRecDepth 100000 in
theorem w226 : (Jvm.Cond.fieldLink "RestrictedFunds$Fund" (9 : Nat) "RestrictedFunds$Fund" "number" "I") ∈ WS := ws_in (List.mem_of_getElem? (i := 226) rfl) rfl
set_option maxRecDepth 100000 in
theorem w227 : (Jvm.Cond.fieldLink "RestrictedFunds$Cost" (25 : Nat) "RestrictedFunds$Fund" "number" "I") ∈ WS := ws_in (List.mem_of_getElem? (i := 227) rfl) rfl
set_option maxRecDepth 100000 in
theorem w228 : (Jvm.Cond.fieldLink "RestrictedFunds" (135 : Nat) "RestrictedFunds$Fund" "number" "I") ∈ WS := ws_in (List.mem_of_getElem? (i := 228) rfl) rfl
set_option maxRecDepth 100000 in
theorem w229 : (Jvm.Cond.fieldLink "RestrictedFunds$Fund" (15 : Nat) "RestrictedFunds$Fund" "allowed" "I") ∈ WS := ws_in (List.mem_of_getElem? (i := 229) rfl) rfl
set_option maxRecDepth 100000 in
theorem w230 : (Jvm.Cond.fieldLink "RestrictedFunds$Fund" (18 : Nat) "RestrictedFunds$Fund" "lastDay" "I") ∈ WS := ws_in (List.mem_of_getElem? (i := 230) rfl) rfl
set_option maxRecDepth 100000 in
theorem w231 : (Jvm.Cond.fieldLink "RestrictedFunds$Fund" (21 : Nat) "RestrictedFunds$Fund" "ceiling" "I") ∈ WS := ws_in (List.mem_of_getElem? (i := 231) rfl) rfl
set_option maxRecDepth 100000 in
theorem w232 : (Jvm.Cond.fieldLink "RestrictedFunds$Fund" (44 : Nat) "RestrictedFunds$Fund" "direct" "I") ∈ WS := ws_in (List.mem_of_getElem? (i := 232) rfl) rfl
set_option maxRecDepth 100000 in
theorem w233 : (Jvm.Cond.fieldLink "RestrictedFunds" (126 : Nat) "RestrictedFunds$Fund" "direct" "I") ∈ WS := ws_in (List.mem_of_getElem? (i := 233) rfl) rfl
set_option maxRecDepth 100000 in
theorem w234 : (Jvm.Cond.fieldLink "RestrictedFunds$Fund" (47 : Nat) "RestrictedFunds$Fund" "overhead" "I") ∈ WS := ws_in (List.mem_of_getElem? (i := 234) rfl) rfl
set_option maxRecDepth 100000 in
theorem w235 : (Jvm.Cond.fieldLink "RestrictedFunds" (129 : Nat) "RestrictedFunds$Fund" "overhead" "I") ∈ WS := ws_in (List.mem_of_getElem? (i := 235) rfl) rfl
set_option maxRecDepth 100000 in
theorem w236 : (Jvm.Cond.fieldLink "RestrictedFunds$Pot" (7 : Nat) "RestrictedFunds$Pot" "money" "I") ∈ WS := ws_in (List.mem_of_getElem? (i := 236) rfl) rfl
set_option maxRecDepth 100000 in
theorem w237 : (Jvm.Cond.fieldLink "RestrictedFunds" (62 : Nat) "RestrictedFunds$Fund" "money" "I") ∈ WS := ws_in (List.mem_of_getElem? (i := 237) rfl) rfl
set_option maxRecDepth 100000 in
theorem w238 : (Jvm.Cond.sameField "RestrictedFunds$Fund" "RestrictedFunds$Pot" "money" "I") ∈ WS := ws_in (List.mem_of_getElem? (i := 238) rfl) rfl
set_option maxRecDepth 100000 in
theorem w239 : (Jvm.Cond.fieldLink "RestrictedFunds" (78 : Nat) "RestrictedFunds$Commitment" "money" "I") ∈ WS := ws_in (List.mem_of_getElem? (i := 239) rfl) rfl
set_option maxRecDepth 100000 in
theorem w240 : (Jvm.Cond.sameField "RestrictedFunds$Commitment" "RestrictedFunds$Pot" "money" "I") ∈ WS := ws_in (List.mem_of_getElem? (i := 240) rfl) rfl
set_option maxRecDepth 100000 in
theorem w241 : (Jvm.Cond.fieldLink "RestrictedFunds$Fund" (50 : Nat) "RestrictedFunds$Fund" "money" "I") ∈ WS := ws_in (List.mem_of_getElem? (i := 241) rfl) rfl
set_option maxRecDepth 100000 in
theorem w242 : (Jvm.Cond.fieldLink "RestrictedFunds" (158 : Nat) "RestrictedFunds$Pot" "money" "I") ∈ WS := ws_in (List.mem_of_getElem? (i := 242) rfl) rfl
set_option maxRecDepth 100000 in
theorem w243 : (Jvm.Cond.laysFinal "RestrictedFunds$Fund" "RestrictedFunds$Fund" "number" "I") ∈ WS := ws_in (List.mem_of_getElem? (i := 243) rfl) rfl
set_option maxRecDepth 100000 in
theorem w245 : (Jvm.Cond.laysFinal "RestrictedFunds$Fund" "RestrictedFunds$Fund" "allowed" "I") ∈ WS := ws_in (List.mem_of_getElem? (i := 245) rfl) rfl
set_option maxRecDepth 100000 in
theorem w247 : (Jvm.Cond.laysFinal "RestrictedFunds$Fund" "RestrictedFunds$Fund" "lastDay" "I") ∈ WS := ws_in (List.mem_of_getElem? (i := 247) rfl) rfl
set_option maxRecDepth 100000 in
theorem w249 : (Jvm.Cond.laysFinal "RestrictedFunds$Fund" "RestrictedFunds$Fund" "ceiling" "I") ∈ WS := ws_in (List.mem_of_getElem? (i := 249) rfl) rfl
set_option maxRecDepth 100000 in
theorem w251 : (Jvm.Cond.lays "RestrictedFunds$Fund" "RestrictedFunds$Fund" "direct" "I") ∈ WS := ws_in (List.mem_of_getElem? (i := 251) rfl) rfl
set_option maxRecDepth 100000 in
theorem w253 : (Jvm.Cond.lays "RestrictedFunds$Fund" "RestrictedFunds$Fund" "overhead" "I") ∈ WS := ws_in (List.mem_of_getElem? (i := 253) rfl) rfl
set_option maxRecDepth 100000 in
theorem w255 : (Jvm.Cond.lays "RestrictedFunds$Fund" "RestrictedFunds$Pot" "money" "I") ∈ WS := ws_in (List.mem_of_getElem? (i := 255) rfl) rfl
set_option maxRecDepth 100000 in
theorem w258 : (Jvm.Cond.methodLink "RestrictedFunds" (54 : Nat) ({ cls := "java/util/ArrayList", name := "add", desc := "(Ljava/lang/Object;)Z" } : Jvm.MethodName)) ∈ WS := ws_in (List.mem_of_getElem? (i := 258) rfl) rfl
set_option maxRecDepth 100000 in
theorem w259 : (Jvm.Cond.instanceMethod ({ cls := "java/util/ArrayList", name := "add", desc := "(Ljava/lang/Object;)Z" } : Jvm.MethodName)) ∈ WS := ws_in (List.mem_of_getElem? (i := 259) rfl) rfl
set_option maxRecDepth 100000 in
theorem w260 : (Jvm.Cond.selects "java/util/ArrayList" ({ cls := "java/util/ArrayList", name := "add", desc := "(Ljava/lang/Object;)Z" } : Jvm.MethodName) ({ cls := "java/util/ArrayList", name := "add", desc := "(Ljava/lang/Object;)Z" } : Jvm.MethodName)) ∈ WS := ws_in (List.mem_of_getElem? (i := 260) rfl) rfl
set_option maxRecDepth 100000 in
theorem w261 : (Jvm.Cond.code ({ cls := "java/util/ArrayList", name := "add", desc := "(Ljava/lang/Object;)Z" } : Jvm.MethodName) prog_23_method_25_code (2 : Nat) (Option.some Jvm.ClassFile.FieldType.boolean)) ∈ WS := ws_in (List.mem_of_getElem? (i := 261) rfl) rfl
set_option maxRecDepth 100000 in
theorem w262 : (Jvm.Cond.methodLink "java/util/ArrayList" (131 : Nat) ({ cls := "java/util/ArrayList", name := "add", desc := "(Ljava/lang/Object;[Ljava/lang/Object;I)V" } : Jvm.MethodName)) ∈ WS := ws_in (List.mem_of_getElem? (i := 262) rfl) rfl
set_option maxRecDepth 100000 in
theorem w264 : (Jvm.Cond.instanceMethod ({ cls := "java/util/ArrayList", name := "add", desc := "(Ljava/lang/Object;[Ljava/lang/Object;I)V" } : Jvm.MethodName)) ∈ WS := ws_in (List.mem_of_getElem? (i := 264) rfl) rfl
set_option maxRecDepth 100000 in
theorem w265 : (Jvm.Cond.code ({ cls := "java/util/ArrayList", name := "add", desc := "(Ljava/lang/Object;[Ljava/lang/Object;I)V" } : Jvm.MethodName) prog_23_method_24_code (4 : Nat) (Option.none : Option Jvm.ClassFile.FieldType)) ∈ WS := ws_in (List.mem_of_getElem? (i := 265) rfl) rfl
set_option maxRecDepth 100000 in
theorem w266 : (Jvm.Cond.methodLink "java/util/ArrayList" (129 : Nat) ({ cls := "java/util/ArrayList", name := "grow", desc := "()[Ljava/lang/Object;" } : Jvm.MethodName)) ∈ WS := ws_in (List.mem_of_getElem? (i := 266) rfl) rfl
set_option maxRecDepth 100000 in
theorem w268 : (Jvm.Cond.instanceMethod ({ cls := "java/util/ArrayList", name := "grow", desc := "()[Ljava/lang/Object;" } : Jvm.MethodName)) ∈ WS := ws_in (List.mem_of_getElem? (i := 268) rfl) rfl
set_option maxRecDepth 100000 in
theorem w269 : (Jvm.Cond.code ({ cls := "java/util/ArrayList", name := "grow", desc := "()[Ljava/lang/Object;" } : Jvm.MethodName) prog_23_method_7_code (1 : Nat) (Option.some (Jvm.ClassFile.FieldType.array (Jvm.ClassFile.FieldType.object "java/lang/Object")))) ∈ WS := ws_in (List.mem_of_getElem? (i := 269) rfl) rfl
set_option maxRecDepth 100000 in
theorem w270 : (Jvm.Cond.methodLink "java/util/ArrayList" (69 : Nat) ({ cls := "java/util/ArrayList", name := "grow", desc := "(I)[Ljava/lang/Object;" } : Jvm.MethodName)) ∈ WS := ws_in (List.mem_of_getElem? (i := 270) rfl) rfl
set_option maxRecDepth 100000 in
theorem w272 : (Jvm.Cond.instanceMethod ({ cls := "java/util/ArrayList", name := "grow", desc := "(I)[Ljava/lang/Object;" } : Jvm.MethodName)) ∈ WS := ws_in (List.mem_of_getElem? (i := 272) rfl) rfl
set_option maxRecDepth 100000 in
theorem w273 : (Jvm.Cond.code ({ cls := "java/util/ArrayList", name := "grow", desc := "(I)[Ljava/lang/Object;" } : Jvm.MethodName) prog_23_method_6_code (4 : Nat) (Option.some (Jvm.ClassFile.FieldType.array (Jvm.ClassFile.FieldType.object "java/lang/Object")))) ∈ WS := ws_in (List.mem_of_getElem? (i := 273) rfl) rfl
set_option maxRecDepth 100000 in
theorem w274 : (Jvm.Cond.methodLink "java/util/ArrayList" (73 : Nat) ({ cls := "jdk/internal/util/ArraysSupport", name := "newLength", desc := "(III)I" } : Jvm.MethodName)) ∈ WS := ws_in (List.mem_of_getElem? (i := 274) rfl) rfl
set_option maxRecDepth 100000 in
theorem w275 : (Jvm.Cond.static ({ cls := "jdk/internal/util/ArraysSupport", name := "newLength", desc := "(III)I" } : Jvm.MethodName)) ∈ WS := ws_in (List.mem_of_getElem? (i := 275) rfl) rfl
set_option maxRecDepth 100000 in
theorem w276 : (Jvm.Cond.code ({ cls := "jdk/internal/util/ArraysSupport", name := "newLength", desc := "(III)I" } : Jvm.MethodName) prog_30_method_27_code (4 : Nat) (Option.some Jvm.ClassFile.FieldType.int)) ∈ WS := ws_in (List.mem_of_getElem? (i := 276) rfl) rfl
set_option maxRecDepth 100000 in
theorem w277 : (Jvm.Cond.methodLink "jdk/internal/util/ArraysSupport" (194 : Nat) ({ cls := "java/lang/Math", name := "max", desc := "(II)I" } : Jvm.MethodName)) ∈ WS := ws_in (List.mem_of_getElem? (i := 277) rfl) rfl
set_option maxRecDepth 100000 in
theorem w278 : (Jvm.Cond.static ({ cls := "java/lang/Math", name := "max", desc := "(II)I" } : Jvm.MethodName)) ∈ WS := ws_in (List.mem_of_getElem? (i := 278) rfl) rfl
set_option maxRecDepth 100000 in
theorem w279 : (Jvm.Cond.code ({ cls := "java/lang/Math", name := "max", desc := "(II)I" } : Jvm.MethodName) prog_16_method_65_code (2 : Nat) (Option.some Jvm.ClassFile.FieldType.int)) ∈ WS := ws_in (List.mem_of_getElem? (i := 279) rfl) rfl
set_option maxRecDepth 100000 in
theorem w280 : (Jvm.Cond.constant "jdk/internal/util/ArraysSupport" (200 : Nat) (2147483639 : Int32)) ∈ WS := ws_in (List.mem_of_getElem? (i := 280) rfl) rfl
set_option maxRecDepth 100000 in
theorem w281 : (Jvm.Cond.methodLink "jdk/internal/util/ArraysSupport" (201 : Nat) ({ cls := "jdk/internal/util/ArraysSupport", name := "hugeLength", desc := "(II)I" } : Jvm.MethodName)) ∈ WS := ws_in (List.mem_of_getElem? (i := 281) rfl) rfl
set_option maxRecDepth 100000 in
theorem w282 : (Jvm.Cond.static ({ cls := "jdk/internal/util/ArraysSupport", name := "hugeLength", desc := "(II)I" } : Jvm.MethodName)) ∈ WS := ws_in (List.mem_of_getElem? (i := 282) rfl) rfl
set_option maxRecDepth 100000 in
theorem w283 : (Jvm.Cond.code ({ cls := "jdk/internal/util/ArraysSupport", name := "hugeLength", desc := "(II)I" } : Jvm.MethodName) prog_30_method_28_code (3 : Nat) (Option.some Jvm.ClassFile.FieldType.int)) ∈ WS := ws_in (List.mem_of_getElem? (i := 283) rfl) rfl
set_option maxRecDepth 100000 in
theorem w284 : (Jvm.Cond.methodLink "java/util/ArrayList" (66 : Nat) ({ cls := "java/util/Arrays", name := "copyOf", desc := "([Ljava/lang/Object;I)[Ljava/lang/Object;" } : Jvm.MethodName)) ∈ WS := ws_in (List.mem_of_getElem? (i := 284) rfl) rfl
set_option maxRecDepth 100000 in
theorem w285 : (Jvm.Cond.static ({ cls := "java/util/Arrays", name := "copyOf", desc := "([Ljava/lang/Object;I)[Ljava/lang/Object;" } : Jvm.MethodName)) ∈ WS := ws_in (List.mem_of_getElem? (i := 285) rfl) rfl
set_option maxRecDepth 100000 in
theorem w286 : (Jvm.Cond.code ({ cls := "java/util/Arrays", name := "copyOf", desc := "([Ljava/lang/Object;I)[Ljava/lang/Object;" } : Jvm.MethodName) prog_24_method_119_code (2 : Nat) (Option.some (Jvm.ClassFile.FieldType.array (Jvm.ClassFile.FieldType.object "java/lang/Object")))) ∈ WS := ws_in (List.mem_of_getElem? (i := 286) rfl) rfl
set_option maxRecDepth 100000 in
theorem w287 : (Jvm.Cond.methodLink "java/util/Arrays" (86 : Nat) ({ cls := "java/lang/Object", name := "getClass", desc := "()Ljava/lang/Class;" } : Jvm.MethodName)) ∈ WS := ws_in (List.mem_of_getElem? (i := 287) rfl) rfl
set_option maxRecDepth 100000 in
theorem w288 : (Jvm.Cond.instanceMethod ({ cls := "java/lang/Object", name := "getClass", desc := "()Ljava/lang/Class;" } : Jvm.MethodName)) ∈ WS := ws_in (List.mem_of_getElem? (i := 288) rfl) rfl
set_option maxRecDepth 100000 in
theorem w289 : (Jvm.Cond.sameMethod "java/lang/Object" "java/lang/Object" "getClass" "()Ljava/lang/Class;") ∈ WS := ws_in (List.mem_of_getElem? (i := 289) rfl) rfl
set_option maxRecDepth 100000 in
theorem w290 : (Jvm.Cond.selects "RestrictedFunds" ({ cls := "java/lang/Object", name := "getClass", desc := "()Ljava/lang/Class;" } : Jvm.MethodName) ({ cls := "java/lang/Object", name := "getClass", desc := "()Ljava/lang/Class;" } : Jvm.MethodName)) ∈ WS := ws_in (List.mem_of_getElem? (i := 290) rfl) rfl
set_option maxRecDepth 100000 in
theorem w291 : (Jvm.Cond.selects "RestrictedFunds$Commitment" ({ cls := "java/lang/Object", name := "getClass", desc := "()Ljava/lang/Class;" } : Jvm.MethodName) ({ cls := "java/lang/Object", name := "getClass", desc := "()Ljava/lang/Class;" } : Jvm.MethodName)) ∈ WS := ws_in (List.mem_of_getElem? (i := 291) rfl) rfl
set_option maxRecDepth 100000 in
theorem w292 : (Jvm.Cond.selects "RestrictedFunds$Cost" ({ cls := "java/lang/Object", name := "getClass", desc := "()Ljava/lang/Class;" } : Jvm.MethodName) ({ cls := "java/lang/Object", name := "getClass", desc := "()Ljava/lang/Class;" } : Jvm.MethodName)) ∈ WS := ws_in (List.mem_of_getElem? (i := 292) rfl) rfl
set_option maxRecDepth 100000 in
theorem w293 : (Jvm.Cond.selects "RestrictedFunds$Fund" ({ cls := "java/lang/Object", name := "getClass", desc := "()Ljava/lang/Class;" } : Jvm.MethodName) ({ cls := "java/lang/Object", name := "getClass", desc := "()Ljava/lang/Class;" } : Jvm.MethodName)) ∈ WS := ws_in (List.mem_of_getElem? (i := 293) rfl) rfl
set_option maxRecDepth 100000 in
theorem w294 : (Jvm.Cond.selects "RestrictedFunds$Plan" ({ cls := "java/lang/Object", name := "getClass", desc := "()Ljava/lang/Class;" } : Jvm.MethodName) ({ cls := "java/lang/Object", name := "getClass", desc := "()Ljava/lang/Class;" } : Jvm.MethodName)) ∈ WS := ws_in (List.mem_of_getElem? (i := 294) rfl) rfl
set_option maxRecDepth 100000 in
theorem w295 : (Jvm.Cond.selects "java/lang/IllegalArgumentException" ({ cls := "java/lang/Object", name := "getClass", desc := "()Ljava/lang/Class;" } : Jvm.MethodName) ({ cls := "java/lang/Object", name := "getClass", desc := "()Ljava/lang/Class;" } : Jvm.MethodName)) ∈ WS := ws_in (List.mem_of_getElem? (i := 295) rfl) rfl
set_option maxRecDepth 100000 in
theorem w296 : (Jvm.Cond.selects "java/lang/IllegalStateException" ({ cls := "java/lang/Object", name := "getClass", desc := "()Ljava/lang/Class;" } : Jvm.MethodName) ({ cls := "java/lang/Object", name := "getClass", desc := "()Ljava/lang/Class;" } : Jvm.MethodName)) ∈ WS := ws_in (List.mem_of_getElem? (i := 296) rfl) rfl
set_option maxRecDepth 100000 in
theorem w297 : (Jvm.Cond.selects "java/lang/IndexOutOfBoundsException" ({ cls := "java/lang/Object", name := "getClass", desc := "()Ljava/lang/Class;" } : Jvm.MethodName) ({ cls := "java/lang/Object", name := "getClass", desc := "()Ljava/lang/Class;" } : Jvm.MethodName)) ∈ WS := ws_in (List.mem_of_getElem? (i := 297) rfl) rfl
set_option maxRecDepth 100000 in
theorem w298 : (Jvm.Cond.selects "java/util/ArrayList" ({ cls := "java/lang/Object", name := "getClass", desc := "()Ljava/lang/Class;" } : Jvm.MethodName) ({ cls := "java/lang/Object", name := "getClass", desc := "()Ljava/lang/Class;" } : Jvm.MethodName)) ∈ WS := ws_in (List.mem_of_getElem? (i := 298) rfl) rfl
set_option maxRecDepth 100000 in
theorem w300 : (Jvm.Cond.methodLink "java/util/Arrays" (300 : Nat) ({ cls := "java/util/Arrays", name := "copyOf", desc := "([Ljava/lang/Object;ILjava/lang/Class;)[Ljava/lang/Object;" } : Jvm.MethodName)) ∈ WS := ws_in (List.mem_of_getElem? (i := 300) rfl) rfl
set_option maxRecDepth 100000 in
theorem w301 : (Jvm.Cond.static ({ cls := "java/util/Arrays", name := "copyOf", desc := "([Ljava/lang/Object;ILjava/lang/Class;)[Ljava/lang/Object;" } : Jvm.MethodName)) ∈ WS := ws_in (List.mem_of_getElem? (i := 301) rfl) rfl
set_option maxRecDepth 100000 in
theorem w302 : (Jvm.Cond.code ({ cls := "java/util/Arrays", name := "copyOf", desc := "([Ljava/lang/Object;ILjava/lang/Class;)[Ljava/lang/Object;" } : Jvm.MethodName) prog_24_method_120_code (4 : Nat) (Option.some (Jvm.ClassFile.FieldType.array (Jvm.ClassFile.FieldType.object "java/lang/Object")))) ∈ WS := ws_in (List.mem_of_getElem? (i := 302) rfl) rfl
set_option maxRecDepth 100000 in
theorem w303 : (Jvm.Cond.classLink "java/util/Arrays" (110 : Nat) "[Ljava/lang/Object;") ∈ WS := ws_in (List.mem_of_getElem? (i := 303) rfl) rfl
set_option maxRecDepth 100000 in
theorem w305 : (Jvm.Cond.classLink "java/util/Arrays" (2 : Nat) "java/lang/Object") ∈ WS := ws_in (List.mem_of_getElem? (i := 305) rfl) rfl
set_option maxRecDepth 100000 in
theorem w306 : (Jvm.Cond.methodLink "java/util/Arrays" (304 : Nat) ({ cls := "java/lang/Math", name := "min", desc := "(II)I" } : Jvm.MethodName)) ∈ WS := ws_in (List.mem_of_getElem? (i := 306) rfl) rfl
set_option maxRecDepth 100000 in
theorem w307 : (Jvm.Cond.static ({ cls := "java/lang/Math", name := "min", desc := "(II)I" } : Jvm.MethodName)) ∈ WS := ws_in (List.mem_of_getElem? (i := 307) rfl) rfl
set_option maxRecDepth 100000 in
theorem w308 : (Jvm.Cond.code ({ cls := "java/lang/Math", name := "min", desc := "(II)I" } : Jvm.MethodName) prog_16_method_69_code (2 : Nat) (Option.some Jvm.ClassFile.FieldType.int)) ∈ WS := ws_in (List.mem_of_getElem? (i := 308) rfl) rfl
set_option maxRecDepth 100000 in
theorem w309 : (Jvm.Cond.methodLink "java/util/Arrays" (150 : Nat) ({ cls := "java/lang/System", name := "arraycopy", desc := "(Ljava/lang/Object;ILjava/lang/Object;II)V" } : Jvm.MethodName)) ∈ WS := ws_in (List.mem_of_getElem? (i := 309) rfl) rfl
set_option maxRecDepth 100000 in
theorem w310 : (Jvm.Cond.static ({ cls := "java/lang/System", name := "arraycopy", desc := "(Ljava/lang/Object;ILjava/lang/Object;II)V" } : Jvm.MethodName)) ∈ WS := ws_in (List.mem_of_getElem? (i := 310) rfl) rfl
set_option maxRecDepth 100000 in
theorem w312 : (Jvm.Cond.methodLink "java/util/ArrayList" (79 : Nat) ({ cls := "java/lang/Math", name := "max", desc := "(II)I" } : Jvm.MethodName)) ∈ WS := ws_in (List.mem_of_getElem? (i := 312) rfl) rfl
set_option maxRecDepth 100000 in
theorem w313 : (Jvm.Cond.classLink "java/util/ArrayList" (7 : Nat) "java/lang/Object") ∈ WS := ws_in (List.mem_of_getElem? (i := 313) rfl) rfl
set_option maxRecDepth 100000 in
theorem w314 : (Jvm.Cond.methodLink "RestrictedFundsLaw" (98 : Nat) ({ cls := "RestrictedFunds", name := "deposit", desc := "(II)I" } : Jvm.MethodName)) ∈ WS := ws_in (List.mem_of_getElem? (i := 314) rfl) rfl
set_option maxRecDepth 100000 in
theorem w315 : (Jvm.Cond.instanceMethod ({ cls := "RestrictedFunds", name := "deposit", desc := "(II)I" } : Jvm.MethodName)) ∈ WS := ws_in (List.mem_of_getElem? (i := 315) rfl) rfl
set_option maxRecDepth 100000 in
theorem w316 : (Jvm.Cond.selects "RestrictedFunds" ({ cls := "RestrictedFunds", name := "deposit", desc := "(II)I" } : Jvm.MethodName) ({ cls := "RestrictedFunds", name := "deposit", desc := "(II)I" } : Jvm.MethodName)) ∈ WS := ws_in (List.mem_of_getElem? (i := 316) rfl) rfl
set_option maxRecDepth 100000 in
theorem w317 : (Jvm.Cond.code ({ cls := "RestrictedFunds", name := "deposit", desc := "(II)I" } : Jvm.MethodName) prog_1_method_3_code (4 : Nat) (Option.some Jvm.ClassFile.FieldType.int)) ∈ WS := ws_in (List.mem_of_getElem? (i := 317) rfl) rfl
set_option maxRecDepth 100000 in
theorem w318 : (Jvm.Cond.methodLink "RestrictedFunds" (58 : Nat) ({ cls := "RestrictedFunds", name := "fundAt", desc := "(I)LRestrictedFunds$Fund;" } : Jvm.MethodName)) ∈ WS := ws_in (List.mem_of_getElem? (i := 318) rfl) rfl
set_option maxRecDepth 100000 in
theorem w320 : (Jvm.Cond.instanceMethod ({ cls := "RestrictedFunds", name := "fundAt", desc := "(I)LRestrictedFunds$Fund;" } : Jvm.MethodName)) ∈ WS := ws_in (List.mem_of_getElem? (i := 320) rfl) rfl
set_option maxRecDepth 100000 in
theorem w321 : (Jvm.Cond.code ({ cls := "RestrictedFunds", name := "fundAt", desc := "(I)LRestrictedFunds$Fund;" } : Jvm.MethodName) prog_1_method_30_code (2 : Nat) (Option.some (Jvm.ClassFile.FieldType.object "RestrictedFunds$Fund"))) ∈ WS := ws_in (List.mem_of_getElem? (i := 321) rfl) rfl
set_option maxRecDepth 100000 in
theorem w322 : (Jvm.Cond.classLink "RestrictedFunds" (187 : Nat) "java/lang/IndexOutOfBoundsException") ∈ WS := ws_in (List.mem_of_getElem? (i := 322) rfl) rfl
set_option maxRecDepth 100000 in
theorem w323 : (Jvm.Cond.instantiable "java/lang/IndexOutOfBoundsException" (6 : Nat)) ∈ WS := ws_in (List.mem_of_getElem? (i := 323) rfl) rfl
set_option maxRecDepth 100000 in
theorem w325 : (Jvm.Cond.selects "java/lang/IndexOutOfBoundsException" ({ cls := "java/lang/Throwable", name := "fillInStackTrace", desc := "(I)Ljava/lang/Throwable;" } : Jvm.MethodName) ({ cls := "java/lang/Throwable", name := "fillInStackTrace", desc := "(I)Ljava/lang/Throwable;" } : Jvm.MethodName)) ∈ WS := ws_in (List.mem_of_getElem? (i := 325) rfl) rfl
set_option maxRecDepth 100000 in
theorem w326 : (Jvm.Cond.lays "java/lang/IndexOutOfBoundsException" "java/lang/Throwable" "cause" "Ljava/lang/Throwable;") ∈ WS := ws_in (List.mem_of_getElem? (i := 326) rfl) rfl
set_option maxRecDepth 100000 in
theorem w327 : (Jvm.Cond.lays "java/lang/IndexOutOfBoundsException" "java/lang/Throwable" "stackTrace" "[Ljava/lang/StackTraceElement;") ∈ WS := ws_in (List.mem_of_getElem? (i := 327) rfl) rfl
set_option maxRecDepth 100000 in
theorem w328 : (Jvm.Cond.lays "java/lang/IndexOutOfBoundsException" "java/lang/Throwable" "suppressedExceptions" "Ljava/util/List;") ∈ WS := ws_in (List.mem_of_getElem? (i := 328) rfl) rfl
set_option maxRecDepth 100000 in
theorem w329 : (Jvm.Cond.lays "java/lang/IndexOutOfBoundsException" "java/lang/Throwable" "detailMessage" "Ljava/lang/String;") ∈ WS := ws_in (List.mem_of_getElem? (i := 329) rfl) rfl
set_option maxRecDepth 100000 in
theorem w330 : (Jvm.Cond.lays "java/lang/IndexOutOfBoundsException" "java/lang/Throwable" "backtrace" "Ljava/lang/Object;") ∈ WS := ws_in (List.mem_of_getElem? (i := 330) rfl) rfl
set_option maxRecDepth 100000 in
theorem w332 : (Jvm.Cond.methodLink "RestrictedFunds" (191 : Nat) ({ cls := "java/lang/IndexOutOfBoundsException", name := "<init>", desc := "(Ljava/lang/String;)V" } : Jvm.MethodName)) ∈ WS := ws_in (List.mem_of_getElem? (i := 332) rfl) rfl
set_option maxRecDepth 100000 in
theorem w333 : (Jvm.Cond.instanceMethod ({ cls := "java/lang/IndexOutOfBoundsException", name := "<init>", desc := "(Ljava/lang/String;)V" } : Jvm.MethodName)) ∈ WS := ws_in (List.mem_of_getElem? (i := 333) rfl) rfl
set_option maxRecDepth 100000 in
theorem w334 : (Jvm.Cond.code ({ cls := "java/lang/IndexOutOfBoundsException", name := "<init>", desc := "(Ljava/lang/String;)V" } : Jvm.MethodName) prog_14_method_2_code (2 : Nat) (Option.none : Option Jvm.ClassFile.FieldType)) ∈ WS := ws_in (List.mem_of_getElem? (i := 334) rfl) rfl
set_option maxRecDepth 100000 in
theorem w336 : (Jvm.Cond.lays "java/lang/IndexOutOfBoundsException" "java/lang/Throwable" "depth" "I") ∈ WS := ws_in (List.mem_of_getElem? (i := 336) rfl) rfl
set_option maxRecDepth 100000 in
theorem w338 : (Jvm.Cond.methodLink "RestrictedFunds" (118 : Nat) ({ cls := "java/util/ArrayList", name := "get", desc := "(I)Ljava/lang/Object;" } : Jvm.MethodName)) ∈ WS := ws_in (List.mem_of_getElem? (i := 338) rfl) rfl
set_option maxRecDepth 100000 in
theorem w339 : (Jvm.Cond.instanceMethod ({ cls := "java/util/ArrayList", name := "get", desc := "(I)Ljava/lang/Object;" } : Jvm.MethodName)) ∈ WS := ws_in (List.mem_of_getElem? (i := 339) rfl) rfl
set_option maxRecDepth 100000 in
theorem w340 : (Jvm.Cond.selects "java/util/ArrayList" ({ cls := "java/util/ArrayList", name := "get", desc := "(I)Ljava/lang/Object;" } : Jvm.MethodName) ({ cls := "java/util/ArrayList", name := "get", desc := "(I)Ljava/lang/Object;" } : Jvm.MethodName)) ∈ WS := ws_in (List.mem_of_getElem? (i := 340) rfl) rfl
set_option maxRecDepth 100000 in
theorem w341 : (Jvm.Cond.code ({ cls := "java/util/ArrayList", name := "get", desc := "(I)Ljava/lang/Object;" } : Jvm.MethodName) prog_23_method_20_code (2 : Nat) (Option.some (Jvm.ClassFile.FieldType.object "java/lang/Object"))) ∈ WS := ws_in (List.mem_of_getElem? (i := 341) rfl) rfl
set_option maxRecDepth 100000 in
theorem w342 : (Jvm.Cond.methodLink "java/util/ArrayList" (118 : Nat) ({ cls := "java/util/Objects", name := "checkIndex", desc := "(II)I" } : Jvm.MethodName)) ∈ WS := ws_in (List.mem_of_getElem? (i := 342) rfl) rfl
set_option maxRecDepth 100000 in
theorem w343 : (Jvm.Cond.static ({ cls := "java/util/Objects", name := "checkIndex", desc := "(II)I" } : Jvm.MethodName)) ∈ WS := ws_in (List.mem_of_getElem? (i := 343) rfl) rfl
set_option maxRecDepth 100000 in
theorem w344 : (Jvm.Cond.code ({ cls := "java/util/Objects", name := "checkIndex", desc := "(II)I" } : Jvm.MethodName) prog_27_method_17_code (2 : Nat) (Option.some Jvm.ClassFile.FieldType.int)) ∈ WS := ws_in (List.mem_of_getElem? (i := 344) rfl) rfl
set_option maxRecDepth 100000 in
theorem w345 : (Jvm.Cond.methodLink "java/util/Objects" (105 : Nat) ({ cls := "jdk/internal/util/Preconditions", name := "checkIndex", desc := "(IILjava/util/function/BiFunction;)I" } : Jvm.MethodName)) ∈ WS := ws_in (List.mem_of_getElem? (i := 345) rfl) rfl
set_option maxRecDepth 100000 in
theorem w346 : (Jvm.Cond.static ({ cls := "jdk/internal/util/Preconditions", name := "checkIndex", desc := "(IILjava/util/function/BiFunction;)I" } : Jvm.MethodName)) ∈ WS := ws_in (List.mem_of_getElem? (i := 346) rfl) rfl
set_option maxRecDepth 100000 in
theorem w347 : (Jvm.Cond.code ({ cls := "jdk/internal/util/Preconditions", name := "checkIndex", desc := "(IILjava/util/function/BiFunction;)I" } : Jvm.MethodName) prog_31_method_11_code (3 : Nat) (Option.some Jvm.ClassFile.FieldType.int)) ∈ WS := ws_in (List.mem_of_getElem? (i := 347) rfl) rfl
set_option maxRecDepth 100000 in
theorem w348 : (Jvm.Cond.methodLink "java/util/ArrayList" (123 : Nat) ({ cls := "java/util/ArrayList", name := "elementData", desc := "(I)Ljava/lang/Object;" } : Jvm.MethodName)) ∈ WS := ws_in (List.mem_of_getElem? (i := 348) rfl) rfl
set_option maxRecDepth 100000 in
theorem w349 : (Jvm.Cond.instanceMethod ({ cls := "java/util/ArrayList", name := "elementData", desc := "(I)Ljava/lang/Object;" } : Jvm.MethodName)) ∈ WS := ws_in (List.mem_of_getElem? (i := 349) rfl) rfl
set_option maxRecDepth 100000 in
theorem w350 : (Jvm.Cond.selects "java/util/ArrayList" ({ cls := "java/util/ArrayList", name := "elementData", desc := "(I)Ljava/lang/Object;" } : Jvm.MethodName) ({ cls := "java/util/ArrayList", name := "elementData", desc := "(I)Ljava/lang/Object;" } : Jvm.MethodName)) ∈ WS := ws_in (List.mem_of_getElem? (i := 350) rfl) rfl
set_option maxRecDepth 100000 in
theorem w351 : (Jvm.Cond.code ({ cls := "java/util/ArrayList", name := "elementData", desc := "(I)Ljava/lang/Object;" } : Jvm.MethodName) prog_23_method_18_code (2 : Nat) (Option.some (Jvm.ClassFile.FieldType.object "java/lang/Object"))) ∈ WS := ws_in (List.mem_of_getElem? (i := 351) rfl) rfl
set_option maxRecDepth 100000 in
theorem w352 : (Jvm.Cond.methodLink "RestrictedFundsLaw" (112 : Nat) ({ cls := "RestrictedFunds", name := "cancel", desc := "(I)I" } : Jvm.MethodName)) ∈ WS := ws_in (List.mem_of_getElem? (i := 352) rfl) rfl
set_option maxRecDepth 100000 in
theorem w353 : (Jvm.Cond.instanceMethod ({ cls := "RestrictedFunds", name := "cancel", desc := "(I)I" } : Jvm.MethodName)) ∈ WS := ws_in (List.mem_of_getElem? (i := 353) rfl) rfl
set_option maxRecDepth 100000 in
theorem w354 : (Jvm.Cond.selects "RestrictedFunds" ({ cls := "RestrictedFunds", name := "cancel", desc := "(I)I" } : Jvm.MethodName) ({ cls := "RestrictedFunds", name := "cancel", desc := "(I)I" } : Jvm.MethodName)) ∈ WS := ws_in (List.mem_of_getElem? (i := 354) rfl) rfl
set_option maxRecDepth 100000 in
theorem w355 : (Jvm.Cond.code ({ cls := "RestrictedFunds", name := "cancel", desc := "(I)I" } : Jvm.MethodName) prog_1_method_5_code (3 : Nat) (Option.some Jvm.ClassFile.FieldType.int)) ∈ WS := ws_in (List.mem_of_getElem? (i := 355) rfl) rfl
set_option maxRecDepth 100000 in
theorem w356 : (Jvm.Cond.methodLink "RestrictedFunds" (74 : Nat) ({ cls := "RestrictedFunds", name := "commitmentAt", desc := "(I)LRestrictedFunds$Commitment;" } : Jvm.MethodName)) ∈ WS := ws_in (List.mem_of_getElem? (i := 356) rfl) rfl
set_option maxRecDepth 100000 in
theorem w358 : (Jvm.Cond.instanceMethod ({ cls := "RestrictedFunds", name := "commitmentAt", desc := "(I)LRestrictedFunds$Commitment;" } : Jvm.MethodName)) ∈ WS := ws_in (List.mem_of_getElem? (i := 358) rfl) rfl
set_option maxRecDepth 100000 in
theorem w359 : (Jvm.Cond.code ({ cls := "RestrictedFunds", name := "commitmentAt", desc := "(I)LRestrictedFunds$Commitment;" } : Jvm.MethodName) prog_1_method_31_code (2 : Nat) (Option.some (Jvm.ClassFile.FieldType.object "RestrictedFunds$Commitment"))) ∈ WS := ws_in (List.mem_of_getElem? (i := 359) rfl) rfl
set_option maxRecDepth 100000 in
theorem w361 : (Jvm.Cond.classLink "RestrictedFunds" (69 : Nat) "RestrictedFunds$Commitment") ∈ WS := ws_in (List.mem_of_getElem? (i := 361) rfl) rfl
set_option maxRecDepth 100000 in
theorem w362 : (Jvm.Cond.methodLink "RestrictedFunds" (79 : Nat) ({ cls := "RestrictedFunds", name := "endCommitment", desc := "(I)V" } : Jvm.MethodName)) ∈ WS := ws_in (List.mem_of_getElem? (i := 362) rfl) rfl
set_option maxRecDepth 100000 in
theorem w364 : (Jvm.Cond.instanceMethod ({ cls := "RestrictedFunds", name := "endCommitment", desc := "(I)V" } : Jvm.MethodName)) ∈ WS := ws_in (List.mem_of_getElem? (i := 364) rfl) rfl
set_option maxRecDepth 100000 in
theorem w365 : (Jvm.Cond.code ({ cls := "RestrictedFunds", name := "endCommitment", desc := "(I)V" } : Jvm.MethodName) prog_1_method_33_code (3 : Nat) (Option.none : Option Jvm.ClassFile.FieldType)) ∈ WS := ws_in (List.mem_of_getElem? (i := 365) rfl) rfl
set_option maxRecDepth 100000 in
theorem w366 : (Jvm.Cond.methodLink "RestrictedFunds" (122 : Nat) ({ cls := "RestrictedFunds$Commitment", name := "owner", desc := "()LRestrictedFunds$Fund;" } : Jvm.MethodName)) ∈ WS := ws_in (List.mem_of_getElem? (i := 366) rfl) rfl
set_option maxRecDepth 100000 in
theorem w367 : (Jvm.Cond.instanceMethod ({ cls := "RestrictedFunds$Commitment", name := "owner", desc := "()LRestrictedFunds$Fund;" } : Jvm.MethodName)) ∈ WS := ws_in (List.mem_of_getElem? (i := 367) rfl) rfl
set_option maxRecDepth 100000 in
theorem w368 : (Jvm.Cond.selects "RestrictedFunds$Commitment" ({ cls := "RestrictedFunds$Commitment", name := "owner", desc := "()LRestrictedFunds$Fund;" } : Jvm.MethodName) ({ cls := "RestrictedFunds$Commitment", name := "owner", desc := "()LRestrictedFunds$Fund;" } : Jvm.MethodName)) ∈ WS := ws_in (List.mem_of_getElem? (i := 368) rfl) rfl
set_option maxRecDepth 100000 in
theorem w369 : (Jvm.Cond.code ({ cls := "RestrictedFunds$Commitment", name := "owner", desc := "()LRestrictedFunds$Fund;" } : Jvm.MethodName) prog_2_method_2_code (1 : Nat) (Option.some (Jvm.ClassFile.FieldType.object "RestrictedFunds$Fund"))) ∈ WS := ws_in (List.mem_of_getElem? (i := 369) rfl) rfl
set_option maxRecDepth 100000 in
theorem w370 : (Jvm.Cond.methodLink "RestrictedFunds" (196 : Nat) ({ cls := "java/util/ArrayList", name := "remove", desc := "(I)Ljava/lang/Object;" } : Jvm.MethodName)) ∈ WS := ws_in (List.mem_of_getElem? (i := 370) rfl) rfl
set_option maxRecDepth 100000 in
theorem w371 : (Jvm.Cond.instanceMethod ({ cls := "java/util/ArrayList", name := "remove", desc := "(I)Ljava/lang/Object;" } : Jvm.MethodName)) ∈ WS := ws_in (List.mem_of_getElem? (i := 371) rfl) rfl
set_option maxRecDepth 100000 in
theorem w372 : (Jvm.Cond.selects "java/util/ArrayList" ({ cls := "java/util/ArrayList", name := "remove", desc := "(I)Ljava/lang/Object;" } : Jvm.MethodName) ({ cls := "java/util/ArrayList", name := "remove", desc := "(I)Ljava/lang/Object;" } : Jvm.MethodName)) ∈ WS := ws_in (List.mem_of_getElem? (i := 372) rfl) rfl
set_option maxRecDepth 100000 in
theorem w373 : (Jvm.Cond.code ({ cls := "java/util/ArrayList", name := "remove", desc := "(I)Ljava/lang/Object;" } : Jvm.MethodName) prog_23_method_29_code (4 : Nat) (Option.some (Jvm.ClassFile.FieldType.object "java/lang/Object"))) ∈ WS := ws_in (List.mem_of_getElem? (i := 373) rfl) rfl
set_option maxRecDepth 100000 in
theorem w374 : (Jvm.Cond.methodLink "java/util/ArrayList" (144 : Nat) ({ cls := "java/util/ArrayList", name := "fastRemove", desc := "([Ljava/lang/Object;I)V" } : Jvm.MethodName)) ∈ WS := ws_in (List.mem_of_getElem? (i := 374) rfl) rfl
set_option maxRecDepth 100000 in
theorem w376 : (Jvm.Cond.instanceMethod ({ cls := "java/util/ArrayList", name := "fastRemove", desc := "([Ljava/lang/Object;I)V" } : Jvm.MethodName)) ∈ WS := ws_in (List.mem_of_getElem? (i := 376) rfl) rfl
set_option maxRecDepth 100000 in
theorem w377 : (Jvm.Cond.code ({ cls := "java/util/ArrayList", name := "fastRemove", desc := "([Ljava/lang/Object;I)V" } : Jvm.MethodName) prog_23_method_39_code (4 : Nat) (Option.none : Option Jvm.ClassFile.FieldType)) ∈ WS := ws_in (List.mem_of_getElem? (i := 377) rfl) rfl
set_option maxRecDepth 100000 in
theorem w378 : (Jvm.Cond.methodLink "java/util/ArrayList" (112 : Nat) ({ cls := "java/lang/System", name := "arraycopy", desc := "(Ljava/lang/Object;ILjava/lang/Object;II)V" } : Jvm.MethodName)) ∈ WS := ws_in (List.mem_of_getElem? (i := 378) rfl) rfl
set_option maxRecDepth 100000 in
theorem w379 : (Jvm.Cond.methodLink "RestrictedFundsLaw" (115 : Nat) ({ cls := "RestrictedFunds", name := "advance", desc := "(I)I" } : Jvm.MethodName)) ∈ WS := ws_in (List.mem_of_getElem? (i := 379) rfl) rfl
set_option maxRecDepth 100000 in
theorem w380 : (Jvm.Cond.instanceMethod ({ cls := "RestrictedFunds", name := "advance", desc := "(I)I" } : Jvm.MethodName)) ∈ WS := ws_in (List.mem_of_getElem? (i := 380) rfl) rfl
set_option maxRecDepth 100000 in
theorem w381 : (Jvm.Cond.selects "RestrictedFunds" ({ cls := "RestrictedFunds", name := "advance", desc := "(I)I" } : Jvm.MethodName) ({ cls := "RestrictedFunds", name := "advance", desc := "(I)I" } : Jvm.MethodName)) ∈ WS := ws_in (List.mem_of_getElem? (i := 381) rfl) rfl
set_option maxRecDepth 100000 in
theorem w382 : (Jvm.Cond.code ({ cls := "RestrictedFunds", name := "advance", desc := "(I)I" } : Jvm.MethodName) prog_1_method_6_code (2 : Nat) (Option.some Jvm.ClassFile.FieldType.int)) ∈ WS := ws_in (List.mem_of_getElem? (i := 382) rfl) rfl
set_option maxRecDepth 100000 in
theorem w383 : (Jvm.Cond.methodLink "RestrictedFunds" (83 : Nat) ({ cls := "RestrictedFunds", name := "lapseCommitments", desc := "()I" } : Jvm.MethodName)) ∈ WS := ws_in (List.mem_of_getElem? (i := 383) rfl) rfl
set_option maxRecDepth 100000 in
theorem w385 : (Jvm.Cond.instanceMethod ({ cls := "RestrictedFunds", name := "lapseCommitments", desc := "()I" } : Jvm.MethodName)) ∈ WS := ws_in (List.mem_of_getElem? (i := 385) rfl) rfl
set_option maxRecDepth 100000 in
theorem w386 : (Jvm.Cond.code ({ cls := "RestrictedFunds", name := "lapseCommitments", desc := "()I" } : Jvm.MethodName) prog_1_method_34_code (3 : Nat) (Option.some Jvm.ClassFile.FieldType.int)) ∈ WS := ws_in (List.mem_of_getElem? (i := 386) rfl) rfl
set_option maxRecDepth 100000 in
theorem w387 : (Jvm.Cond.methodLink "RestrictedFunds" (138 : Nat) ({ cls := "RestrictedFunds$Commitment", name := "expiry", desc := "()I" } : Jvm.MethodName)) ∈ WS := ws_in (List.mem_of_getElem? (i := 387) rfl) rfl
set_option maxRecDepth 100000 in
theorem w388 : (Jvm.Cond.instanceMethod ({ cls := "RestrictedFunds$Commitment", name := "expiry", desc := "()I" } : Jvm.MethodName)) ∈ WS := ws_in (List.mem_of_getElem? (i := 388) rfl) rfl
set_option maxRecDepth 100000 in
theorem w389 : (Jvm.Cond.selects "RestrictedFunds$Commitment" ({ cls := "RestrictedFunds$Commitment", name := "expiry", desc := "()I" } : Jvm.MethodName) ({ cls := "RestrictedFunds$Commitment", name := "expiry", desc := "()I" } : Jvm.MethodName)) ∈ WS := ws_in (List.mem_of_getElem? (i := 389) rfl) rfl
set_option maxRecDepth 100000 in
theorem w390 : (Jvm.Cond.code ({ cls := "RestrictedFunds$Commitment", name := "expiry", desc := "()I" } : Jvm.MethodName) prog_2_method_3_code (1 : Nat) (Option.some Jvm.ClassFile.FieldType.int)) ∈ WS := ws_in (List.mem_of_getElem? (i := 390) rfl) rfl
set_option maxRecDepth 100000 in
theorem w391 : (Jvm.Cond.methodLink "RestrictedFundsLaw" (104 : Nat) ({ cls := "RestrictedFunds", name := "addCost", desc := "(III)I" } : Jvm.MethodName)) ∈ WS := ws_in (List.mem_of_getElem? (i := 391) rfl) rfl
set_option maxRecDepth 100000 in
theorem w392 : (Jvm.Cond.instanceMethod ({ cls := "RestrictedFunds", name := "addCost", desc := "(III)I" } : Jvm.MethodName)) ∈ WS := ws_in (List.mem_of_getElem? (i := 392) rfl) rfl
set_option maxRecDepth 100000 in
theorem w393 : (Jvm.Cond.selects "RestrictedFunds" ({ cls := "RestrictedFunds", name := "addCost", desc := "(III)I" } : Jvm.MethodName) ({ cls := "RestrictedFunds", name := "addCost", desc := "(III)I" } : Jvm.MethodName)) ∈ WS := ws_in (List.mem_of_getElem? (i := 393) rfl) rfl
set_option maxRecDepth 100000 in
theorem w394 : (Jvm.Cond.code ({ cls := "RestrictedFunds", name := "addCost", desc := "(III)I" } : Jvm.MethodName) prog_1_method_7_code (4 : Nat) (Option.some Jvm.ClassFile.FieldType.int)) ∈ WS := ws_in (List.mem_of_getElem? (i := 394) rfl) rfl
set_option maxRecDepth 100000 in
theorem w395 : (Jvm.Cond.classLink "RestrictedFunds" (86 : Nat) "RestrictedFunds$Cost") ∈ WS := ws_in (List.mem_of_getElem? (i := 395) rfl) rfl
set_option maxRecDepth 100000 in
theorem w396 : (Jvm.Cond.instantiable "RestrictedFunds$Cost" (4 : Nat)) ∈ WS := ws_in (List.mem_of_getElem? (i := 396) rfl) rfl
set_option maxRecDepth 100000 in
theorem w397 : (Jvm.Cond.methodLink "RestrictedFunds" (88 : Nat) ({ cls := "RestrictedFunds$Cost", name := "<init>", desc := "(III)V" } : Jvm.MethodName)) ∈ WS := ws_in (List.mem_of_getElem? (i := 397) rfl) rfl
set_option maxRecDepth 100000 in
theorem w398 : (Jvm.Cond.instanceMethod ({ cls := "RestrictedFunds$Cost", name := "<init>", desc := "(III)V" } : Jvm.MethodName)) ∈ WS := ws_in (List.mem_of_getElem? (i := 398) rfl) rfl
set_option maxRecDepth 100000 in
theorem w399 : (Jvm.Cond.code ({ cls := "RestrictedFunds$Cost", name := "<init>", desc := "(III)V" } : Jvm.MethodName) prog_3_method_1_code (4 : Nat) (Option.none : Option Jvm.ClassFile.FieldType)) ∈ WS := ws_in (List.mem_of_getElem? (i := 399) rfl) rfl
set_option maxRecDepth 100000 in
theorem w400 : (Jvm.Cond.methodLink "RestrictedFunds$Cost" (3 : Nat) ({ cls := "java/lang/Object", name := "<init>", desc := "()V" } : Jvm.MethodName)) ∈ WS := ws_in (List.mem_of_getElem? (i := 400) rfl) rfl
set_option maxRecDepth 100000 in
theorem w401 : (Jvm.Cond.fieldLink "RestrictedFunds$Cost" (15 : Nat) "RestrictedFunds$Cost" "category" "I") ∈ WS := ws_in (List.mem_of_getElem? (i := 401) rfl) rfl
set_option maxRecDepth 100000 in
theorem w402 : (Jvm.Cond.fieldLink "RestrictedFunds$Commitment" (20 : Nat) "RestrictedFunds$Cost" "category" "I") ∈ WS := ws_in (List.mem_of_getElem? (i := 402) rfl) rfl
set_option maxRecDepth 100000 in
theorem w403 : (Jvm.Cond.fieldLink "RestrictedFunds$Fund" (32 : Nat) "RestrictedFunds$Cost" "category" "I") ∈ WS := ws_in (List.mem_of_getElem? (i := 403) rfl) rfl
set_option maxRecDepth 100000 in
theorem w404 : (Jvm.Cond.fieldLink "RestrictedFunds" (255 : Nat) "RestrictedFunds$Cost" "category" "I") ∈ WS := ws_in (List.mem_of_getElem? (i := 404) rfl) rfl
set_option maxRecDepth 100000 in
theorem w405 : (Jvm.Cond.fieldLink "RestrictedFunds$Cost" (19 : Nat) "RestrictedFunds$Cost" "day" "I") ∈ WS := ws_in (List.mem_of_getElem? (i := 405) rfl) rfl
set_option maxRecDepth 100000 in
theorem w406 : (Jvm.Cond.fieldLink "RestrictedFunds$Fund" (41 : Nat) "RestrictedFunds$Cost" "day" "I") ∈ WS := ws_in (List.mem_of_getElem? (i := 406) rfl) rfl
set_option maxRecDepth 100000 in
theorem w407 : (Jvm.Cond.fieldLink "RestrictedFunds$Cost" (22 : Nat) "RestrictedFunds$Cost" "unpaid" "I") ∈ WS := ws_in (List.mem_of_getElem? (i := 407) rfl) rfl
set_option maxRecDepth 100000 in
theorem w408 : (Jvm.Cond.fieldLink "RestrictedFunds" (145 : Nat) "RestrictedFunds$Cost" "unpaid" "I") ∈ WS := ws_in (List.mem_of_getElem? (i := 408) rfl) rfl
set_option maxRecDepth 100000 in
theorem w409 : (Jvm.Cond.fieldLink "RestrictedFunds$Cost" (9 : Nat) "RestrictedFunds$Cost" "shares" "[I") ∈ WS := ws_in (List.mem_of_getElem? (i := 409) rfl) rfl
set_option maxRecDepth 100000 in
theorem w410 : (Jvm.Cond.laysFinal "RestrictedFunds$Cost" "RestrictedFunds$Cost" "category" "I") ∈ WS := ws_in (List.mem_of_getElem? (i := 410) rfl) rfl
set_option maxRecDepth 100000 in
theorem w412 : (Jvm.Cond.laysFinal "RestrictedFunds$Cost" "RestrictedFunds$Cost" "day" "I") ∈ WS := ws_in (List.mem_of_getElem? (i := 412) rfl) rfl
set_option maxRecDepth 100000 in
theorem w414 : (Jvm.Cond.lays "RestrictedFunds$Cost" "RestrictedFunds$Cost" "unpaid" "I") ∈ WS := ws_in (List.mem_of_getElem? (i := 414) rfl) rfl
set_option maxRecDepth 100000 in
theorem w416 : (Jvm.Cond.laysFinal "RestrictedFunds$Cost" "RestrictedFunds$Cost" "shares" "[I") ∈ WS := ws_in (List.mem_of_getElem? (i := 416) rfl) rfl
set_option maxRecDepth 100000 in
theorem w419 : (Jvm.Cond.methodLink "RestrictedFundsLaw" (74 : Nat) ({ cls := "RestrictedFunds", name := "charge", desc := "()I" } : Jvm.MethodName)) ∈ WS := ws_in (List.mem_of_getElem? (i := 419) rfl) rfl
set_option maxRecDepth 100000 in
theorem w420 : (Jvm.Cond.instanceMethod ({ cls := "RestrictedFunds", name := "charge", desc := "()I" } : Jvm.MethodName)) ∈ WS := ws_in (List.mem_of_getElem? (i := 420) rfl) rfl
set_option maxRecDepth 100000 in
theorem w421 : (Jvm.Cond.selects "RestrictedFunds" ({ cls := "RestrictedFunds", name := "charge", desc := "()I" } : Jvm.MethodName) ({ cls := "RestrictedFunds", name := "charge", desc := "()I" } : Jvm.MethodName)) ∈ WS := ws_in (List.mem_of_getElem? (i := 421) rfl) rfl
set_option maxRecDepth 100000 in
theorem w422 : (Jvm.Cond.code ({ cls := "RestrictedFunds", name := "charge", desc := "()I" } : Jvm.MethodName) prog_1_method_8_code (2 : Nat) (Option.some Jvm.ClassFile.FieldType.int)) ∈ WS := ws_in (List.mem_of_getElem? (i := 422) rfl) rfl
set_option maxRecDepth 100000 in
theorem w423 : (Jvm.Cond.methodLink "RestrictedFunds" (90 : Nat) ({ cls := "RestrictedFunds", name := "preparePlan", desc := "()V" } : Jvm.MethodName)) ∈ WS := ws_in (List.mem_of_getElem? (i := 423) rfl) rfl
set_option maxRecDepth 100000 in
theorem w425 : (Jvm.Cond.instanceMethod ({ cls := "RestrictedFunds", name := "preparePlan", desc := "()V" } : Jvm.MethodName)) ∈ WS := ws_in (List.mem_of_getElem? (i := 425) rfl) rfl
set_option maxRecDepth 100000 in
theorem w426 : (Jvm.Cond.code ({ cls := "RestrictedFunds", name := "preparePlan", desc := "()V" } : Jvm.MethodName) prog_1_method_36_code (3 : Nat) (Option.none : Option Jvm.ClassFile.FieldType)) ∈ WS := ws_in (List.mem_of_getElem? (i := 426) rfl) rfl
set_option maxRecDepth 100000 in
theorem w427 : (Jvm.Cond.methodLink "RestrictedFunds" (199 : Nat) ({ cls := "RestrictedFunds", name := "lineUpPots", desc := "()V" } : Jvm.MethodName)) ∈ WS := ws_in (List.mem_of_getElem? (i := 427) rfl) rfl
set_option maxRecDepth 100000 in
theorem w429 : (Jvm.Cond.instanceMethod ({ cls := "RestrictedFunds", name := "lineUpPots", desc := "()V" } : Jvm.MethodName)) ∈ WS := ws_in (List.mem_of_getElem? (i := 429) rfl) rfl
set_option maxRecDepth 100000 in
theorem w430 : (Jvm.Cond.code ({ cls := "RestrictedFunds", name := "lineUpPots", desc := "()V" } : Jvm.MethodName) prog_1_method_37_code (2 : Nat) (Option.none : Option Jvm.ClassFile.FieldType)) ∈ WS := ws_in (List.mem_of_getElem? (i := 430) rfl) rfl
set_option maxRecDepth 100000 in
theorem w431 : (Jvm.Cond.methodLink "RestrictedFunds" (216 : Nat) ({ cls := "java/util/ArrayList", name := "clear", desc := "()V" } : Jvm.MethodName)) ∈ WS := ws_in (List.mem_of_getElem? (i := 431) rfl) rfl
set_option maxRecDepth 100000 in
theorem w432 : (Jvm.Cond.instanceMethod ({ cls := "java/util/ArrayList", name := "clear", desc := "()V" } : Jvm.MethodName)) ∈ WS := ws_in (List.mem_of_getElem? (i := 432) rfl) rfl
set_option maxRecDepth 100000 in
theorem w433 : (Jvm.Cond.selects "java/util/ArrayList" ({ cls := "java/util/ArrayList", name := "clear", desc := "()V" } : Jvm.MethodName) ({ cls := "java/util/ArrayList", name := "clear", desc := "()V" } : Jvm.MethodName)) ∈ WS := ws_in (List.mem_of_getElem? (i := 433) rfl) rfl
set_option maxRecDepth 100000 in
theorem w434 : (Jvm.Cond.code ({ cls := "java/util/ArrayList", name := "clear", desc := "()V" } : Jvm.MethodName) prog_23_method_40_code (4 : Nat) (Option.none : Option Jvm.ClassFile.FieldType)) ∈ WS := ws_in (List.mem_of_getElem? (i := 434) rfl) rfl
set_option maxRecDepth 100000 in
theorem w435 : (Jvm.Cond.classLink "RestrictedFunds" (155 : Nat) "RestrictedFunds$Pot") ∈ WS := ws_in (List.mem_of_getElem? (i := 435) rfl) rfl
set_option maxRecDepth 100000 in
theorem w436 : (Jvm.Cond.methodLink "RestrictedFunds" (219 : Nat) ({ cls := "RestrictedFunds", name := "lineUp", desc := "(LRestrictedFunds$Pot;)V" } : Jvm.MethodName)) ∈ WS := ws_in (List.mem_of_getElem? (i := 436) rfl) rfl
set_option maxRecDepth 100000 in
theorem w438 : (Jvm.Cond.instanceMethod ({ cls := "RestrictedFunds", name := "lineUp", desc := "(LRestrictedFunds$Pot;)V" } : Jvm.MethodName)) ∈ WS := ws_in (List.mem_of_getElem? (i := 438) rfl) rfl
set_option maxRecDepth 100000 in
theorem w439 : (Jvm.Cond.code ({ cls := "RestrictedFunds", name := "lineUp", desc := "(LRestrictedFunds$Pot;)V" } : Jvm.MethodName) prog_1_method_38_code (3 : Nat) (Option.none : Option Jvm.ClassFile.FieldType)) ∈ WS := ws_in (List.mem_of_getElem? (i := 439) rfl) rfl
set_option maxRecDepth 100000 in
theorem w440 : (Jvm.Cond.methodLink "RestrictedFunds" (223 : Nat) ({ cls := "RestrictedFunds$Pot", name := "expiry", desc := "()I" } : Jvm.MethodName)) ∈ WS := ws_in (List.mem_of_getElem? (i := 440) rfl) rfl
set_option maxRecDepth 100000 in
theorem w442 : (Jvm.Cond.sameMethod "RestrictedFunds$Pot" "RestrictedFunds$Pot" "expiry" "()I") ∈ WS := ws_in (List.mem_of_getElem? (i := 442) rfl) rfl
set_option maxRecDepth 100000 in
theorem w443 : (Jvm.Cond.selects "RestrictedFunds$Commitment" ({ cls := "RestrictedFunds$Pot", name := "expiry", desc := "()I" } : Jvm.MethodName) ({ cls := "RestrictedFunds$Commitment", name := "expiry", desc := "()I" } : Jvm.MethodName)) ∈ WS := ws_in (List.mem_of_getElem? (i := 443) rfl) rfl
set_option maxRecDepth 100000 in
theorem w444 : (Jvm.Cond.selects "RestrictedFunds$Fund" ({ cls := "RestrictedFunds$Pot", name := "expiry", desc := "()I" } : Jvm.MethodName) ({ cls := "RestrictedFunds$Fund", name := "expiry", desc := "()I" } : Jvm.MethodName)) ∈ WS := ws_in (List.mem_of_getElem? (i := 444) rfl) rfl
set_option maxRecDepth 100000 in
theorem w445 : (Jvm.Cond.instanceMethod ({ cls := "RestrictedFunds$Fund", name := "expiry", desc := "()I" } : Jvm.MethodName)) ∈ WS := ws_in (List.mem_of_getElem? (i := 445) rfl) rfl
set_option maxRecDepth 100000 in
theorem w446 : (Jvm.Cond.code ({ cls := "RestrictedFunds$Fund", name := "expiry", desc := "()I" } : Jvm.MethodName) prog_4_method_3_code (1 : Nat) (Option.some Jvm.ClassFile.FieldType.int)) ∈ WS := ws_in (List.mem_of_getElem? (i := 446) rfl) rfl
set_option maxRecDepth 100000 in
theorem w447 : (Jvm.Cond.methodLink "RestrictedFunds" (224 : Nat) ({ cls := "java/util/ArrayList", name := "add", desc := "(ILjava/lang/Object;)V" } : Jvm.MethodName)) ∈ WS := ws_in (List.mem_of_getElem? (i := 447) rfl) rfl
set_option maxRecDepth 100000 in
theorem w448 : (Jvm.Cond.instanceMethod ({ cls := "java/util/ArrayList", name := "add", desc := "(ILjava/lang/Object;)V" } : Jvm.MethodName)) ∈ WS := ws_in (List.mem_of_getElem? (i := 448) rfl) rfl
set_option maxRecDepth 100000 in
theorem w449 : (Jvm.Cond.selects "java/util/ArrayList" ({ cls := "java/util/ArrayList", name := "add", desc := "(ILjava/lang/Object;)V" } : Jvm.MethodName) ({ cls := "java/util/ArrayList", name := "add", desc := "(ILjava/lang/Object;)V" } : Jvm.MethodName)) ∈ WS := ws_in (List.mem_of_getElem? (i := 449) rfl) rfl
set_option maxRecDepth 100000 in
theorem w450 : (Jvm.Cond.code ({ cls := "java/util/ArrayList", name := "add", desc := "(ILjava/lang/Object;)V" } : Jvm.MethodName) prog_23_method_26_code (5 : Nat) (Option.none : Option Jvm.ClassFile.FieldType)) ∈ WS := ws_in (List.mem_of_getElem? (i := 450) rfl) rfl
set_option maxRecDepth 100000 in
theorem w451 : (Jvm.Cond.methodLink "java/util/ArrayList" (135 : Nat) ({ cls := "java/util/ArrayList", name := "rangeCheckForAdd", desc := "(I)V" } : Jvm.MethodName)) ∈ WS := ws_in (List.mem_of_getElem? (i := 451) rfl) rfl
set_option maxRecDepth 100000 in
theorem w453 : (Jvm.Cond.instanceMethod ({ cls := "java/util/ArrayList", name := "rangeCheckForAdd", desc := "(I)V" } : Jvm.MethodName)) ∈ WS := ws_in (List.mem_of_getElem? (i := 453) rfl) rfl
set_option maxRecDepth 100000 in
theorem w454 : (Jvm.Cond.code ({ cls := "java/util/ArrayList", name := "rangeCheckForAdd", desc := "(I)V" } : Jvm.MethodName) prog_23_method_45_code (2 : Nat) (Option.none : Option Jvm.ClassFile.FieldType)) ∈ WS := ws_in (List.mem_of_getElem? (i := 454) rfl) rfl
set_option maxRecDepth 100000 in
theorem w455 : (Jvm.Cond.methodLink "RestrictedFunds" (202 : Nat) ({ cls := "RestrictedFunds$Plan", name := "begin", desc := "(II)V" } : Jvm.MethodName)) ∈ WS := ws_in (List.mem_of_getElem? (i := 455) rfl) rfl
set_option maxRecDepth 100000 in
theorem w456 : (Jvm.Cond.instanceMethod ({ cls := "RestrictedFunds$Plan", name := "begin", desc := "(II)V" } : Jvm.MethodName)) ∈ WS := ws_in (List.mem_of_getElem? (i := 456) rfl) rfl
set_option maxRecDepth 100000 in
theorem w457 : (Jvm.Cond.selects "RestrictedFunds$Plan" ({ cls := "RestrictedFunds$Plan", name := "begin", desc := "(II)V" } : Jvm.MethodName) ({ cls := "RestrictedFunds$Plan", name := "begin", desc := "(II)V" } : Jvm.MethodName)) ∈ WS := ws_in (List.mem_of_getElem? (i := 457) rfl) rfl
set_option maxRecDepth 100000 in
theorem w458 : (Jvm.Cond.code ({ cls := "RestrictedFunds$Plan", name := "begin", desc := "(II)V" } : Jvm.MethodName) prog_5_method_2_code (5 : Nat) (Option.none : Option Jvm.ClassFile.FieldType)) ∈ WS := ws_in (List.mem_of_getElem? (i := 458) rfl) rfl
set_option maxRecDepth 100000 in
theorem w459 : (Jvm.Cond.methodLink "RestrictedFunds$Plan" (41 : Nat) ({ cls := "java/lang/Math", name := "min", desc := "(II)I" } : Jvm.MethodName)) ∈ WS := ws_in (List.mem_of_getElem? (i := 459) rfl) rfl
set_option maxRecDepth 100000 in
theorem w460 : (Jvm.Cond.methodLink "RestrictedFunds$Plan" (47 : Nat) ({ cls := "java/lang/Math", name := "max", desc := "(II)I" } : Jvm.MethodName)) ∈ WS := ws_in (List.mem_of_getElem? (i := 460) rfl) rfl
set_option maxRecDepth 100000 in
theorem w461 : (Jvm.Cond.methodLink "RestrictedFunds" (206 : Nat) ({ cls := "RestrictedFunds$Plan", name := "setCost", desc := "(II)V" } : Jvm.MethodName)) ∈ WS := ws_in (List.mem_of_getElem? (i := 461) rfl) rfl
set_option maxRecDepth 100000 in
theorem w462 : (Jvm.Cond.instanceMethod ({ cls := "RestrictedFunds$Plan", name := "setCost", desc := "(II)V" } : Jvm.MethodName)) ∈ WS := ws_in (List.mem_of_getElem? (i := 462) rfl) rfl
set_option maxRecDepth 100000 in
theorem w463 : (Jvm.Cond.selects "RestrictedFunds$Plan" ({ cls := "RestrictedFunds$Plan", name := "setCost", desc := "(II)V" } : Jvm.MethodName) ({ cls := "RestrictedFunds$Plan", name := "setCost", desc := "(II)V" } : Jvm.MethodName)) ∈ WS := ws_in (List.mem_of_getElem? (i := 463) rfl) rfl
set_option maxRecDepth 100000 in
theorem w464 : (Jvm.Cond.code ({ cls := "RestrictedFunds$Plan", name := "setCost", desc := "(II)V" } : Jvm.MethodName) prog_5_method_3_code (3 : Nat) (Option.none : Option Jvm.ClassFile.FieldType)) ∈ WS := ws_in (List.mem_of_getElem? (i := 464) rfl) rfl
set_option maxRecDepth 100000 in
theorem w465 : (Jvm.Cond.methodLink "RestrictedFunds$Plan" (57 : Nat) ({ cls := "RestrictedFunds$Plan", name := "isCost", desc := "(I)Z" } : Jvm.MethodName)) ∈ WS := ws_in (List.mem_of_getElem? (i := 465) rfl) rfl
set_option maxRecDepth 100000 in
theorem w467 : (Jvm.Cond.instanceMethod ({ cls := "RestrictedFunds$Plan", name := "isCost", desc := "(I)Z" } : Jvm.MethodName)) ∈ WS := ws_in (List.mem_of_getElem? (i := 467) rfl) rfl
set_option maxRecDepth 100000 in
theorem w468 : (Jvm.Cond.code ({ cls := "RestrictedFunds$Plan", name := "isCost", desc := "(I)Z" } : Jvm.MethodName) prog_5_method_22_code (2 : Nat) (Option.some Jvm.ClassFile.FieldType.boolean)) ∈ WS := ws_in (List.mem_of_getElem? (i := 468) rfl) rfl
set_option maxRecDepth 100000 in
theorem w469 : (Jvm.Cond.methodLink "RestrictedFunds" (209 : Nat) ({ cls := "RestrictedFunds", name := "costsThatMayBePaidBy", desc := "(LRestrictedFunds$Pot;)I" } : Jvm.MethodName)) ∈ WS := ws_in (List.mem_of_getElem? (i := 469) rfl) rfl
set_option maxRecDepth 100000 in
theorem w471 : (Jvm.Cond.instanceMethod ({ cls := "RestrictedFunds", name := "costsThatMayBePaidBy", desc := "(LRestrictedFunds$Pot;)I" } : Jvm.MethodName)) ∈ WS := ws_in (List.mem_of_getElem? (i := 471) rfl) rfl
set_option maxRecDepth 100000 in
theorem w472 : (Jvm.Cond.code ({ cls := "RestrictedFunds", name := "costsThatMayBePaidBy", desc := "(LRestrictedFunds$Pot;)I" } : Jvm.MethodName) prog_1_method_39_code (4 : Nat) (Option.some Jvm.ClassFile.FieldType.int)) ∈ WS := ws_in (List.mem_of_getElem? (i := 472) rfl) rfl
set_option maxRecDepth 100000 in
theorem w473 : (Jvm.Cond.methodLink "RestrictedFunds" (227 : Nat) ({ cls := "RestrictedFunds$Pot", name := "mayPay", desc := "(LRestrictedFunds$Cost;)Z" } : Jvm.MethodName)) ∈ WS := ws_in (List.mem_of_getElem? (i := 473) rfl) rfl
set_option maxRecDepth 100000 in
theorem w475 : (Jvm.Cond.sameMethod "RestrictedFunds$Pot" "RestrictedFunds$Pot" "mayPay" "(LRestrictedFunds$Cost;)Z") ∈ WS := ws_in (List.mem_of_getElem? (i := 475) rfl) rfl
set_option maxRecDepth 100000 in
theorem w476 : (Jvm.Cond.selects "RestrictedFunds$Commitment" ({ cls := "RestrictedFunds$Pot", name := "mayPay", desc := "(LRestrictedFunds$Cost;)Z" } : Jvm.MethodName) ({ cls := "RestrictedFunds$Commitment", name := "mayPay", desc := "(LRestrictedFunds$Cost;)Z" } : Jvm.MethodName)) ∈ WS := ws_in (List.mem_of_getElem? (i := 476) rfl) rfl
set_option maxRecDepth 100000 in
theorem w477 : (Jvm.Cond.instanceMethod ({ cls := "RestrictedFunds$Commitment", name := "mayPay", desc := "(LRestrictedFunds$Cost;)Z" } : Jvm.MethodName)) ∈ WS := ws_in (List.mem_of_getElem? (i := 477) rfl) rfl
set_option maxRecDepth 100000 in
theorem w478 : (Jvm.Cond.code ({ cls := "RestrictedFunds$Commitment", name := "mayPay", desc := "(LRestrictedFunds$Cost;)Z" } : Jvm.MethodName) prog_2_method_4_code (2 : Nat) (Option.some Jvm.ClassFile.FieldType.boolean)) ∈ WS := ws_in (List.mem_of_getElem? (i := 478) rfl) rfl
set_option maxRecDepth 100000 in
theorem w479 : (Jvm.Cond.methodLink "RestrictedFunds$Commitment" (23 : Nat) ({ cls := "RestrictedFunds$Fund", name := "suits", desc := "(LRestrictedFunds$Cost;)Z" } : Jvm.MethodName)) ∈ WS := ws_in (List.mem_of_getElem? (i := 479) rfl) rfl
set_option maxRecDepth 100000 in
theorem w480 : (Jvm.Cond.instanceMethod ({ cls := "RestrictedFunds$Fund", name := "suits", desc := "(LRestrictedFunds$Cost;)Z" } : Jvm.MethodName)) ∈ WS := ws_in (List.mem_of_getElem? (i := 480) rfl) rfl
set_option maxRecDepth 100000 in
theorem w481 : (Jvm.Cond.selects "RestrictedFunds$Fund" ({ cls := "RestrictedFunds$Fund", name := "suits", desc := "(LRestrictedFunds$Cost;)Z" } : Jvm.MethodName) ({ cls := "RestrictedFunds$Fund", name := "suits", desc := "(LRestrictedFunds$Cost;)Z" } : Jvm.MethodName)) ∈ WS := ws_in (List.mem_of_getElem? (i := 481) rfl) rfl
set_option maxRecDepth 100000 in
theorem w482 : (Jvm.Cond.code ({ cls := "RestrictedFunds$Fund", name := "suits", desc := "(LRestrictedFunds$Cost;)Z" } : Jvm.MethodName) prog_4_method_6_code (2 : Nat) (Option.some Jvm.ClassFile.FieldType.boolean)) ∈ WS := ws_in (List.mem_of_getElem? (i := 482) rfl) rfl
set_option maxRecDepth 100000 in
theorem w483 : (Jvm.Cond.methodLink "RestrictedFunds$Fund" (37 : Nat) ({ cls := "RestrictedFunds$Fund", name := "allows", desc := "(I)Z" } : Jvm.MethodName)) ∈ WS := ws_in (List.mem_of_getElem? (i := 483) rfl) rfl
set_option maxRecDepth 100000 in
theorem w484 : (Jvm.Cond.instanceMethod ({ cls := "RestrictedFunds$Fund", name := "allows", desc := "(I)Z" } : Jvm.MethodName)) ∈ WS := ws_in (List.mem_of_getElem? (i := 484) rfl) rfl
set_option maxRecDepth 100000 in
theorem w485 : (Jvm.Cond.selects "RestrictedFunds$Fund" ({ cls := "RestrictedFunds$Fund", name := "allows", desc := "(I)Z" } : Jvm.MethodName) ({ cls := "RestrictedFunds$Fund", name := "allows", desc := "(I)Z" } : Jvm.MethodName)) ∈ WS := ws_in (List.mem_of_getElem? (i := 485) rfl) rfl
set_option maxRecDepth 100000 in
theorem w486 : (Jvm.Cond.code ({ cls := "RestrictedFunds$Fund", name := "allows", desc := "(I)Z" } : Jvm.MethodName) prog_4_method_5_code (2 : Nat) (Option.some Jvm.ClassFile.FieldType.boolean)) ∈ WS := ws_in (List.mem_of_getElem? (i := 486) rfl) rfl
set_option maxRecDepth 100000 in
theorem w488 : (Jvm.Cond.static ({ cls := "RestrictedFunds", name := "has", desc := "(II)Z" } : Jvm.MethodName)) ∈ WS := ws_in (List.mem_of_getElem? (i := 488) rfl) rfl
set_option maxRecDepth 100000 in
theorem w489 : (Jvm.Cond.code ({ cls := "RestrictedFunds", name := "has", desc := "(II)Z" } : Jvm.MethodName) prog_1_method_49_code (2 : Nat) (Option.some Jvm.ClassFile.FieldType.boolean)) ∈ WS := ws_in (List.mem_of_getElem? (i := 489) rfl) rfl
set_option maxRecDepth 100000 in
theorem w490 : (Jvm.Cond.selects "RestrictedFunds$Fund" ({ cls := "RestrictedFunds$Pot", name := "mayPay", desc := "(LRestrictedFunds$Cost;)Z" } : Jvm.MethodName) ({ cls := "RestrictedFunds$Fund", name := "mayPay", desc := "(LRestrictedFunds$Cost;)Z" } : Jvm.MethodName)) ∈ WS := ws_in (List.mem_of_getElem? (i := 490) rfl) rfl
set_option maxRecDepth 100000 in
theorem w491 : (Jvm.Cond.instanceMethod ({ cls := "RestrictedFunds$Fund", name := "mayPay", desc := "(LRestrictedFunds$Cost;)Z" } : Jvm.MethodName)) ∈ WS := ws_in (List.mem_of_getElem? (i := 491) rfl) rfl
set_option maxRecDepth 100000 in
theorem w492 : (Jvm.Cond.code ({ cls := "RestrictedFunds$Fund", name := "mayPay", desc := "(LRestrictedFunds$Cost;)Z" } : Jvm.MethodName) prog_4_method_4_code (2 : Nat) (Option.some Jvm.ClassFile.FieldType.boolean)) ∈ WS := ws_in (List.mem_of_getElem? (i := 492) rfl) rfl
set_option maxRecDepth 100000 in
theorem w493 : (Jvm.Cond.methodLink "RestrictedFunds$Fund" (24 : Nat) ({ cls := "RestrictedFunds$Fund", name := "suits", desc := "(LRestrictedFunds$Cost;)Z" } : Jvm.MethodName)) ∈ WS := ws_in (List.mem_of_getElem? (i := 493) rfl) rfl
set_option maxRecDepth 100000 in
theorem w494 : (Jvm.Cond.methodLink "RestrictedFunds" (213 : Nat) ({ cls := "RestrictedFunds$Plan", name := "setPot", desc := "(III)V" } : Jvm.MethodName)) ∈ WS := ws_in (List.mem_of_getElem? (i := 494) rfl) rfl
set_option maxRecDepth 100000 in
theorem w495 : (Jvm.Cond.instanceMethod ({ cls := "RestrictedFunds$Plan", name := "setPot", desc := "(III)V" } : Jvm.MethodName)) ∈ WS := ws_in (List.mem_of_getElem? (i := 495) rfl) rfl
set_option maxRecDepth 100000 in
theorem w496 : (Jvm.Cond.selects "RestrictedFunds$Plan" ({ cls := "RestrictedFunds$Plan", name := "setPot", desc := "(III)V" } : Jvm.MethodName) ({ cls := "RestrictedFunds$Plan", name := "setPot", desc := "(III)V" } : Jvm.MethodName)) ∈ WS := ws_in (List.mem_of_getElem? (i := 496) rfl) rfl
set_option maxRecDepth 100000 in
theorem w497 : (Jvm.Cond.code ({ cls := "RestrictedFunds$Plan", name := "setPot", desc := "(III)V" } : Jvm.MethodName) prog_5_method_4_code (4 : Nat) (Option.none : Option Jvm.ClassFile.FieldType)) ∈ WS := ws_in (List.mem_of_getElem? (i := 497) rfl) rfl
set_option maxRecDepth 100000 in
theorem w498 : (Jvm.Cond.methodLink "RestrictedFunds$Plan" (61 : Nat) ({ cls := "RestrictedFunds$Plan", name := "isPot", desc := "(I)Z" } : Jvm.MethodName)) ∈ WS := ws_in (List.mem_of_getElem? (i := 498) rfl) rfl
set_option maxRecDepth 100000 in
theorem w500 : (Jvm.Cond.instanceMethod ({ cls := "RestrictedFunds$Plan", name := "isPot", desc := "(I)Z" } : Jvm.MethodName)) ∈ WS := ws_in (List.mem_of_getElem? (i := 500) rfl) rfl
set_option maxRecDepth 100000 in
theorem w501 : (Jvm.Cond.code ({ cls := "RestrictedFunds$Plan", name := "isPot", desc := "(I)Z" } : Jvm.MethodName) prog_5_method_21_code (2 : Nat) (Option.some Jvm.ClassFile.FieldType.boolean)) ∈ WS := ws_in (List.mem_of_getElem? (i := 501) rfl) rfl
set_option maxRecDepth 100000 in
theorem w502 : (Jvm.Cond.methodLink "RestrictedFunds" (93 : Nat) ({ cls := "RestrictedFunds$Plan", name := "payCosts", desc := "()V" } : Jvm.MethodName)) ∈ WS := ws_in (List.mem_of_getElem? (i := 502) rfl) rfl
set_option maxRecDepth 100000 in
theorem w503 : (Jvm.Cond.instanceMethod ({ cls := "RestrictedFunds$Plan", name := "payCosts", desc := "()V" } : Jvm.MethodName)) ∈ WS := ws_in (List.mem_of_getElem? (i := 503) rfl) rfl
set_option maxRecDepth 100000 in
theorem w504 : (Jvm.Cond.selects "RestrictedFunds$Plan" ({ cls := "RestrictedFunds$Plan", name := "payCosts", desc := "()V" } : Jvm.MethodName) ({ cls := "RestrictedFunds$Plan", name := "payCosts", desc := "()V" } : Jvm.MethodName)) ∈ WS := ws_in (List.mem_of_getElem? (i := 504) rfl) rfl
set_option maxRecDepth 100000 in
theorem w505 : (Jvm.Cond.code ({ cls := "RestrictedFunds$Plan", name := "payCosts", desc := "()V" } : Jvm.MethodName) prog_5_method_9_code (4 : Nat) (Option.none : Option Jvm.ClassFile.FieldType)) ∈ WS := ws_in (List.mem_of_getElem? (i := 505) rfl) rfl
set_option maxRecDepth 100000 in
theorem w506 : (Jvm.Cond.constant "RestrictedFunds$Plan" (64 : Nat) (1000000 : Int32)) ∈ WS := ws_in (List.mem_of_getElem? (i := 506) rfl) rfl
set_option maxRecDepth 100000 in
theorem w507 : (Jvm.Cond.methodLink "RestrictedFunds$Plan" (65 : Nat) ({ cls := "RestrictedFunds$Plan", name := "payMoreOf", desc := "(I)Z" } : Jvm.MethodName)) ∈ WS := ws_in (List.mem_of_getElem? (i := 507) rfl) rfl
set_option maxRecDepth 100000 in
theorem w509 : (Jvm.Cond.instanceMethod ({ cls := "RestrictedFunds$Plan", name := "payMoreOf", desc := "(I)Z" } : Jvm.MethodName)) ∈ WS := ws_in (List.mem_of_getElem? (i := 509) rfl) rfl
set_option maxRecDepth 100000 in
theorem w510 : (Jvm.Cond.code ({ cls := "RestrictedFunds$Plan", name := "payMoreOf", desc := "(I)Z" } : Jvm.MethodName) prog_5_method_12_code (5 : Nat) (Option.some Jvm.ClassFile.FieldType.boolean)) ∈ WS := ws_in (List.mem_of_getElem? (i := 510) rfl) rfl
set_option maxRecDepth 100000 in
theorem w511 : (Jvm.Cond.methodLink "RestrictedFunds$Plan" (78 : Nat) ({ cls := "RestrictedFunds$Plan", name := "leftOfCost", desc := "(I)I" } : Jvm.MethodName)) ∈ WS := ws_in (List.mem_of_getElem? (i := 511) rfl) rfl
set_option maxRecDepth 100000 in
theorem w512 : (Jvm.Cond.instanceMethod ({ cls := "RestrictedFunds$Plan", name := "leftOfCost", desc := "(I)I" } : Jvm.MethodName)) ∈ WS := ws_in (List.mem_of_getElem? (i := 512) rfl) rfl
set_option maxRecDepth 100000 in
theorem w513 : (Jvm.Cond.selects "RestrictedFunds$Plan" ({ cls := "RestrictedFunds$Plan", name := "leftOfCost", desc := "(I)I" } : Jvm.MethodName) ({ cls := "RestrictedFunds$Plan", name := "leftOfCost", desc := "(I)I" } : Jvm.MethodName)) ∈ WS := ws_in (List.mem_of_getElem? (i := 513) rfl) rfl
set_option maxRecDepth 100000 in
theorem w514 : (Jvm.Cond.code ({ cls := "RestrictedFunds$Plan", name := "leftOfCost", desc := "(I)I" } : Jvm.MethodName) prog_5_method_5_code (2 : Nat) (Option.some Jvm.ClassFile.FieldType.int)) ∈ WS := ws_in (List.mem_of_getElem? (i := 514) rfl) rfl
set_option maxRecDepth 100000 in
theorem w515 : (Jvm.Cond.methodLink "RestrictedFunds$Plan" (82 : Nat) ({ cls := "RestrictedFunds$Plan", name := "potsWithMoney", desc := "()I" } : Jvm.MethodName)) ∈ WS := ws_in (List.mem_of_getElem? (i := 515) rfl) rfl
set_option maxRecDepth 100000 in
theorem w517 : (Jvm.Cond.instanceMethod ({ cls := "RestrictedFunds$Plan", name := "potsWithMoney", desc := "()I" } : Jvm.MethodName)) ∈ WS := ws_in (List.mem_of_getElem? (i := 517) rfl) rfl
set_option maxRecDepth 100000 in
theorem w518 : (Jvm.Cond.code ({ cls := "RestrictedFunds$Plan", name := "potsWithMoney", desc := "()I" } : Jvm.MethodName) prog_5_method_26_code (3 : Nat) (Option.some Jvm.ClassFile.FieldType.int)) ∈ WS := ws_in (List.mem_of_getElem? (i := 518) rfl) rfl
set_option maxRecDepth 100000 in
theorem w519 : (Jvm.Cond.methodLink "RestrictedFunds$Plan" (86 : Nat) ({ cls := "RestrictedFunds$Plan", name := "potsWith", desc := "([II)I" } : Jvm.MethodName)) ∈ WS := ws_in (List.mem_of_getElem? (i := 519) rfl) rfl
set_option maxRecDepth 100000 in
theorem w521 : (Jvm.Cond.instanceMethod ({ cls := "RestrictedFunds$Plan", name := "potsWith", desc := "([II)I" } : Jvm.MethodName)) ∈ WS := ws_in (List.mem_of_getElem? (i := 521) rfl) rfl
set_option maxRecDepth 100000 in
theorem w522 : (Jvm.Cond.code ({ cls := "RestrictedFunds$Plan", name := "potsWith", desc := "([II)I" } : Jvm.MethodName) prog_5_method_27_code (5 : Nat) (Option.some Jvm.ClassFile.FieldType.int)) ∈ WS := ws_in (List.mem_of_getElem? (i := 522) rfl) rfl
set_option maxRecDepth 100000 in
theorem w524 : (Jvm.Cond.methodLink "RestrictedFunds$Plan" (90 : Nat) ({ cls := "RestrictedFunds$Plan", name := "findChain", desc := "(III)I" } : Jvm.MethodName)) ∈ WS := ws_in (List.mem_of_getElem? (i := 524) rfl) rfl
set_option maxRecDepth 100000 in
theorem w526 : (Jvm.Cond.instanceMethod ({ cls := "RestrictedFunds$Plan", name := "findChain", desc := "(III)I" } : Jvm.MethodName)) ∈ WS := ws_in (List.mem_of_getElem? (i := 526) rfl) rfl
set_option maxRecDepth 100000 in
theorem w527 : (Jvm.Cond.code ({ cls := "RestrictedFunds$Plan", name := "findChain", desc := "(III)I" } : Jvm.MethodName) prog_5_method_15_code (10 : Nat) (Option.some Jvm.ClassFile.FieldType.int)) ∈ WS := ws_in (List.mem_of_getElem? (i := 527) rfl) rfl
set_option maxRecDepth 100000 in
theorem w528 : (Jvm.Cond.methodLink "RestrictedFunds$Plan" (123 : Nat) ({ cls := "RestrictedFunds$Plan", name := "costBetween", desc := "(III)I" } : Jvm.MethodName)) ∈ WS := ws_in (List.mem_of_getElem? (i := 528) rfl) rfl
set_option maxRecDepth 100000 in
theorem w530 : (Jvm.Cond.instanceMethod ({ cls := "RestrictedFunds$Plan", name := "costBetween", desc := "(III)I" } : Jvm.MethodName)) ∈ WS := ws_in (List.mem_of_getElem? (i := 530) rfl) rfl
set_option maxRecDepth 100000 in
theorem w531 : (Jvm.Cond.code ({ cls := "RestrictedFunds$Plan", name := "costBetween", desc := "(III)I" } : Jvm.MethodName) prog_5_method_16_code (6 : Nat) (Option.some Jvm.ClassFile.FieldType.int)) ∈ WS := ws_in (List.mem_of_getElem? (i := 531) rfl) rfl
set_option maxRecDepth 100000 in
theorem w532 : (Jvm.Cond.methodLink "RestrictedFunds$Plan" (94 : Nat) ({ cls := "RestrictedFunds$Plan", name := "firstOfChain", desc := "(I)I" } : Jvm.MethodName)) ∈ WS := ws_in (List.mem_of_getElem? (i := 532) rfl) rfl
set_option maxRecDepth 100000 in
theorem w534 : (Jvm.Cond.instanceMethod ({ cls := "RestrictedFunds$Plan", name := "firstOfChain", desc := "(I)I" } : Jvm.MethodName)) ∈ WS := ws_in (List.mem_of_getElem? (i := 534) rfl) rfl
set_option maxRecDepth 100000 in
theorem w535 : (Jvm.Cond.code ({ cls := "RestrictedFunds$Plan", name := "firstOfChain", desc := "(I)I" } : Jvm.MethodName) prog_5_method_18_code (4 : Nat) (Option.some Jvm.ClassFile.FieldType.int)) ∈ WS := ws_in (List.mem_of_getElem? (i := 535) rfl) rfl
set_option maxRecDepth 100000 in
theorem w536 : (Jvm.Cond.methodLink "RestrictedFunds$Plan" (126 : Nat) ({ cls := "RestrictedFunds$Plan", name := "hasAhead", desc := "(I)Z" } : Jvm.MethodName)) ∈ WS := ws_in (List.mem_of_getElem? (i := 536) rfl) rfl
set_option maxRecDepth 100000 in
theorem w538 : (Jvm.Cond.instanceMethod ({ cls := "RestrictedFunds$Plan", name := "hasAhead", desc := "(I)Z" } : Jvm.MethodName)) ∈ WS := ws_in (List.mem_of_getElem? (i := 538) rfl) rfl
set_option maxRecDepth 100000 in
theorem w539 : (Jvm.Cond.code ({ cls := "RestrictedFunds$Plan", name := "hasAhead", desc := "(I)Z" } : Jvm.MethodName) prog_5_method_17_code (2 : Nat) (Option.some Jvm.ClassFile.FieldType.boolean)) ∈ WS := ws_in (List.mem_of_getElem? (i := 539) rfl) rfl
set_option maxRecDepth 100000 in
theorem w540 : (Jvm.Cond.methodLink "RestrictedFunds$Plan" (97 : Nat) ({ cls := "RestrictedFunds$Plan", name := "leftOfPot", desc := "(I)I" } : Jvm.MethodName)) ∈ WS := ws_in (List.mem_of_getElem? (i := 540) rfl) rfl
set_option maxRecDepth 100000 in
theorem w541 : (Jvm.Cond.instanceMethod ({ cls := "RestrictedFunds$Plan", name := "leftOfPot", desc := "(I)I" } : Jvm.MethodName)) ∈ WS := ws_in (List.mem_of_getElem? (i := 541) rfl) rfl
set_option maxRecDepth 100000 in
theorem w542 : (Jvm.Cond.selects "RestrictedFunds$Plan" ({ cls := "RestrictedFunds$Plan", name := "leftOfPot", desc := "(I)I" } : Jvm.MethodName) ({ cls := "RestrictedFunds$Plan", name := "leftOfPot", desc := "(I)I" } : Jvm.MethodName)) ∈ WS := ws_in (List.mem_of_getElem? (i := 542) rfl) rfl
set_option maxRecDepth 100000 in
theorem w543 : (Jvm.Cond.code ({ cls := "RestrictedFunds$Plan", name := "leftOfPot", desc := "(I)I" } : Jvm.MethodName) prog_5_method_6_code (2 : Nat) (Option.some Jvm.ClassFile.FieldType.int)) ∈ WS := ws_in (List.mem_of_getElem? (i := 543) rfl) rfl
set_option maxRecDepth 100000 in
theorem w544 : (Jvm.Cond.methodLink "RestrictedFunds$Plan" (100 : Nat) ({ cls := "RestrictedFunds$Plan", name := "narrowest", desc := "(II)I" } : Jvm.MethodName)) ∈ WS := ws_in (List.mem_of_getElem? (i := 544) rfl) rfl
set_option maxRecDepth 100000 in
theorem w546 : (Jvm.Cond.instanceMethod ({ cls := "RestrictedFunds$Plan", name := "narrowest", desc := "(II)I" } : Jvm.MethodName)) ∈ WS := ws_in (List.mem_of_getElem? (i := 546) rfl) rfl
set_option maxRecDepth 100000 in
theorem w547 : (Jvm.Cond.code ({ cls := "RestrictedFunds$Plan", name := "narrowest", desc := "(II)I" } : Jvm.MethodName) prog_5_method_19_code (6 : Nat) (Option.some Jvm.ClassFile.FieldType.int)) ∈ WS := ws_in (List.mem_of_getElem? (i := 547) rfl) rfl
set_option maxRecDepth 100000 in
theorem w548 : (Jvm.Cond.methodLink "RestrictedFunds$Plan" (120 : Nat) ({ cls := "RestrictedFunds$Plan", name := "share", desc := "(II)I" } : Jvm.MethodName)) ∈ WS := ws_in (List.mem_of_getElem? (i := 548) rfl) rfl
set_option maxRecDepth 100000 in
theorem w549 : (Jvm.Cond.instanceMethod ({ cls := "RestrictedFunds$Plan", name := "share", desc := "(II)I" } : Jvm.MethodName)) ∈ WS := ws_in (List.mem_of_getElem? (i := 549) rfl) rfl
set_option maxRecDepth 100000 in
theorem w550 : (Jvm.Cond.selects "RestrictedFunds$Plan" ({ cls := "RestrictedFunds$Plan", name := "share", desc := "(II)I" } : Jvm.MethodName) ({ cls := "RestrictedFunds$Plan", name := "share", desc := "(II)I" } : Jvm.MethodName)) ∈ WS := ws_in (List.mem_of_getElem? (i := 550) rfl) rfl
set_option maxRecDepth 100000 in
theorem w551 : (Jvm.Cond.code ({ cls := "RestrictedFunds$Plan", name := "share", desc := "(II)I" } : Jvm.MethodName) prog_5_method_7_code (3 : Nat) (Option.some Jvm.ClassFile.FieldType.int)) ∈ WS := ws_in (List.mem_of_getElem? (i := 551) rfl) rfl
set_option maxRecDepth 100000 in
theorem w552 : (Jvm.Cond.methodLink "RestrictedFunds$Plan" (103 : Nat) ({ cls := "RestrictedFunds$Plan", name := "shiftAlongChain", desc := "(II)V" } : Jvm.MethodName)) ∈ WS := ws_in (List.mem_of_getElem? (i := 552) rfl) rfl
set_option maxRecDepth 100000 in
theorem w554 : (Jvm.Cond.instanceMethod ({ cls := "RestrictedFunds$Plan", name := "shiftAlongChain", desc := "(II)V" } : Jvm.MethodName)) ∈ WS := ws_in (List.mem_of_getElem? (i := 554) rfl) rfl
set_option maxRecDepth 100000 in
theorem w555 : (Jvm.Cond.code ({ cls := "RestrictedFunds$Plan", name := "shiftAlongChain", desc := "(II)V" } : Jvm.MethodName) prog_5_method_20_code (5 : Nat) (Option.none : Option Jvm.ClassFile.FieldType)) ∈ WS := ws_in (List.mem_of_getElem? (i := 555) rfl) rfl
set_option maxRecDepth 100000 in
theorem w556 : (Jvm.Cond.methodLink "RestrictedFunds$Plan" (107 : Nat) ({ cls := "RestrictedFunds$Plan", name := "addShare", desc := "(III)V" } : Jvm.MethodName)) ∈ WS := ws_in (List.mem_of_getElem? (i := 556) rfl) rfl
set_option maxRecDepth 100000 in
theorem w558 : (Jvm.Cond.instanceMethod ({ cls := "RestrictedFunds$Plan", name := "addShare", desc := "(III)V" } : Jvm.MethodName)) ∈ WS := ws_in (List.mem_of_getElem? (i := 558) rfl) rfl
set_option maxRecDepth 100000 in
theorem w559 : (Jvm.Cond.code ({ cls := "RestrictedFunds$Plan", name := "addShare", desc := "(III)V" } : Jvm.MethodName) prog_5_method_23_code (5 : Nat) (Option.none : Option Jvm.ClassFile.FieldType)) ∈ WS := ws_in (List.mem_of_getElem? (i := 559) rfl) rfl
set_option maxRecDepth 100000 in
theorem w560 : (Jvm.Cond.methodLink "RestrictedFunds$Plan" (111 : Nat) ({ cls := "RestrictedFunds$Plan", name := "addToPot", desc := "(II)V" } : Jvm.MethodName)) ∈ WS := ws_in (List.mem_of_getElem? (i := 560) rfl) rfl
set_option maxRecDepth 100000 in
theorem w562 : (Jvm.Cond.instanceMethod ({ cls := "RestrictedFunds$Plan", name := "addToPot", desc := "(II)V" } : Jvm.MethodName)) ∈ WS := ws_in (List.mem_of_getElem? (i := 562) rfl) rfl
set_option maxRecDepth 100000 in
theorem w563 : (Jvm.Cond.code ({ cls := "RestrictedFunds$Plan", name := "addToPot", desc := "(II)V" } : Jvm.MethodName) prog_5_method_24_code (3 : Nat) (Option.none : Option Jvm.ClassFile.FieldType)) ∈ WS := ws_in (List.mem_of_getElem? (i := 563) rfl) rfl
set_option maxRecDepth 100000 in
theorem w564 : (Jvm.Cond.methodLink "RestrictedFunds$Plan" (114 : Nat) ({ cls := "RestrictedFunds$Plan", name := "planCost", desc := "(II)V" } : Jvm.MethodName)) ∈ WS := ws_in (List.mem_of_getElem? (i := 564) rfl) rfl
set_option maxRecDepth 100000 in
theorem w566 : (Jvm.Cond.instanceMethod ({ cls := "RestrictedFunds$Plan", name := "planCost", desc := "(II)V" } : Jvm.MethodName)) ∈ WS := ws_in (List.mem_of_getElem? (i := 566) rfl) rfl
set_option maxRecDepth 100000 in
theorem w567 : (Jvm.Cond.code ({ cls := "RestrictedFunds$Plan", name := "planCost", desc := "(II)V" } : Jvm.MethodName) prog_5_method_25_code (3 : Nat) (Option.none : Option Jvm.ClassFile.FieldType)) ∈ WS := ws_in (List.mem_of_getElem? (i := 567) rfl) rfl
set_option maxRecDepth 100000 in
theorem w568 : (Jvm.Cond.methodLink "RestrictedFunds" (96 : Nat) ({ cls := "RestrictedFunds$Plan", name := "drawOnPots", desc := "()V" } : Jvm.MethodName)) ∈ WS := ws_in (List.mem_of_getElem? (i := 568) rfl) rfl
set_option maxRecDepth 100000 in
theorem w569 : (Jvm.Cond.instanceMethod ({ cls := "RestrictedFunds$Plan", name := "drawOnPots", desc := "()V" } : Jvm.MethodName)) ∈ WS := ws_in (List.mem_of_getElem? (i := 569) rfl) rfl
set_option maxRecDepth 100000 in
theorem w570 : (Jvm.Cond.selects "RestrictedFunds$Plan" ({ cls := "RestrictedFunds$Plan", name := "drawOnPots", desc := "()V" } : Jvm.MethodName) ({ cls := "RestrictedFunds$Plan", name := "drawOnPots", desc := "()V" } : Jvm.MethodName)) ∈ WS := ws_in (List.mem_of_getElem? (i := 570) rfl) rfl
set_option maxRecDepth 100000 in
theorem w571 : (Jvm.Cond.code ({ cls := "RestrictedFunds$Plan", name := "drawOnPots", desc := "()V" } : Jvm.MethodName) prog_5_method_10_code (4 : Nat) (Option.none : Option Jvm.ClassFile.FieldType)) ∈ WS := ws_in (List.mem_of_getElem? (i := 571) rfl) rfl
set_option maxRecDepth 100000 in
theorem w572 : (Jvm.Cond.methodLink "RestrictedFunds$Plan" (68 : Nat) ({ cls := "RestrictedFunds$Plan", name := "drawMoreOn", desc := "(I)Z" } : Jvm.MethodName)) ∈ WS := ws_in (List.mem_of_getElem? (i := 572) rfl) rfl
set_option maxRecDepth 100000 in
theorem w574 : (Jvm.Cond.instanceMethod ({ cls := "RestrictedFunds$Plan", name := "drawMoreOn", desc := "(I)Z" } : Jvm.MethodName)) ∈ WS := ws_in (List.mem_of_getElem? (i := 574) rfl) rfl
set_option maxRecDepth 100000 in
theorem w575 : (Jvm.Cond.code ({ cls := "RestrictedFunds$Plan", name := "drawMoreOn", desc := "(I)Z" } : Jvm.MethodName) prog_5_method_13_code (4 : Nat) (Option.some Jvm.ClassFile.FieldType.boolean)) ∈ WS := ws_in (List.mem_of_getElem? (i := 575) rfl) rfl
set_option maxRecDepth 100000 in
theorem w576 : (Jvm.Cond.methodLink "RestrictedFunds$Plan" (117 : Nat) ({ cls := "RestrictedFunds$Plan", name := "potsAfter", desc := "(I)I" } : Jvm.MethodName)) ∈ WS := ws_in (List.mem_of_getElem? (i := 576) rfl) rfl
set_option maxRecDepth 100000 in
theorem w578 : (Jvm.Cond.instanceMethod ({ cls := "RestrictedFunds$Plan", name := "potsAfter", desc := "(I)I" } : Jvm.MethodName)) ∈ WS := ws_in (List.mem_of_getElem? (i := 578) rfl) rfl
set_option maxRecDepth 100000 in
theorem w579 : (Jvm.Cond.code ({ cls := "RestrictedFunds$Plan", name := "potsAfter", desc := "(I)I" } : Jvm.MethodName) prog_5_method_28_code (2 : Nat) (Option.some Jvm.ClassFile.FieldType.int)) ∈ WS := ws_in (List.mem_of_getElem? (i := 579) rfl) rfl
set_option maxRecDepth 100000 in
theorem w580 : (Jvm.Cond.methodLink "RestrictedFunds" (99 : Nat) ({ cls := "RestrictedFunds$Plan", name := "spreadCosts", desc := "()V" } : Jvm.MethodName)) ∈ WS := ws_in (List.mem_of_getElem? (i := 580) rfl) rfl
set_option maxRecDepth 100000 in
theorem w581 : (Jvm.Cond.instanceMethod ({ cls := "RestrictedFunds$Plan", name := "spreadCosts", desc := "()V" } : Jvm.MethodName)) ∈ WS := ws_in (List.mem_of_getElem? (i := 581) rfl) rfl
set_option maxRecDepth 100000 in
theorem w582 : (Jvm.Cond.selects "RestrictedFunds$Plan" ({ cls := "RestrictedFunds$Plan", name := "spreadCosts", desc := "()V" } : Jvm.MethodName) ({ cls := "RestrictedFunds$Plan", name := "spreadCosts", desc := "()V" } : Jvm.MethodName)) ∈ WS := ws_in (List.mem_of_getElem? (i := 582) rfl) rfl
set_option maxRecDepth 100000 in
theorem w583 : (Jvm.Cond.code ({ cls := "RestrictedFunds$Plan", name := "spreadCosts", desc := "()V" } : Jvm.MethodName) prog_5_method_11_code (5 : Nat) (Option.none : Option Jvm.ClassFile.FieldType)) ∈ WS := ws_in (List.mem_of_getElem? (i := 583) rfl) rfl
set_option maxRecDepth 100000 in
theorem w584 : (Jvm.Cond.methodLink "RestrictedFunds$Plan" (75 : Nat) ({ cls := "RestrictedFunds$Plan", name := "payMoreFrom", desc := "(II)Z" } : Jvm.MethodName)) ∈ WS := ws_in (List.mem_of_getElem? (i := 584) rfl) rfl
set_option maxRecDepth 100000 in
theorem w586 : (Jvm.Cond.instanceMethod ({ cls := "RestrictedFunds$Plan", name := "payMoreFrom", desc := "(II)Z" } : Jvm.MethodName)) ∈ WS := ws_in (List.mem_of_getElem? (i := 586) rfl) rfl
set_option maxRecDepth 100000 in
theorem w587 : (Jvm.Cond.code ({ cls := "RestrictedFunds$Plan", name := "payMoreFrom", desc := "(II)Z" } : Jvm.MethodName) prog_5_method_14_code (6 : Nat) (Option.some Jvm.ClassFile.FieldType.boolean)) ∈ WS := ws_in (List.mem_of_getElem? (i := 587) rfl) rfl
set_option maxRecDepth 100000 in
theorem w588 : (Jvm.Cond.methodLink "RestrictedFunds" (102 : Nat) ({ cls := "RestrictedFunds$Plan", name := "paidInAll", desc := "()I" } : Jvm.MethodName)) ∈ WS := ws_in (List.mem_of_getElem? (i := 588) rfl) rfl
set_option maxRecDepth 100000 in
theorem w589 : (Jvm.Cond.instanceMethod ({ cls := "RestrictedFunds$Plan", name := "paidInAll", desc := "()I" } : Jvm.MethodName)) ∈ WS := ws_in (List.mem_of_getElem? (i := 589) rfl) rfl
set_option maxRecDepth 100000 in
theorem w590 : (Jvm.Cond.selects "RestrictedFunds$Plan" ({ cls := "RestrictedFunds$Plan", name := "paidInAll", desc := "()I" } : Jvm.MethodName) ({ cls := "RestrictedFunds$Plan", name := "paidInAll", desc := "()I" } : Jvm.MethodName)) ∈ WS := ws_in (List.mem_of_getElem? (i := 590) rfl) rfl
set_option maxRecDepth 100000 in
theorem w591 : (Jvm.Cond.code ({ cls := "RestrictedFunds$Plan", name := "paidInAll", desc := "()I" } : Jvm.MethodName) prog_5_method_8_code (3 : Nat) (Option.some Jvm.ClassFile.FieldType.int)) ∈ WS := ws_in (List.mem_of_getElem? (i := 591) rfl) rfl
set_option maxRecDepth 100000 in
theorem w592 : (Jvm.Cond.methodLink "RestrictedFunds" (105 : Nat) ({ cls := "RestrictedFunds", name := "bookPlan", desc := "()V" } : Jvm.MethodName)) ∈ WS := ws_in (List.mem_of_getElem? (i := 592) rfl) rfl
set_option maxRecDepth 100000 in
theorem w594 : (Jvm.Cond.instanceMethod ({ cls := "RestrictedFunds", name := "bookPlan", desc := "()V" } : Jvm.MethodName)) ∈ WS := ws_in (List.mem_of_getElem? (i := 594) rfl) rfl
set_option maxRecDepth 100000 in
theorem w595 : (Jvm.Cond.code ({ cls := "RestrictedFunds", name := "bookPlan", desc := "()V" } : Jvm.MethodName) prog_1_method_40_code (3 : Nat) (Option.none : Option Jvm.ClassFile.FieldType)) ∈ WS := ws_in (List.mem_of_getElem? (i := 595) rfl) rfl
set_option maxRecDepth 100000 in
theorem w596 : (Jvm.Cond.methodLink "RestrictedFunds" (230 : Nat) ({ cls := "RestrictedFunds$Plan", name := "share", desc := "(II)I" } : Jvm.MethodName)) ∈ WS := ws_in (List.mem_of_getElem? (i := 596) rfl) rfl
set_option maxRecDepth 100000 in
theorem w597 : (Jvm.Cond.methodLink "RestrictedFunds" (234 : Nat) ({ cls := "RestrictedFunds", name := "book", desc := "(LRestrictedFunds$Pot;LRestrictedFunds$Cost;I)V" } : Jvm.MethodName)) ∈ WS := ws_in (List.mem_of_getElem? (i := 597) rfl) rfl
set_option maxRecDepth 100000 in
theorem w598 : (Jvm.Cond.static ({ cls := "RestrictedFunds", name := "book", desc := "(LRestrictedFunds$Pot;LRestrictedFunds$Cost;I)V" } : Jvm.MethodName)) ∈ WS := ws_in (List.mem_of_getElem? (i := 598) rfl) rfl
set_option maxRecDepth 100000 in
theorem w599 : (Jvm.Cond.code ({ cls := "RestrictedFunds", name := "book", desc := "(LRestrictedFunds$Pot;LRestrictedFunds$Cost;I)V" } : Jvm.MethodName) prog_1_method_41_code (3 : Nat) (Option.none : Option Jvm.ClassFile.FieldType)) ∈ WS := ws_in (List.mem_of_getElem? (i := 599) rfl) rfl
set_option maxRecDepth 100000 in
theorem w600 : (Jvm.Cond.methodLink "RestrictedFunds" (157 : Nat) ({ cls := "RestrictedFunds$Pot", name := "owner", desc := "()LRestrictedFunds$Fund;" } : Jvm.MethodName)) ∈ WS := ws_in (List.mem_of_getElem? (i := 600) rfl) rfl
set_option maxRecDepth 100000 in
theorem w602 : (Jvm.Cond.sameMethod "RestrictedFunds$Pot" "RestrictedFunds$Pot" "owner" "()LRestrictedFunds$Fund;") ∈ WS := ws_in (List.mem_of_getElem? (i := 602) rfl) rfl
set_option maxRecDepth 100000 in
theorem w603 : (Jvm.Cond.selects "RestrictedFunds$Commitment" ({ cls := "RestrictedFunds$Pot", name := "owner", desc := "()LRestrictedFunds$Fund;" } : Jvm.MethodName) ({ cls := "RestrictedFunds$Commitment", name := "owner", desc := "()LRestrictedFunds$Fund;" } : Jvm.MethodName)) ∈ WS := ws_in (List.mem_of_getElem? (i := 603) rfl) rfl
set_option maxRecDepth 100000 in
theorem w604 : (Jvm.Cond.selects "RestrictedFunds$Fund" ({ cls := "RestrictedFunds$Pot", name := "owner", desc := "()LRestrictedFunds$Fund;" } : Jvm.MethodName) ({ cls := "RestrictedFunds$Fund", name := "owner", desc := "()LRestrictedFunds$Fund;" } : Jvm.MethodName)) ∈ WS := ws_in (List.mem_of_getElem? (i := 604) rfl) rfl
set_option maxRecDepth 100000 in
theorem w605 : (Jvm.Cond.instanceMethod ({ cls := "RestrictedFunds$Fund", name := "owner", desc := "()LRestrictedFunds$Fund;" } : Jvm.MethodName)) ∈ WS := ws_in (List.mem_of_getElem? (i := 605) rfl) rfl
set_option maxRecDepth 100000 in
theorem w606 : (Jvm.Cond.code ({ cls := "RestrictedFunds$Fund", name := "owner", desc := "()LRestrictedFunds$Fund;" } : Jvm.MethodName) prog_4_method_2_code (1 : Nat) (Option.some (Jvm.ClassFile.FieldType.object "RestrictedFunds$Fund"))) ∈ WS := ws_in (List.mem_of_getElem? (i := 606) rfl) rfl
set_option maxRecDepth 100000 in
theorem w607 : (Jvm.Cond.methodLink "RestrictedFunds" (238 : Nat) ({ cls := "RestrictedFunds$Cost", name := "pay", desc := "(LRestrictedFunds$Fund;I)V" } : Jvm.MethodName)) ∈ WS := ws_in (List.mem_of_getElem? (i := 607) rfl) rfl
set_option maxRecDepth 100000 in
theorem w608 : (Jvm.Cond.instanceMethod ({ cls := "RestrictedFunds$Cost", name := "pay", desc := "(LRestrictedFunds$Fund;I)V" } : Jvm.MethodName)) ∈ WS := ws_in (List.mem_of_getElem? (i := 608) rfl) rfl
set_option maxRecDepth 100000 in
theorem w609 : (Jvm.Cond.selects "RestrictedFunds$Cost" ({ cls := "RestrictedFunds$Cost", name := "pay", desc := "(LRestrictedFunds$Fund;I)V" } : Jvm.MethodName) ({ cls := "RestrictedFunds$Cost", name := "pay", desc := "(LRestrictedFunds$Fund;I)V" } : Jvm.MethodName)) ∈ WS := ws_in (List.mem_of_getElem? (i := 609) rfl) rfl
set_option maxRecDepth 100000 in
theorem w610 : (Jvm.Cond.code ({ cls := "RestrictedFunds$Cost", name := "pay", desc := "(LRestrictedFunds$Fund;I)V" } : Jvm.MethodName) prog_3_method_3_code (4 : Nat) (Option.none : Option Jvm.ClassFile.FieldType)) ∈ WS := ws_in (List.mem_of_getElem? (i := 610) rfl) rfl
set_option maxRecDepth 100000 in
theorem w611 : (Jvm.Cond.methodLink "RestrictedFunds" (108 : Nat) ({ cls := "RestrictedFunds", name := "endEmptyCommitments", desc := "()V" } : Jvm.MethodName)) ∈ WS := ws_in (List.mem_of_getElem? (i := 611) rfl) rfl
set_option maxRecDepth 100000 in
theorem w613 : (Jvm.Cond.instanceMethod ({ cls := "RestrictedFunds", name := "endEmptyCommitments", desc := "()V" } : Jvm.MethodName)) ∈ WS := ws_in (List.mem_of_getElem? (i := 613) rfl) rfl
set_option maxRecDepth 100000 in
theorem w614 : (Jvm.Cond.code ({ cls := "RestrictedFunds", name := "endEmptyCommitments", desc := "()V" } : Jvm.MethodName) prog_1_method_35_code (2 : Nat) (Option.none : Option Jvm.ClassFile.FieldType)) ∈ WS := ws_in (List.mem_of_getElem? (i := 614) rfl) rfl
set_option maxRecDepth 100000 in
theorem w615 : (Jvm.Cond.methodLink "RestrictedFundsLaw" (84 : Nat) ({ cls := "RestrictedFunds", name := "chargeOverhead", desc := "(I)I" } : Jvm.MethodName)) ∈ WS := ws_in (List.mem_of_getElem? (i := 615) rfl) rfl
set_option maxRecDepth 100000 in
theorem w616 : (Jvm.Cond.instanceMethod ({ cls := "RestrictedFunds", name := "chargeOverhead", desc := "(I)I" } : Jvm.MethodName)) ∈ WS := ws_in (List.mem_of_getElem? (i := 616) rfl) rfl
set_option maxRecDepth 100000 in
theorem w617 : (Jvm.Cond.selects "RestrictedFunds" ({ cls := "RestrictedFunds", name := "chargeOverhead", desc := "(I)I" } : Jvm.MethodName) ({ cls := "RestrictedFunds", name := "chargeOverhead", desc := "(I)I" } : Jvm.MethodName)) ∈ WS := ws_in (List.mem_of_getElem? (i := 617) rfl) rfl
set_option maxRecDepth 100000 in
theorem w618 : (Jvm.Cond.code ({ cls := "RestrictedFunds", name := "chargeOverhead", desc := "(I)I" } : Jvm.MethodName) prog_1_method_9_code (6 : Nat) (Option.some Jvm.ClassFile.FieldType.int)) ∈ WS := ws_in (List.mem_of_getElem? (i := 618) rfl) rfl
set_option maxRecDepth 100000 in
theorem w619 : (Jvm.Cond.methodLink "RestrictedFunds" (111 : Nat) ({ cls := "RestrictedFunds", name := "shareByDirectCosts", desc := "(I)I" } : Jvm.MethodName)) ∈ WS := ws_in (List.mem_of_getElem? (i := 619) rfl) rfl
set_option maxRecDepth 100000 in
theorem w621 : (Jvm.Cond.instanceMethod ({ cls := "RestrictedFunds", name := "shareByDirectCosts", desc := "(I)I" } : Jvm.MethodName)) ∈ WS := ws_in (List.mem_of_getElem? (i := 621) rfl) rfl
set_option maxRecDepth 100000 in
theorem w622 : (Jvm.Cond.code ({ cls := "RestrictedFunds", name := "shareByDirectCosts", desc := "(I)I" } : Jvm.MethodName) prog_1_method_42_code (11 : Nat) (Option.some Jvm.ClassFile.FieldType.int)) ∈ WS := ws_in (List.mem_of_getElem? (i := 622) rfl) rfl
set_option maxRecDepth 100000 in
theorem w623 : (Jvm.Cond.methodLink "RestrictedFunds" (242 : Nat) ({ cls := "RestrictedFunds", name := "directCostsWithRoom", desc := "()J" } : Jvm.MethodName)) ∈ WS := ws_in (List.mem_of_getElem? (i := 623) rfl) rfl
set_option maxRecDepth 100000 in
theorem w625 : (Jvm.Cond.instanceMethod ({ cls := "RestrictedFunds", name := "directCostsWithRoom", desc := "()J" } : Jvm.MethodName)) ∈ WS := ws_in (List.mem_of_getElem? (i := 625) rfl) rfl
set_option maxRecDepth 100000 in
theorem w626 : (Jvm.Cond.code ({ cls := "RestrictedFunds", name := "directCostsWithRoom", desc := "()J" } : Jvm.MethodName) prog_1_method_43_code (5 : Nat) (Option.some Jvm.ClassFile.FieldType.long)) ∈ WS := ws_in (List.mem_of_getElem? (i := 626) rfl) rfl
set_option maxRecDepth 100000 in
theorem w627 : (Jvm.Cond.methodLink "RestrictedFunds" (132 : Nat) ({ cls := "RestrictedFunds$Fund", name := "room", desc := "()I" } : Jvm.MethodName)) ∈ WS := ws_in (List.mem_of_getElem? (i := 627) rfl) rfl
set_option maxRecDepth 100000 in
theorem w628 : (Jvm.Cond.instanceMethod ({ cls := "RestrictedFunds$Fund", name := "room", desc := "()I" } : Jvm.MethodName)) ∈ WS := ws_in (List.mem_of_getElem? (i := 628) rfl) rfl
set_option maxRecDepth 100000 in
theorem w629 : (Jvm.Cond.selects "RestrictedFunds$Fund" ({ cls := "RestrictedFunds$Fund", name := "room", desc := "()I" } : Jvm.MethodName) ({ cls := "RestrictedFunds$Fund", name := "room", desc := "()I" } : Jvm.MethodName)) ∈ WS := ws_in (List.mem_of_getElem? (i := 629) rfl) rfl
set_option maxRecDepth 100000 in
theorem w630 : (Jvm.Cond.code ({ cls := "RestrictedFunds$Fund", name := "room", desc := "()I" } : Jvm.MethodName) prog_4_method_7_code (2 : Nat) (Option.some Jvm.ClassFile.FieldType.int)) ∈ WS := ws_in (List.mem_of_getElem? (i := 630) rfl) rfl
set_option maxRecDepth 100000 in
theorem w631 : (Jvm.Cond.methodLink "RestrictedFunds$Fund" (53 : Nat) ({ cls := "java/lang/Math", name := "min", desc := "(II)I" } : Jvm.MethodName)) ∈ WS := ws_in (List.mem_of_getElem? (i := 631) rfl) rfl
set_option maxRecDepth 100000 in
theorem w632 : (Jvm.Cond.methodLink "RestrictedFunds$Fund" (59 : Nat) ({ cls := "java/lang/Math", name := "max", desc := "(II)I" } : Jvm.MethodName)) ∈ WS := ws_in (List.mem_of_getElem? (i := 632) rfl) rfl
set_option maxRecDepth 100000 in
theorem w633 : (Jvm.Cond.methodLink "RestrictedFunds" (246 : Nat) ({ cls := "java/lang/Math", name := "min", desc := "(JJ)J" } : Jvm.MethodName)) ∈ WS := ws_in (List.mem_of_getElem? (i := 633) rfl) rfl
set_option maxRecDepth 100000 in
theorem w634 : (Jvm.Cond.static ({ cls := "java/lang/Math", name := "min", desc := "(JJ)J" } : Jvm.MethodName)) ∈ WS := ws_in (List.mem_of_getElem? (i := 634) rfl) rfl
set_option maxRecDepth 100000 in
theorem w635 : (Jvm.Cond.code ({ cls := "java/lang/Math", name := "min", desc := "(JJ)J" } : Jvm.MethodName) prog_16_method_70_code (4 : Nat) (Option.some Jvm.ClassFile.FieldType.long)) ∈ WS := ws_in (List.mem_of_getElem? (i := 635) rfl) rfl
set_option maxRecDepth 100000 in
theorem w636 : (Jvm.Cond.methodLink "RestrictedFunds" (252 : Nat) ({ cls := "RestrictedFunds$Fund", name := "takeOverhead", desc := "(I)V" } : Jvm.MethodName)) ∈ WS := ws_in (List.mem_of_getElem? (i := 636) rfl) rfl
set_option maxRecDepth 100000 in
theorem w637 : (Jvm.Cond.instanceMethod ({ cls := "RestrictedFunds$Fund", name := "takeOverhead", desc := "(I)V" } : Jvm.MethodName)) ∈ WS := ws_in (List.mem_of_getElem? (i := 637) rfl) rfl
set_option maxRecDepth 100000 in
theorem w638 : (Jvm.Cond.selects "RestrictedFunds$Fund" ({ cls := "RestrictedFunds$Fund", name := "takeOverhead", desc := "(I)V" } : Jvm.MethodName) ({ cls := "RestrictedFunds$Fund", name := "takeOverhead", desc := "(I)V" } : Jvm.MethodName)) ∈ WS := ws_in (List.mem_of_getElem? (i := 638) rfl) rfl
set_option maxRecDepth 100000 in
theorem w639 : (Jvm.Cond.code ({ cls := "RestrictedFunds$Fund", name := "takeOverhead", desc := "(I)V" } : Jvm.MethodName) prog_4_method_8_code (2 : Nat) (Option.none : Option Jvm.ClassFile.FieldType)) ∈ WS := ws_in (List.mem_of_getElem? (i := 639) rfl) rfl
set_option maxRecDepth 100000 in
theorem w640 : (Jvm.Cond.methodLink "RestrictedFunds" (115 : Nat) ({ cls := "RestrictedFunds", name := "shareOnes", desc := "(I)I" } : Jvm.MethodName)) ∈ WS := ws_in (List.mem_of_getElem? (i := 640) rfl) rfl
set_option maxRecDepth 100000 in
theorem w642 : (Jvm.Cond.instanceMethod ({ cls := "RestrictedFunds", name := "shareOnes", desc := "(I)I" } : Jvm.MethodName)) ∈ WS := ws_in (List.mem_of_getElem? (i := 642) rfl) rfl
set_option maxRecDepth 100000 in
theorem w643 : (Jvm.Cond.code ({ cls := "RestrictedFunds", name := "shareOnes", desc := "(I)I" } : Jvm.MethodName) prog_1_method_44_code (5 : Nat) (Option.some Jvm.ClassFile.FieldType.int)) ∈ WS := ws_in (List.mem_of_getElem? (i := 643) rfl) rfl
set_option maxRecDepth 100000 in
theorem w644 : (Jvm.Cond.methodLink "RestrictedFundsLaw" (46 : Nat) ({ cls := "RestrictedFunds", name := "today", desc := "()I" } : Jvm.MethodName)) ∈ WS := ws_in (List.mem_of_getElem? (i := 644) rfl) rfl
set_option maxRecDepth 100000 in
theorem w645 : (Jvm.Cond.instanceMethod ({ cls := "RestrictedFunds", name := "today", desc := "()I" } : Jvm.MethodName)) ∈ WS := ws_in (List.mem_of_getElem? (i := 645) rfl) rfl
set_option maxRecDepth 100000 in
theorem w646 : (Jvm.Cond.selects "RestrictedFunds" ({ cls := "RestrictedFunds", name := "today", desc := "()I" } : Jvm.MethodName) ({ cls := "RestrictedFunds", name := "today", desc := "()I" } : Jvm.MethodName)) ∈ WS := ws_in (List.mem_of_getElem? (i := 646) rfl) rfl
set_option maxRecDepth 100000 in
theorem w647 : (Jvm.Cond.code ({ cls := "RestrictedFunds", name := "today", desc := "()I" } : Jvm.MethodName) prog_1_method_10_code (1 : Nat) (Option.some Jvm.ClassFile.FieldType.int)) ∈ WS := ws_in (List.mem_of_getElem? (i := 647) rfl) rfl
set_option maxRecDepth 100000 in
theorem w648 : (Jvm.Cond.methodLink "RestrictedFundsLaw" (21 : Nat) ({ cls := "RestrictedFunds", name := "funds", desc := "()I" } : Jvm.MethodName)) ∈ WS := ws_in (List.mem_of_getElem? (i := 648) rfl) rfl
set_option maxRecDepth 100000 in
theorem w649 : (Jvm.Cond.instanceMethod ({ cls := "RestrictedFunds", name := "funds", desc := "()I" } : Jvm.MethodName)) ∈ WS := ws_in (List.mem_of_getElem? (i := 649) rfl) rfl
set_option maxRecDepth 100000 in
theorem w650 : (Jvm.Cond.selects "RestrictedFunds" ({ cls := "RestrictedFunds", name := "funds", desc := "()I" } : Jvm.MethodName) ({ cls := "RestrictedFunds", name := "funds", desc := "()I" } : Jvm.MethodName)) ∈ WS := ws_in (List.mem_of_getElem? (i := 650) rfl) rfl
set_option maxRecDepth 100000 in
theorem w651 : (Jvm.Cond.code ({ cls := "RestrictedFunds", name := "funds", desc := "()I" } : Jvm.MethodName) prog_1_method_11_code (1 : Nat) (Option.some Jvm.ClassFile.FieldType.int)) ∈ WS := ws_in (List.mem_of_getElem? (i := 651) rfl) rfl
set_option maxRecDepth 100000 in
theorem w652 : (Jvm.Cond.methodLink "RestrictedFundsLaw" (28 : Nat) ({ cls := "RestrictedFunds", name := "freeOf", desc := "(I)I" } : Jvm.MethodName)) ∈ WS := ws_in (List.mem_of_getElem? (i := 652) rfl) rfl
set_option maxRecDepth 100000 in
theorem w653 : (Jvm.Cond.instanceMethod ({ cls := "RestrictedFunds", name := "freeOf", desc := "(I)I" } : Jvm.MethodName)) ∈ WS := ws_in (List.mem_of_getElem? (i := 653) rfl) rfl
set_option maxRecDepth 100000 in
theorem w654 : (Jvm.Cond.selects "RestrictedFunds" ({ cls := "RestrictedFunds", name := "freeOf", desc := "(I)I" } : Jvm.MethodName) ({ cls := "RestrictedFunds", name := "freeOf", desc := "(I)I" } : Jvm.MethodName)) ∈ WS := ws_in (List.mem_of_getElem? (i := 654) rfl) rfl
set_option maxRecDepth 100000 in
theorem w655 : (Jvm.Cond.code ({ cls := "RestrictedFunds", name := "freeOf", desc := "(I)I" } : Jvm.MethodName) prog_1_method_12_code (2 : Nat) (Option.some Jvm.ClassFile.FieldType.int)) ∈ WS := ws_in (List.mem_of_getElem? (i := 655) rfl) rfl
set_option maxRecDepth 100000 in
theorem w656 : (Jvm.Cond.methodLink "RestrictedFundsLaw" (17 : Nat) ({ cls := "RestrictedFunds", name := "commitments", desc := "()I" } : Jvm.MethodName)) ∈ WS := ws_in (List.mem_of_getElem? (i := 656) rfl) rfl
set_option maxRecDepth 100000 in
theorem w657 : (Jvm.Cond.instanceMethod ({ cls := "RestrictedFunds", name := "commitments", desc := "()I" } : Jvm.MethodName)) ∈ WS := ws_in (List.mem_of_getElem? (i := 657) rfl) rfl
set_option maxRecDepth 100000 in
theorem w658 : (Jvm.Cond.selects "RestrictedFunds" ({ cls := "RestrictedFunds", name := "commitments", desc := "()I" } : Jvm.MethodName) ({ cls := "RestrictedFunds", name := "commitments", desc := "()I" } : Jvm.MethodName)) ∈ WS := ws_in (List.mem_of_getElem? (i := 658) rfl) rfl
set_option maxRecDepth 100000 in
theorem w659 : (Jvm.Cond.code ({ cls := "RestrictedFunds", name := "commitments", desc := "()I" } : Jvm.MethodName) prog_1_method_17_code (1 : Nat) (Option.some Jvm.ClassFile.FieldType.int)) ∈ WS := ws_in (List.mem_of_getElem? (i := 659) rfl) rfl
set_option maxRecDepth 100000 in
theorem w660 : (Jvm.Cond.methodLink "RestrictedFundsLaw" (49 : Nat) ({ cls := "RestrictedFunds", name := "fundOf", desc := "(I)I" } : Jvm.MethodName)) ∈ WS := ws_in (List.mem_of_getElem? (i := 660) rfl) rfl
set_option maxRecDepth 100000 in
theorem w661 : (Jvm.Cond.instanceMethod ({ cls := "RestrictedFunds", name := "fundOf", desc := "(I)I" } : Jvm.MethodName)) ∈ WS := ws_in (List.mem_of_getElem? (i := 661) rfl) rfl
set_option maxRecDepth 100000 in
theorem w662 : (Jvm.Cond.selects "RestrictedFunds" ({ cls := "RestrictedFunds", name := "fundOf", desc := "(I)I" } : Jvm.MethodName) ({ cls := "RestrictedFunds", name := "fundOf", desc := "(I)I" } : Jvm.MethodName)) ∈ WS := ws_in (List.mem_of_getElem? (i := 662) rfl) rfl
set_option maxRecDepth 100000 in
theorem w663 : (Jvm.Cond.code ({ cls := "RestrictedFunds", name := "fundOf", desc := "(I)I" } : Jvm.MethodName) prog_1_method_18_code (2 : Nat) (Option.some Jvm.ClassFile.FieldType.int)) ∈ WS := ws_in (List.mem_of_getElem? (i := 663) rfl) rfl
set_option maxRecDepth 100000 in
theorem w664 : (Jvm.Cond.methodLink "RestrictedFundsLaw" (40 : Nat) ({ cls := "RestrictedFunds", name := "leftOf", desc := "(I)I" } : Jvm.MethodName)) ∈ WS := ws_in (List.mem_of_getElem? (i := 664) rfl) rfl
set_option maxRecDepth 100000 in
theorem w665 : (Jvm.Cond.instanceMethod ({ cls := "RestrictedFunds", name := "leftOf", desc := "(I)I" } : Jvm.MethodName)) ∈ WS := ws_in (List.mem_of_getElem? (i := 665) rfl) rfl
set_option maxRecDepth 100000 in
theorem w666 : (Jvm.Cond.selects "RestrictedFunds" ({ cls := "RestrictedFunds", name := "leftOf", desc := "(I)I" } : Jvm.MethodName) ({ cls := "RestrictedFunds", name := "leftOf", desc := "(I)I" } : Jvm.MethodName)) ∈ WS := ws_in (List.mem_of_getElem? (i := 666) rfl) rfl
set_option maxRecDepth 100000 in
theorem w667 : (Jvm.Cond.code ({ cls := "RestrictedFunds", name := "leftOf", desc := "(I)I" } : Jvm.MethodName) prog_1_method_19_code (2 : Nat) (Option.some Jvm.ClassFile.FieldType.int)) ∈ WS := ws_in (List.mem_of_getElem? (i := 667) rfl) rfl
set_option maxRecDepth 100000 in
theorem w668 : (Jvm.Cond.methodLink "RestrictedFundsLaw" (43 : Nat) ({ cls := "RestrictedFunds", name := "untilOf", desc := "(I)I" } : Jvm.MethodName)) ∈ WS := ws_in (List.mem_of_getElem? (i := 668) rfl) rfl
set_option maxRecDepth 100000 in
theorem w669 : (Jvm.Cond.instanceMethod ({ cls := "RestrictedFunds", name := "untilOf", desc := "(I)I" } : Jvm.MethodName)) ∈ WS := ws_in (List.mem_of_getElem? (i := 669) rfl) rfl
set_option maxRecDepth 100000 in
theorem w670 : (Jvm.Cond.selects "RestrictedFunds" ({ cls := "RestrictedFunds", name := "untilOf", desc := "(I)I" } : Jvm.MethodName) ({ cls := "RestrictedFunds", name := "untilOf", desc := "(I)I" } : Jvm.MethodName)) ∈ WS := ws_in (List.mem_of_getElem? (i := 670) rfl) rfl
set_option maxRecDepth 100000 in
theorem w671 : (Jvm.Cond.code ({ cls := "RestrictedFunds", name := "untilOf", desc := "(I)I" } : Jvm.MethodName) prog_1_method_20_code (2 : Nat) (Option.some Jvm.ClassFile.FieldType.int)) ∈ WS := ws_in (List.mem_of_getElem? (i := 671) rfl) rfl
set_option maxRecDepth 100000 in
theorem w672 : (Jvm.Cond.methodLink "RestrictedFundsLaw" (52 : Nat) ({ cls := "RestrictedFunds", name := "costs", desc := "()I" } : Jvm.MethodName)) ∈ WS := ws_in (List.mem_of_getElem? (i := 672) rfl) rfl
set_option maxRecDepth 100000 in
theorem w673 : (Jvm.Cond.instanceMethod ({ cls := "RestrictedFunds", name := "costs", desc := "()I" } : Jvm.MethodName)) ∈ WS := ws_in (List.mem_of_getElem? (i := 673) rfl) rfl
set_option maxRecDepth 100000 in
theorem w674 : (Jvm.Cond.selects "RestrictedFunds" ({ cls := "RestrictedFunds", name := "costs", desc := "()I" } : Jvm.MethodName) ({ cls := "RestrictedFunds", name := "costs", desc := "()I" } : Jvm.MethodName)) ∈ WS := ws_in (List.mem_of_getElem? (i := 674) rfl) rfl
set_option maxRecDepth 100000 in
theorem w675 : (Jvm.Cond.code ({ cls := "RestrictedFunds", name := "costs", desc := "()I" } : Jvm.MethodName) prog_1_method_21_code (1 : Nat) (Option.some Jvm.ClassFile.FieldType.int)) ∈ WS := ws_in (List.mem_of_getElem? (i := 675) rfl) rfl
set_option maxRecDepth 100000 in
theorem w676 : (Jvm.Cond.methodLink "RestrictedFundsLaw" (91 : Nat) ({ cls := "RestrictedFundsLaw", name := "low", desc := "(II)I" } : Jvm.MethodName)) ∈ WS := ws_in (List.mem_of_getElem? (i := 676) rfl) rfl
set_option maxRecDepth 100000 in
theorem w677 : (Jvm.Cond.static ({ cls := "RestrictedFundsLaw", name := "low", desc := "(II)I" } : Jvm.MethodName)) ∈ WS := ws_in (List.mem_of_getElem? (i := 677) rfl) rfl
set_option maxRecDepth 100000 in
theorem w678 : (Jvm.Cond.code ({ cls := "RestrictedFundsLaw", name := "low", desc := "(II)I" } : Jvm.MethodName) method_2_code (2 : Nat) (Option.some Jvm.ClassFile.FieldType.int)) ∈ WS := ws_in (List.mem_of_getElem? (i := 678) rfl) rfl
set_option maxRecDepth 100000 in
theorem w679 : (Jvm.Cond.constant "RestrictedFundsLaw" (7 : Nat) (2147483647 : Int32)) ∈ WS := ws_in (List.mem_of_getElem? (i := 679) rfl) rfl
set_option maxRecDepth 100000 in
theorem w680 : (Jvm.Cond.methodLink "RestrictedFundsLaw" (87 : Nat) ({ cls := "RestrictedFundsLaw", name := "cell", desc := "([II)I" } : Jvm.MethodName)) ∈ WS := ws_in (List.mem_of_getElem? (i := 680) rfl) rfl
set_option maxRecDepth 100000 in
theorem w681 : (Jvm.Cond.static ({ cls := "RestrictedFundsLaw", name := "cell", desc := "([II)I" } : Jvm.MethodName)) ∈ WS := ws_in (List.mem_of_getElem? (i := 681) rfl) rfl
set_option maxRecDepth 100000 in
theorem w682 : (Jvm.Cond.code ({ cls := "RestrictedFundsLaw", name := "cell", desc := "([II)I" } : Jvm.MethodName) method_3_code (2 : Nat) (Option.some Jvm.ClassFile.FieldType.int)) ∈ WS := ws_in (List.mem_of_getElem? (i := 682) rfl) rfl
set_option maxRecDepth 100000 in
theorem w683 : (Jvm.Cond.constant "RestrictedFundsLaw" (8 : Nat) (40503 : Int32)) ∈ WS := ws_in (List.mem_of_getElem? (i := 683) rfl) rfl
set_option maxRecDepth 100000 in
theorem w684 : (Jvm.Cond.methodLink "RestrictedFundsLaw" (101 : Nat) ({ cls := "RestrictedFundsLaw", name := "commit", desc := "(LRestrictedFunds;IIII)I" } : Jvm.MethodName)) ∈ WS := ws_in (List.mem_of_getElem? (i := 684) rfl) rfl
set_option maxRecDepth 100000 in
theorem w685 : (Jvm.Cond.static ({ cls := "RestrictedFundsLaw", name := "commit", desc := "(LRestrictedFunds;IIII)I" } : Jvm.MethodName)) ∈ WS := ws_in (List.mem_of_getElem? (i := 685) rfl) rfl
set_option maxRecDepth 100000 in
theorem w687 : (Jvm.Cond.classLink "RestrictedFundsLaw" (15 : Nat) "java/lang/IllegalStateException") ∈ WS := ws_in (List.mem_of_getElem? (i := 687) rfl) rfl
set_option maxRecDepth 100000 in
theorem w688 : (Jvm.Cond.methodLink "RestrictedFundsLaw" (9 : Nat) ({ cls := "RestrictedFunds", name := "commit", desc := "(IIII)I" } : Jvm.MethodName)) ∈ WS := ws_in (List.mem_of_getElem? (i := 688) rfl) rfl
set_option maxRecDepth 100000 in
theorem w689 : (Jvm.Cond.instanceMethod ({ cls := "RestrictedFunds", name := "commit", desc := "(IIII)I" } : Jvm.MethodName)) ∈ WS := ws_in (List.mem_of_getElem? (i := 689) rfl) rfl
set_option maxRecDepth 100000 in
theorem w690 : (Jvm.Cond.selects "RestrictedFunds" ({ cls := "RestrictedFunds", name := "commit", desc := "(IIII)I" } : Jvm.MethodName) ({ cls := "RestrictedFunds", name := "commit", desc := "(IIII)I" } : Jvm.MethodName)) ∈ WS := ws_in (List.mem_of_getElem? (i := 690) rfl) rfl
set_option maxRecDepth 100000 in
theorem w691 : (Jvm.Cond.code ({ cls := "RestrictedFunds", name := "commit", desc := "(IIII)I" } : Jvm.MethodName) prog_1_method_4_code (6 : Nat) (Option.some Jvm.ClassFile.FieldType.int)) ∈ WS := ws_in (List.mem_of_getElem? (i := 691) rfl) rfl
set_option maxRecDepth 100000 in
theorem w692 : (Jvm.Cond.methodLink "RestrictedFunds" (65 : Nat) ({ cls := "RestrictedFunds$Fund", name := "allows", desc := "(I)Z" } : Jvm.MethodName)) ∈ WS := ws_in (List.mem_of_getElem? (i := 692) rfl) rfl
set_option maxRecDepth 100000 in
theorem w693 : (Jvm.Cond.instantiable "RestrictedFunds$Commitment" (4 : Nat)) ∈ WS := ws_in (List.mem_of_getElem? (i := 693) rfl) rfl
set_option maxRecDepth 100000 in
theorem w694 : (Jvm.Cond.methodLink "RestrictedFunds" (71 : Nat) ({ cls := "RestrictedFunds$Commitment", name := "<init>", desc := "(LRestrictedFunds$Fund;III)V" } : Jvm.MethodName)) ∈ WS := ws_in (List.mem_of_getElem? (i := 694) rfl) rfl
set_option maxRecDepth 100000 in
theorem w695 : (Jvm.Cond.instanceMethod ({ cls := "RestrictedFunds$Commitment", name := "<init>", desc := "(LRestrictedFunds$Fund;III)V" } : Jvm.MethodName)) ∈ WS := ws_in (List.mem_of_getElem? (i := 695) rfl) rfl
set_option maxRecDepth 100000 in
theorem w696 : (Jvm.Cond.code ({ cls := "RestrictedFunds$Commitment", name := "<init>", desc := "(LRestrictedFunds$Fund;III)V" } : Jvm.MethodName) prog_2_method_1_code (5 : Nat) (Option.none : Option Jvm.ClassFile.FieldType)) ∈ WS := ws_in (List.mem_of_getElem? (i := 696) rfl) rfl
set_option maxRecDepth 100000 in
theorem w697 : (Jvm.Cond.methodLink "RestrictedFunds$Commitment" (1 : Nat) ({ cls := "RestrictedFunds$Pot", name := "<init>", desc := "(I)V" } : Jvm.MethodName)) ∈ WS := ws_in (List.mem_of_getElem? (i := 697) rfl) rfl
set_option maxRecDepth 100000 in
theorem w698 : (Jvm.Cond.fieldLink "RestrictedFunds$Commitment" (7 : Nat) "RestrictedFunds$Commitment" "fund" "LRestrictedFunds$Fund;") ∈ WS := ws_in (List.mem_of_getElem? (i := 698) rfl) rfl
set_option maxRecDepth 100000 in
theorem w699 : (Jvm.Cond.fieldLink "RestrictedFunds$Commitment" (13 : Nat) "RestrictedFunds$Commitment" "category" "I") ∈ WS := ws_in (List.mem_of_getElem? (i := 699) rfl) rfl
set_option maxRecDepth 100000 in
theorem w700 : (Jvm.Cond.fieldLink "RestrictedFunds$Commitment" (17 : Nat) "RestrictedFunds$Commitment" "until" "I") ∈ WS := ws_in (List.mem_of_getElem? (i := 700) rfl) rfl
set_option maxRecDepth 100000 in
theorem w701 : (Jvm.Cond.laysFinal "RestrictedFunds$Commitment" "RestrictedFunds$Commitment" "fund" "LRestrictedFunds$Fund;") ∈ WS := ws_in (List.mem_of_getElem? (i := 701) rfl) rfl
set_option maxRecDepth 100000 in
theorem w703 : (Jvm.Cond.laysFinal "RestrictedFunds$Commitment" "RestrictedFunds$Commitment" "category" "I") ∈ WS := ws_in (List.mem_of_getElem? (i := 703) rfl) rfl
set_option maxRecDepth 100000 in
theorem w705 : (Jvm.Cond.laysFinal "RestrictedFunds$Commitment" "RestrictedFunds$Commitment" "until" "I") ∈ WS := ws_in (List.mem_of_getElem? (i := 705) rfl) rfl
set_option maxRecDepth 100000 in
theorem w707 : (Jvm.Cond.lays "RestrictedFunds$Commitment" "RestrictedFunds$Pot" "money" "I") ∈ WS := ws_in (List.mem_of_getElem? (i := 707) rfl) rfl
set_option maxRecDepth 100000 in
theorem w709 : (Jvm.Cond.methodLink "RestrictedFundsLaw" (78 : Nat) ({ cls := "RestrictedFundsLaw", name := "accounts", desc := "(LRestrictedFunds;[I)Z" } : Jvm.MethodName)) ∈ WS := ws_in (List.mem_of_getElem? (i := 709) rfl) rfl
set_option maxRecDepth 100000 in
theorem w710 : (Jvm.Cond.static ({ cls := "RestrictedFundsLaw", name := "accounts", desc := "(LRestrictedFunds;[I)Z" } : Jvm.MethodName)) ∈ WS := ws_in (List.mem_of_getElem? (i := 710) rfl) rfl
set_option maxRecDepth 100000 in
theorem w711 : (Jvm.Cond.code ({ cls := "RestrictedFundsLaw", name := "accounts", desc := "(LRestrictedFunds;[I)Z" } : Jvm.MethodName) method_5_code (9 : Nat) (Option.some Jvm.ClassFile.FieldType.boolean)) ∈ WS := ws_in (List.mem_of_getElem? (i := 711) rfl) rfl
set_option maxRecDepth 100000 in
theorem w712 : (Jvm.Cond.methodLink "RestrictedFundsLaw" (24 : Nat) ({ cls := "RestrictedFunds", name := "directOf", desc := "(I)I" } : Jvm.MethodName)) ∈ WS := ws_in (List.mem_of_getElem? (i := 712) rfl) rfl
set_option maxRecDepth 100000 in
theorem w713 : (Jvm.Cond.instanceMethod ({ cls := "RestrictedFunds", name := "directOf", desc := "(I)I" } : Jvm.MethodName)) ∈ WS := ws_in (List.mem_of_getElem? (i := 713) rfl) rfl
set_option maxRecDepth 100000 in
theorem w714 : (Jvm.Cond.selects "RestrictedFunds" ({ cls := "RestrictedFunds", name := "directOf", desc := "(I)I" } : Jvm.MethodName) ({ cls := "RestrictedFunds", name := "directOf", desc := "(I)I" } : Jvm.MethodName)) ∈ WS := ws_in (List.mem_of_getElem? (i := 714) rfl) rfl
set_option maxRecDepth 100000 in
theorem w715 : (Jvm.Cond.code ({ cls := "RestrictedFunds", name := "directOf", desc := "(I)I" } : Jvm.MethodName) prog_1_method_14_code (2 : Nat) (Option.some Jvm.ClassFile.FieldType.int)) ∈ WS := ws_in (List.mem_of_getElem? (i := 715) rfl) rfl
set_option maxRecDepth 100000 in
theorem w716 : (Jvm.Cond.methodLink "RestrictedFundsLaw" (31 : Nat) ({ cls := "RestrictedFunds", name := "committedOf", desc := "(I)I" } : Jvm.MethodName)) ∈ WS := ws_in (List.mem_of_getElem? (i := 716) rfl) rfl
set_option maxRecDepth 100000 in
theorem w717 : (Jvm.Cond.instanceMethod ({ cls := "RestrictedFunds", name := "committedOf", desc := "(I)I" } : Jvm.MethodName)) ∈ WS := ws_in (List.mem_of_getElem? (i := 717) rfl) rfl
set_option maxRecDepth 100000 in
theorem w718 : (Jvm.Cond.selects "RestrictedFunds" ({ cls := "RestrictedFunds", name := "committedOf", desc := "(I)I" } : Jvm.MethodName) ({ cls := "RestrictedFunds", name := "committedOf", desc := "(I)I" } : Jvm.MethodName)) ∈ WS := ws_in (List.mem_of_getElem? (i := 718) rfl) rfl
set_option maxRecDepth 100000 in
theorem w719 : (Jvm.Cond.code ({ cls := "RestrictedFunds", name := "committedOf", desc := "(I)I" } : Jvm.MethodName) prog_1_method_13_code (6 : Nat) (Option.some Jvm.ClassFile.FieldType.int)) ∈ WS := ws_in (List.mem_of_getElem? (i := 719) rfl) rfl
set_option maxRecDepth 100000 in
theorem w720 : (Jvm.Cond.methodLink "RestrictedFundsLaw" (34 : Nat) ({ cls := "RestrictedFunds", name := "overheadOf", desc := "(I)I" } : Jvm.MethodName)) ∈ WS := ws_in (List.mem_of_getElem? (i := 720) rfl) rfl
set_option maxRecDepth 100000 in
theorem w721 : (Jvm.Cond.instanceMethod ({ cls := "RestrictedFunds", name := "overheadOf", desc := "(I)I" } : Jvm.MethodName)) ∈ WS := ws_in (List.mem_of_getElem? (i := 721) rfl) rfl
set_option maxRecDepth 100000 in
theorem w722 : (Jvm.Cond.selects "RestrictedFunds" ({ cls := "RestrictedFunds", name := "overheadOf", desc := "(I)I" } : Jvm.MethodName) ({ cls := "RestrictedFunds", name := "overheadOf", desc := "(I)I" } : Jvm.MethodName)) ∈ WS := ws_in (List.mem_of_getElem? (i := 722) rfl) rfl
set_option maxRecDepth 100000 in
theorem w723 : (Jvm.Cond.code ({ cls := "RestrictedFunds", name := "overheadOf", desc := "(I)I" } : Jvm.MethodName) prog_1_method_15_code (2 : Nat) (Option.some Jvm.ClassFile.FieldType.int)) ∈ WS := ws_in (List.mem_of_getElem? (i := 723) rfl) rfl
set_option maxRecDepth 100000 in
theorem w724 : (Jvm.Cond.methodLink "RestrictedFundsLaw" (37 : Nat) ({ cls := "RestrictedFunds", name := "roomOf", desc := "(I)I" } : Jvm.MethodName)) ∈ WS := ws_in (List.mem_of_getElem? (i := 724) rfl) rfl
set_option maxRecDepth 100000 in
theorem w725 : (Jvm.Cond.instanceMethod ({ cls := "RestrictedFunds", name := "roomOf", desc := "(I)I" } : Jvm.MethodName)) ∈ WS := ws_in (List.mem_of_getElem? (i := 725) rfl) rfl
set_option maxRecDepth 100000 in
theorem w726 : (Jvm.Cond.selects "RestrictedFunds" ({ cls := "RestrictedFunds", name := "roomOf", desc := "(I)I" } : Jvm.MethodName) ({ cls := "RestrictedFunds", name := "roomOf", desc := "(I)I" } : Jvm.MethodName)) ∈ WS := ws_in (List.mem_of_getElem? (i := 726) rfl) rfl
set_option maxRecDepth 100000 in
theorem w727 : (Jvm.Cond.code ({ cls := "RestrictedFunds", name := "roomOf", desc := "(I)I" } : Jvm.MethodName) prog_1_method_16_code (2 : Nat) (Option.some Jvm.ClassFile.FieldType.int)) ∈ WS := ws_in (List.mem_of_getElem? (i := 727) rfl) rfl
set_option maxRecDepth 100000 in
theorem w728 : (Jvm.Cond.methodLink "RestrictedFundsLaw" (55 : Nat) ({ cls := "RestrictedFunds", name := "paidBy", desc := "(II)I" } : Jvm.MethodName)) ∈ WS := ws_in (List.mem_of_getElem? (i := 728) rfl) rfl
set_option maxRecDepth 100000 in
theorem w729 : (Jvm.Cond.instanceMethod ({ cls := "RestrictedFunds", name := "paidBy", desc := "(II)I" } : Jvm.MethodName)) ∈ WS := ws_in (List.mem_of_getElem? (i := 729) rfl) rfl
set_option maxRecDepth 100000 in
theorem w730 : (Jvm.Cond.selects "RestrictedFunds" ({ cls := "RestrictedFunds", name := "paidBy", desc := "(II)I" } : Jvm.MethodName) ({ cls := "RestrictedFunds", name := "paidBy", desc := "(II)I" } : Jvm.MethodName)) ∈ WS := ws_in (List.mem_of_getElem? (i := 730) rfl) rfl
set_option maxRecDepth 100000 in
theorem w731 : (Jvm.Cond.code ({ cls := "RestrictedFunds", name := "paidBy", desc := "(II)I" } : Jvm.MethodName) prog_1_method_23_code (4 : Nat) (Option.some Jvm.ClassFile.FieldType.int)) ∈ WS := ws_in (List.mem_of_getElem? (i := 731) rfl) rfl
set_option maxRecDepth 100000 in
theorem w732 : (Jvm.Cond.methodLink "RestrictedFunds" (141 : Nat) ({ cls := "RestrictedFunds", name := "costAt", desc := "(I)LRestrictedFunds$Cost;" } : Jvm.MethodName)) ∈ WS := ws_in (List.mem_of_getElem? (i := 732) rfl) rfl
set_option maxRecDepth 100000 in
theorem w734 : (Jvm.Cond.instanceMethod ({ cls := "RestrictedFunds", name := "costAt", desc := "(I)LRestrictedFunds$Cost;" } : Jvm.MethodName)) ∈ WS := ws_in (List.mem_of_getElem? (i := 734) rfl) rfl
set_option maxRecDepth 100000 in
theorem w735 : (Jvm.Cond.code ({ cls := "RestrictedFunds", name := "costAt", desc := "(I)LRestrictedFunds$Cost;" } : Jvm.MethodName) prog_1_method_32_code (2 : Nat) (Option.some (Jvm.ClassFile.FieldType.object "RestrictedFunds$Cost"))) ∈ WS := ws_in (List.mem_of_getElem? (i := 735) rfl) rfl
set_option maxRecDepth 100000 in
theorem w737 : (Jvm.Cond.methodLink "RestrictedFunds" (148 : Nat) ({ cls := "RestrictedFunds$Cost", name := "shareOf", desc := "(LRestrictedFunds$Fund;)I" } : Jvm.MethodName)) ∈ WS := ws_in (List.mem_of_getElem? (i := 737) rfl) rfl
set_option maxRecDepth 100000 in
theorem w738 : (Jvm.Cond.instanceMethod ({ cls := "RestrictedFunds$Cost", name := "shareOf", desc := "(LRestrictedFunds$Fund;)I" } : Jvm.MethodName)) ∈ WS := ws_in (List.mem_of_getElem? (i := 738) rfl) rfl
set_option maxRecDepth 100000 in
theorem w739 : (Jvm.Cond.selects "RestrictedFunds$Cost" ({ cls := "RestrictedFunds$Cost", name := "shareOf", desc := "(LRestrictedFunds$Fund;)I" } : Jvm.MethodName) ({ cls := "RestrictedFunds$Cost", name := "shareOf", desc := "(LRestrictedFunds$Fund;)I" } : Jvm.MethodName)) ∈ WS := ws_in (List.mem_of_getElem? (i := 739) rfl) rfl
set_option maxRecDepth 100000 in
theorem w740 : (Jvm.Cond.code ({ cls := "RestrictedFunds$Cost", name := "shareOf", desc := "(LRestrictedFunds$Fund;)I" } : Jvm.MethodName) prog_3_method_2_code (3 : Nat) (Option.some Jvm.ClassFile.FieldType.int)) ∈ WS := ws_in (List.mem_of_getElem? (i := 740) rfl) rfl
set_option maxRecDepth 100000 in
theorem w741 : (Jvm.Cond.methodLink "RestrictedFundsLaw" (59 : Nat) ({ cls := "RestrictedFunds", name := "wouldPay", desc := "(I)I" } : Jvm.MethodName)) ∈ WS := ws_in (List.mem_of_getElem? (i := 741) rfl) rfl
set_option maxRecDepth 100000 in
theorem w742 : (Jvm.Cond.instanceMethod ({ cls := "RestrictedFunds", name := "wouldPay", desc := "(I)I" } : Jvm.MethodName)) ∈ WS := ws_in (List.mem_of_getElem? (i := 742) rfl) rfl
set_option maxRecDepth 100000 in
theorem w743 : (Jvm.Cond.selects "RestrictedFunds" ({ cls := "RestrictedFunds", name := "wouldPay", desc := "(I)I" } : Jvm.MethodName) ({ cls := "RestrictedFunds", name := "wouldPay", desc := "(I)I" } : Jvm.MethodName)) ∈ WS := ws_in (List.mem_of_getElem? (i := 743) rfl) rfl
set_option maxRecDepth 100000 in
theorem w744 : (Jvm.Cond.code ({ cls := "RestrictedFunds", name := "wouldPay", desc := "(I)I" } : Jvm.MethodName) prog_1_method_25_code (3 : Nat) (Option.some Jvm.ClassFile.FieldType.int)) ∈ WS := ws_in (List.mem_of_getElem? (i := 744) rfl) rfl
set_option maxRecDepth 100000 in
theorem w745 : (Jvm.Cond.methodLink "RestrictedFunds" (152 : Nat) ({ cls := "RestrictedFunds$Plan", name := "leftOfCost", desc := "(I)I" } : Jvm.MethodName)) ∈ WS := ws_in (List.mem_of_getElem? (i := 745) rfl) rfl
set_option maxRecDepth 100000 in
theorem w746 : (Jvm.Cond.methodLink "RestrictedFundsLaw" (62 : Nat) ({ cls := "RestrictedFunds", name := "unpaidOf", desc := "(I)I" } : Jvm.MethodName)) ∈ WS := ws_in (List.mem_of_getElem? (i := 746) rfl) rfl
set_option maxRecDepth 100000 in
theorem w747 : (Jvm.Cond.instanceMethod ({ cls := "RestrictedFunds", name := "unpaidOf", desc := "(I)I" } : Jvm.MethodName)) ∈ WS := ws_in (List.mem_of_getElem? (i := 747) rfl) rfl
set_option maxRecDepth 100000 in
theorem w748 : (Jvm.Cond.selects "RestrictedFunds" ({ cls := "RestrictedFunds", name := "unpaidOf", desc := "(I)I" } : Jvm.MethodName) ({ cls := "RestrictedFunds", name := "unpaidOf", desc := "(I)I" } : Jvm.MethodName)) ∈ WS := ws_in (List.mem_of_getElem? (i := 748) rfl) rfl
set_option maxRecDepth 100000 in
theorem w749 : (Jvm.Cond.code ({ cls := "RestrictedFunds", name := "unpaidOf", desc := "(I)I" } : Jvm.MethodName) prog_1_method_22_code (2 : Nat) (Option.some Jvm.ClassFile.FieldType.int)) ∈ WS := ws_in (List.mem_of_getElem? (i := 749) rfl) rfl
set_option maxRecDepth 100000 in
theorem w750 : (Jvm.Cond.methodLink "RestrictedFundsLaw" (65 : Nat) ({ cls := "RestrictedFunds", name := "reason", desc := "(I)I" } : Jvm.MethodName)) ∈ WS := ws_in (List.mem_of_getElem? (i := 750) rfl) rfl
set_option maxRecDepth 100000 in
theorem w751 : (Jvm.Cond.instanceMethod ({ cls := "RestrictedFunds", name := "reason", desc := "(I)I" } : Jvm.MethodName)) ∈ WS := ws_in (List.mem_of_getElem? (i := 751) rfl) rfl
set_option maxRecDepth 100000 in
theorem w752 : (Jvm.Cond.selects "RestrictedFunds" ({ cls := "RestrictedFunds", name := "reason", desc := "(I)I" } : Jvm.MethodName) ({ cls := "RestrictedFunds", name := "reason", desc := "(I)I" } : Jvm.MethodName)) ∈ WS := ws_in (List.mem_of_getElem? (i := 752) rfl) rfl
set_option maxRecDepth 100000 in
theorem w753 : (Jvm.Cond.code ({ cls := "RestrictedFunds", name := "reason", desc := "(I)I" } : Jvm.MethodName) prog_1_method_27_code (3 : Nat) (Option.some Jvm.ClassFile.FieldType.int)) ∈ WS := ws_in (List.mem_of_getElem? (i := 753) rfl) rfl
set_option maxRecDepth 100000 in
theorem w754 : (Jvm.Cond.methodLink "RestrictedFunds" (162 : Nat) ({ cls := "RestrictedFunds", name := "isAllowedBySomeFund", desc := "(LRestrictedFunds$Cost;)Z" } : Jvm.MethodName)) ∈ WS := ws_in (List.mem_of_getElem? (i := 754) rfl) rfl
set_option maxRecDepth 100000 in
theorem w756 : (Jvm.Cond.instanceMethod ({ cls := "RestrictedFunds", name := "isAllowedBySomeFund", desc := "(LRestrictedFunds$Cost;)Z" } : Jvm.MethodName)) ∈ WS := ws_in (List.mem_of_getElem? (i := 756) rfl) rfl
set_option maxRecDepth 100000 in
theorem w757 : (Jvm.Cond.code ({ cls := "RestrictedFunds", name := "isAllowedBySomeFund", desc := "(LRestrictedFunds$Cost;)Z" } : Jvm.MethodName) prog_1_method_45_code (3 : Nat) (Option.some Jvm.ClassFile.FieldType.boolean)) ∈ WS := ws_in (List.mem_of_getElem? (i := 757) rfl) rfl
set_option maxRecDepth 100000 in
theorem w758 : (Jvm.Cond.methodLink "RestrictedFunds" (166 : Nat) ({ cls := "RestrictedFunds", name := "isSuitedBySomeFund", desc := "(LRestrictedFunds$Cost;)Z" } : Jvm.MethodName)) ∈ WS := ws_in (List.mem_of_getElem? (i := 758) rfl) rfl
set_option maxRecDepth 100000 in
theorem w760 : (Jvm.Cond.instanceMethod ({ cls := "RestrictedFunds", name := "isSuitedBySomeFund", desc := "(LRestrictedFunds$Cost;)Z" } : Jvm.MethodName)) ∈ WS := ws_in (List.mem_of_getElem? (i := 760) rfl) rfl
set_option maxRecDepth 100000 in
theorem w761 : (Jvm.Cond.code ({ cls := "RestrictedFunds", name := "isSuitedBySomeFund", desc := "(LRestrictedFunds$Cost;)Z" } : Jvm.MethodName) prog_1_method_46_code (3 : Nat) (Option.some Jvm.ClassFile.FieldType.boolean)) ∈ WS := ws_in (List.mem_of_getElem? (i := 761) rfl) rfl
set_option maxRecDepth 100000 in
theorem w762 : (Jvm.Cond.methodLink "RestrictedFunds" (258 : Nat) ({ cls := "RestrictedFunds$Fund", name := "suits", desc := "(LRestrictedFunds$Cost;)Z" } : Jvm.MethodName)) ∈ WS := ws_in (List.mem_of_getElem? (i := 762) rfl) rfl
set_option maxRecDepth 100000 in
theorem w763 : (Jvm.Cond.methodLink "RestrictedFunds" (169 : Nat) ({ cls := "RestrictedFunds", name := "isPayableFromSomePot", desc := "(LRestrictedFunds$Cost;)Z" } : Jvm.MethodName)) ∈ WS := ws_in (List.mem_of_getElem? (i := 763) rfl) rfl
set_option maxRecDepth 100000 in
theorem w765 : (Jvm.Cond.instanceMethod ({ cls := "RestrictedFunds", name := "isPayableFromSomePot", desc := "(LRestrictedFunds$Cost;)Z" } : Jvm.MethodName)) ∈ WS := ws_in (List.mem_of_getElem? (i := 765) rfl) rfl
set_option maxRecDepth 100000 in
theorem w766 : (Jvm.Cond.code ({ cls := "RestrictedFunds", name := "isPayableFromSomePot", desc := "(LRestrictedFunds$Cost;)Z" } : Jvm.MethodName) prog_1_method_47_code (4 : Nat) (Option.some Jvm.ClassFile.FieldType.boolean)) ∈ WS := ws_in (List.mem_of_getElem? (i := 766) rfl) rfl
set_option maxRecDepth 100000 in
theorem w767 : (Jvm.Cond.methodLink "RestrictedFunds" (172 : Nat) ({ cls := "RestrictedFunds", name := "isHeldInCommitment", desc := "(LRestrictedFunds$Cost;)Z" } : Jvm.MethodName)) ∈ WS := ws_in (List.mem_of_getElem? (i := 767) rfl) rfl
set_option maxRecDepth 100000 in
theorem w769 : (Jvm.Cond.instanceMethod ({ cls := "RestrictedFunds", name := "isHeldInCommitment", desc := "(LRestrictedFunds$Cost;)Z" } : Jvm.MethodName)) ∈ WS := ws_in (List.mem_of_getElem? (i := 769) rfl) rfl
set_option maxRecDepth 100000 in
theorem w770 : (Jvm.Cond.code ({ cls := "RestrictedFunds", name := "isHeldInCommitment", desc := "(LRestrictedFunds$Cost;)Z" } : Jvm.MethodName) prog_1_method_48_code (4 : Nat) (Option.some Jvm.ClassFile.FieldType.boolean)) ∈ WS := ws_in (List.mem_of_getElem? (i := 770) rfl) rfl
set_option maxRecDepth 100000 in
theorem w771 : (Jvm.Cond.methodLink "RestrictedFundsLaw" (68 : Nat) ({ cls := "RestrictedFunds", name := "wouldTake", desc := "(I)I" } : Jvm.MethodName)) ∈ WS := ws_in (List.mem_of_getElem? (i := 771) rfl) rfl
set_option maxRecDepth 100000 in
theorem w772 : (Jvm.Cond.instanceMethod ({ cls := "RestrictedFunds", name := "wouldTake", desc := "(I)I" } : Jvm.MethodName)) ∈ WS := ws_in (List.mem_of_getElem? (i := 772) rfl) rfl
set_option maxRecDepth 100000 in
theorem w773 : (Jvm.Cond.selects "RestrictedFunds" ({ cls := "RestrictedFunds", name := "wouldTake", desc := "(I)I" } : Jvm.MethodName) ({ cls := "RestrictedFunds", name := "wouldTake", desc := "(I)I" } : Jvm.MethodName)) ∈ WS := ws_in (List.mem_of_getElem? (i := 773) rfl) rfl
set_option maxRecDepth 100000 in
theorem w774 : (Jvm.Cond.code ({ cls := "RestrictedFunds", name := "wouldTake", desc := "(I)I" } : Jvm.MethodName) prog_1_method_26_code (6 : Nat) (Option.some Jvm.ClassFile.FieldType.int)) ∈ WS := ws_in (List.mem_of_getElem? (i := 774) rfl) rfl
set_option maxRecDepth 100000 in
theorem w775 : (Jvm.Cond.methodLink "RestrictedFunds" (159 : Nat) ({ cls := "RestrictedFunds$Plan", name := "leftOfPot", desc := "(I)I" } : Jvm.MethodName)) ∈ WS := ws_in (List.mem_of_getElem? (i := 775) rfl) rfl
set_option maxRecDepth 100000 in
theorem w776 : (Jvm.Cond.methodLink "RestrictedFundsLaw" (108 : Nat) ({ cls := "RestrictedFundsLaw", name := "charges", desc := "(LRestrictedFunds;)Z" } : Jvm.MethodName)) ∈ WS := ws_in (List.mem_of_getElem? (i := 776) rfl) rfl
set_option maxRecDepth 100000 in
theorem w777 : (Jvm.Cond.static ({ cls := "RestrictedFundsLaw", name := "charges", desc := "(LRestrictedFunds;)Z" } : Jvm.MethodName)) ∈ WS := ws_in (List.mem_of_getElem? (i := 777) rfl) rfl
set_option maxRecDepth 100000 in
theorem w778 : (Jvm.Cond.code ({ cls := "RestrictedFundsLaw", name := "charges", desc := "(LRestrictedFunds;)Z" } : Jvm.MethodName) method_6_code (9 : Nat) (Option.some Jvm.ClassFile.FieldType.boolean)) ∈ WS := ws_in (List.mem_of_getElem? (i := 778) rfl) rfl
set_option maxRecDepth 100000 in
theorem w779 : (Jvm.Cond.methodLink "RestrictedFundsLaw" (71 : Nat) ({ cls := "RestrictedFunds", name := "payable", desc := "()I" } : Jvm.MethodName)) ∈ WS := ws_in (List.mem_of_getElem? (i := 779) rfl) rfl
set_option maxRecDepth 100000 in
theorem w780 : (Jvm.Cond.instanceMethod ({ cls := "RestrictedFunds", name := "payable", desc := "()I" } : Jvm.MethodName)) ∈ WS := ws_in (List.mem_of_getElem? (i := 780) rfl) rfl
set_option maxRecDepth 100000 in
theorem w781 : (Jvm.Cond.selects "RestrictedFunds" ({ cls := "RestrictedFunds", name := "payable", desc := "()I" } : Jvm.MethodName) ({ cls := "RestrictedFunds", name := "payable", desc := "()I" } : Jvm.MethodName)) ∈ WS := ws_in (List.mem_of_getElem? (i := 781) rfl) rfl
set_option maxRecDepth 100000 in
theorem w782 : (Jvm.Cond.code ({ cls := "RestrictedFunds", name := "payable", desc := "()I" } : Jvm.MethodName) prog_1_method_24_code (1 : Nat) (Option.some Jvm.ClassFile.FieldType.int)) ∈ WS := ws_in (List.mem_of_getElem? (i := 782) rfl) rfl
set_option maxRecDepth 100000 in
theorem w783 : (Jvm.Cond.constant "RestrictedFundsLaw" (94 : Nat) (99999 : Int32)) ∈ WS := ws_in (List.mem_of_getElem? (i := 783) rfl) rfl
set_option maxRecDepth 100000 in
theorem w784 : (Jvm.Cond.sameMethod "java/lang/Throwable" "java/lang/Throwable" "fillInStackTrace" "(I)Ljava/lang/Throwable;") ∈ WS := ws_in (List.mem_of_getElem? (i := 784) rfl) rfl
set_option maxRecDepth 100000 in
theorem w798 : (Jvm.Cond.sameMethod "[Ljava/lang/Object;" "java/lang/Object" "getClass" "()Ljava/lang/Class;") ∈ WS := ws_in (List.mem_of_getElem? (i := 798) rfl) rfl
set_option maxRecDepth 100000 in
theorem w799 : (Jvm.Cond.selects "[Ljava/lang/Object;" ({ cls := "java/lang/Object", name := "getClass", desc := "()Ljava/lang/Class;" } : Jvm.MethodName) ({ cls := "java/lang/Object", name := "getClass", desc := "()Ljava/lang/Class;" } : Jvm.MethodName)) ∈ WS := ws_in (List.mem_of_getElem? (i := 799) rfl) rfl
theorem in_Jx4a65c : ∀ w ∈ u_ws RJx4a65c TJx4a65c 3, w ∈ WS := by
  intro w hw
  obtain ⟨k, hk, rfl⟩ := List.mem_map.mp hw
  have hk := List.mem_range.mp hk
  match k, hk with
  | 0, _ => exact w53
  | 1, _ => exact w49
  | 2, _ => exact w51
  | k + 3, h => exact absurd h (by omega)
theorem in_X0 : ∀ w ∈ u_ws RX0 TX0 4, w ∈ WS := by
  intro w hw
  obtain ⟨k, hk, rfl⟩ := List.mem_map.mp hw
  have hk := List.mem_range.mp hk
  match k, hk with
  | 0, _ => exact w707
  | 1, _ => exact w701
  | 2, _ => exact w703
  | 3, _ => exact w705
  | k + 4, h => exact absurd h (by omega)
theorem in_X1 : ∀ w ∈ u_ws RX1 TX1 4, w ∈ WS := by
  intro w hw
  obtain ⟨k, hk, rfl⟩ := List.mem_map.mp hw
  have hk := List.mem_range.mp hk
  match k, hk with
  | 0, _ => exact w410
  | 1, _ => exact w412
  | 2, _ => exact w414
  | 3, _ => exact w416
  | k + 4, h => exact absurd h (by omega)
theorem in_X2 : ∀ w ∈ u_ws RX2 TX2 7, w ∈ WS := by
  intro w hw
  obtain ⟨k, hk, rfl⟩ := List.mem_map.mp hw
  have hk := List.mem_range.mp hk
  match k, hk with
  | 0, _ => exact w255
  | 1, _ => exact w243
  | 2, _ => exact w245
  | 3, _ => exact w247
  | 4, _ => exact w249
  | 5, _ => exact w251
  | 6, _ => exact w253
  | k + 7, h => exact absurd h (by omega)
theorem in_X3 : ∀ w ∈ u_ws RX3 TX3 11, w ∈ WS := by
  intro w hw
  obtain ⟨k, hk, rfl⟩ := List.mem_map.mp hw
  have hk := List.mem_range.mp hk
  match k, hk with
  | 0, _ => exact w75
  | 1, _ => exact w77
  | 2, _ => exact w79
  | 3, _ => exact w81
  | 4, _ => exact w83
  | 5, _ => exact w85
  | 6, _ => exact w87
  | 7, _ => exact w89
  | 8, _ => exact w91
  | 9, _ => exact w93
  | 10, _ => exact w95
  | k + 11, h => exact absurd h (by omega)
theorem in_X5 : ∀ w ∈ u_ws RX5 TX5 6, w ∈ WS := by
  intro w hw
  obtain ⟨k, hk, rfl⟩ := List.mem_map.mp hw
  have hk := List.mem_range.mp hk
  match k, hk with
  | 0, _ => exact w105
  | 1, _ => exact w107
  | 2, _ => exact w109
  | 3, _ => exact w111
  | 4, _ => exact w113
  | 5, _ => exact w115
  | k + 6, h => exact absurd h (by omega)
theorem fgJx4a65c_9_2 : FG RJx4a65c 9 2 1 := ⟨"java/util/ArrayList", _, _, _, rfl, by decide, in_Jx4a65c, w44, .inl rfl⟩
theorem fwJx4a65c_9_2 : FW RJx4a65c 9 2 1 (.array (.object "java/lang/Object")) := ⟨"java/util/ArrayList", _, _, _, tyJx4a65c, rfl, by decide, in_Jx4a65c, w44, .inl rfl, tyJx4a65c_ok, nmJx4a65c, rfl, by decide +kernel⟩
theorem fgJx4a65c_48_2 : FG RJx4a65c 48 2 2 := ⟨"java/util/ArrayList", _, _, _, rfl, by decide, in_Jx4a65c, w45, .inl rfl⟩
theorem fwJx4a65c_48_2 : FW RJx4a65c 48 2 2 .int := ⟨"java/util/ArrayList", _, _, _, tyJx4a65c, rfl, by decide, in_Jx4a65c, w45, .inl rfl, tyJx4a65c_ok, nmJx4a65c, rfl, by decide +kernel⟩
theorem fgJxc12de_7_2 : FG RJxc12de 7 2 0 := ⟨"java/util/AbstractList", _, _, _, rfl, by decide, in_Jx4a65c, w46, .inl rfl⟩
theorem fwJxc12de_7_2 : FW RJxc12de 7 2 0 .int := ⟨"java/util/AbstractList", _, _, _, tyJx4a65c, rfl, by decide, in_Jx4a65c, w46, .inl rfl, tyJx4a65c_ok, nmJx4a65c, rfl, by decide +kernel⟩
theorem fgJx4a65c_63_2 : FG RJx4a65c 63 2 0 := ⟨"java/util/ArrayList", _, _, _, rfl, by decide, in_Jx4a65c, w47, .inr w48⟩
theorem fwJx4a65c_63_2 : FW RJx4a65c 63 2 0 .int := ⟨"java/util/ArrayList", _, _, _, tyJx4a65c, rfl, by decide, in_Jx4a65c, w47, .inr w48, tyJx4a65c_ok, nmJx4a65c, rfl, by decide +kernel⟩
theorem fgX3_50_6 : FG RX3 50 6 0 := ⟨"RestrictedFunds$Plan", _, _, _, rfl, by decide, in_X3, w64, .inl rfl⟩
theorem fwX3_50_6 : FW RX3 50 6 0 .int := ⟨"RestrictedFunds$Plan", _, _, _, tyX3, rfl, by decide, in_X3, w64, .inl rfl, tyX3_ok, nmX3, rfl, by decide +kernel⟩
theorem fgX3_54_6 : FG RX3 54 6 1 := ⟨"RestrictedFunds$Plan", _, _, _, rfl, by decide, in_X3, w65, .inl rfl⟩
theorem fwX3_54_6 : FW RX3 54 6 1 .int := ⟨"RestrictedFunds$Plan", _, _, _, tyX3, rfl, by decide, in_X3, w65, .inl rfl, tyX3_ok, nmX3, rfl, by decide +kernel⟩
theorem fgX3_9_6 : FG RX3 9 6 2 := ⟨"RestrictedFunds$Plan", _, _, _, rfl, by decide, in_X3, w66, .inl rfl⟩
theorem ffX3_9_6 : FF RX3 9 6 2 (.array .int) := ⟨"RestrictedFunds$Plan", _, _, _, tyX3, rfl, by decide, in_X3, w66, .inl rfl, tyX3_ok, nmX3, rfl, rfl, by decide +kernel⟩
theorem fgX3_15_6 : FG RX3 15 6 3 := ⟨"RestrictedFunds$Plan", _, _, _, rfl, by decide, in_X3, w67, .inl rfl⟩
theorem ffX3_15_6 : FF RX3 15 6 3 (.array .int) := ⟨"RestrictedFunds$Plan", _, _, _, tyX3, rfl, by decide, in_X3, w67, .inl rfl, tyX3_ok, nmX3, rfl, rfl, by decide +kernel⟩
theorem fgX3_18_6 : FG RX3 18 6 4 := ⟨"RestrictedFunds$Plan", _, _, _, rfl, by decide, in_X3, w68, .inl rfl⟩
theorem ffX3_18_6 : FF RX3 18 6 4 (.array .int) := ⟨"RestrictedFunds$Plan", _, _, _, tyX3, rfl, by decide, in_X3, w68, .inl rfl, tyX3_ok, nmX3, rfl, rfl, by decide +kernel⟩
theorem fgX3_23_6 : FG RX3 23 6 5 := ⟨"RestrictedFunds$Plan", _, _, _, rfl, by decide, in_X3, w69, .inl rfl⟩
theorem ffX3_23_6 : FF RX3 23 6 5 (.array (.array .int)) := ⟨"RestrictedFunds$Plan", _, _, _, tyX3, rfl, by decide, in_X3, w69, .inl rfl, tyX3_ok, nmX3, rfl, rfl, by decide +kernel⟩
theorem fgX3_26_6 : FG RX3 26 6 6 := ⟨"RestrictedFunds$Plan", _, _, _, rfl, by decide, in_X3, w70, .inl rfl⟩
theorem ffX3_26_6 : FF RX3 26 6 6 (.array .int) := ⟨"RestrictedFunds$Plan", _, _, _, tyX3, rfl, by decide, in_X3, w70, .inl rfl, tyX3_ok, nmX3, rfl, rfl, by decide +kernel⟩
theorem fgX3_29_6 : FG RX3 29 6 7 := ⟨"RestrictedFunds$Plan", _, _, _, rfl, by decide, in_X3, w71, .inl rfl⟩
theorem ffX3_29_6 : FF RX3 29 6 7 (.array .int) := ⟨"RestrictedFunds$Plan", _, _, _, tyX3, rfl, by decide, in_X3, w71, .inl rfl, tyX3_ok, nmX3, rfl, rfl, by decide +kernel⟩
theorem fgX3_32_6 : FG RX3 32 6 8 := ⟨"RestrictedFunds$Plan", _, _, _, rfl, by decide, in_X3, w72, .inl rfl⟩
theorem ffX3_32_6 : FF RX3 32 6 8 (.array .int) := ⟨"RestrictedFunds$Plan", _, _, _, tyX3, rfl, by decide, in_X3, w72, .inl rfl, tyX3_ok, nmX3, rfl, rfl, by decide +kernel⟩
theorem fgX3_35_6 : FG RX3 35 6 9 := ⟨"RestrictedFunds$Plan", _, _, _, rfl, by decide, in_X3, w73, .inl rfl⟩
theorem ffX3_35_6 : FF RX3 35 6 9 (.array .int) := ⟨"RestrictedFunds$Plan", _, _, _, tyX3, rfl, by decide, in_X3, w73, .inl rfl, tyX3_ok, nmX3, rfl, rfl, by decide +kernel⟩
theorem fgX3_38_6 : FG RX3 38 6 10 := ⟨"RestrictedFunds$Plan", _, _, _, rfl, by decide, in_X3, w74, .inl rfl⟩
theorem ffX3_38_6 : FF RX3 38 6 10 (.array .int) := ⟨"RestrictedFunds$Plan", _, _, _, tyX3, rfl, by decide, in_X3, w74, .inl rfl, tyX3_ok, nmX3, rfl, rfl, by decide +kernel⟩
theorem fgX5_12_7 : FG RX5 12 7 0 := ⟨"RestrictedFunds", _, _, _, rfl, by decide, in_X5, w99, .inl rfl⟩
theorem ffX5_12_7 : FF RX5 12 7 0 (.object "java/util/ArrayList") := ⟨"RestrictedFunds", _, _, _, tyX5, rfl, by decide, in_X5, w99, .inl rfl, tyX5_ok, nmX5, rfl, rfl, by decide +kernel⟩
theorem fgX5_16_7 : FG RX5 16 7 1 := ⟨"RestrictedFunds", _, _, _, rfl, by decide, in_X5, w100, .inl rfl⟩
theorem ffX5_16_7 : FF RX5 16 7 1 (.object "java/util/ArrayList") := ⟨"RestrictedFunds", _, _, _, tyX5, rfl, by decide, in_X5, w100, .inl rfl, tyX5_ok, nmX5, rfl, rfl, by decide +kernel⟩
theorem fgX5_19_7 : FG RX5 19 7 2 := ⟨"RestrictedFunds", _, _, _, rfl, by decide, in_X5, w101, .inl rfl⟩
theorem ffX5_19_7 : FF RX5 19 7 2 (.object "java/util/ArrayList") := ⟨"RestrictedFunds", _, _, _, tyX5, rfl, by decide, in_X5, w101, .inl rfl, tyX5_ok, nmX5, rfl, rfl, by decide +kernel⟩
theorem fgX5_22_7 : FG RX5 22 7 3 := ⟨"RestrictedFunds", _, _, _, rfl, by decide, in_X5, w102, .inl rfl⟩
theorem ffX5_22_7 : FF RX5 22 7 3 (.object "java/util/ArrayList") := ⟨"RestrictedFunds", _, _, _, tyX5, rfl, by decide, in_X5, w102, .inl rfl, tyX5_ok, nmX5, rfl, rfl, by decide +kernel⟩
theorem fgX5_28_7 : FG RX5 28 7 4 := ⟨"RestrictedFunds", _, _, _, rfl, by decide, in_X5, w103, .inl rfl⟩
theorem ffX5_28_7 : FF RX5 28 7 4 (.object "RestrictedFunds$Plan") := ⟨"RestrictedFunds", _, _, _, tyX5, rfl, by decide, in_X5, w103, .inl rfl, tyX5_ok, nmX5, rfl, rfl, by decide +kernel⟩
theorem fgX5_32_7 : FG RX5 32 7 5 := ⟨"RestrictedFunds", _, _, _, rfl, by decide, in_X5, w104, .inl rfl⟩
theorem fwX5_32_7 : FW RX5 32 7 5 .int := ⟨"RestrictedFunds", _, _, _, tyX5, rfl, by decide, in_X5, w104, .inl rfl, tyX5_ok, nmX5, rfl, by decide +kernel⟩
theorem fgX2_9_5 : FG RX2 9 5 1 := ⟨"RestrictedFunds$Fund", _, _, _, rfl, by decide, in_X2, w226, .inl rfl⟩
theorem ffX2_9_5 : FF RX2 9 5 1 .int := ⟨"RestrictedFunds$Fund", _, _, _, tyX2, rfl, by decide, in_X2, w226, .inl rfl, tyX2_ok, nmX2, rfl, rfl, by decide +kernel⟩
theorem fgX1_25_5 : FG RX1 25 5 1 := ⟨"RestrictedFunds$Fund", _, _, _, rfl, by decide, in_X2, w227, .inl rfl⟩
theorem fgX5_135_5 : FG RX5 135 5 1 := ⟨"RestrictedFunds$Fund", _, _, _, rfl, by decide, in_X2, w228, .inl rfl⟩
theorem fgX2_15_5 : FG RX2 15 5 2 := ⟨"RestrictedFunds$Fund", _, _, _, rfl, by decide, in_X2, w229, .inl rfl⟩
theorem ffX2_15_5 : FF RX2 15 5 2 .int := ⟨"RestrictedFunds$Fund", _, _, _, tyX2, rfl, by decide, in_X2, w229, .inl rfl, tyX2_ok, nmX2, rfl, rfl, by decide +kernel⟩
theorem fgX2_18_5 : FG RX2 18 5 3 := ⟨"RestrictedFunds$Fund", _, _, _, rfl, by decide, in_X2, w230, .inl rfl⟩
theorem ffX2_18_5 : FF RX2 18 5 3 .int := ⟨"RestrictedFunds$Fund", _, _, _, tyX2, rfl, by decide, in_X2, w230, .inl rfl, tyX2_ok, nmX2, rfl, rfl, by decide +kernel⟩
theorem fgX2_21_5 : FG RX2 21 5 4 := ⟨"RestrictedFunds$Fund", _, _, _, rfl, by decide, in_X2, w231, .inl rfl⟩
theorem ffX2_21_5 : FF RX2 21 5 4 .int := ⟨"RestrictedFunds$Fund", _, _, _, tyX2, rfl, by decide, in_X2, w231, .inl rfl, tyX2_ok, nmX2, rfl, rfl, by decide +kernel⟩
theorem fgX2_44_5 : FG RX2 44 5 5 := ⟨"RestrictedFunds$Fund", _, _, _, rfl, by decide, in_X2, w232, .inl rfl⟩
theorem fwX2_44_5 : FW RX2 44 5 5 .int := ⟨"RestrictedFunds$Fund", _, _, _, tyX2, rfl, by decide, in_X2, w232, .inl rfl, tyX2_ok, nmX2, rfl, by decide +kernel⟩
theorem fgX5_126_5 : FG RX5 126 5 5 := ⟨"RestrictedFunds$Fund", _, _, _, rfl, by decide, in_X2, w233, .inl rfl⟩
theorem fwX5_126_5 : FW RX5 126 5 5 .int := ⟨"RestrictedFunds$Fund", _, _, _, tyX2, rfl, by decide, in_X2, w233, .inl rfl, tyX2_ok, nmX2, rfl, by decide +kernel⟩
theorem fgX2_47_5 : FG RX2 47 5 6 := ⟨"RestrictedFunds$Fund", _, _, _, rfl, by decide, in_X2, w234, .inl rfl⟩
theorem fwX2_47_5 : FW RX2 47 5 6 .int := ⟨"RestrictedFunds$Fund", _, _, _, tyX2, rfl, by decide, in_X2, w234, .inl rfl, tyX2_ok, nmX2, rfl, by decide +kernel⟩
theorem fgX5_129_5 : FG RX5 129 5 6 := ⟨"RestrictedFunds$Fund", _, _, _, rfl, by decide, in_X2, w235, .inl rfl⟩
theorem fwX5_129_5 : FW RX5 129 5 6 .int := ⟨"RestrictedFunds$Fund", _, _, _, tyX2, rfl, by decide, in_X2, w235, .inl rfl, tyX2_ok, nmX2, rfl, by decide +kernel⟩
theorem fgX4_7_3 : FG RX4 7 3 0 := ⟨"RestrictedFunds$Pot", _, _, _, rfl, by decide, in_X0, w236, .inl rfl⟩
theorem fwX4_7_3 : FW RX4 7 3 0 .int := ⟨"RestrictedFunds$Pot", _, _, _, tyX0, rfl, by decide, in_X0, w236, .inl rfl, tyX0_ok, nmX0, rfl, by decide +kernel⟩
theorem fgX4_7_5 : FG RX4 7 5 0 := ⟨"RestrictedFunds$Pot", _, _, _, rfl, by decide, in_X2, w236, .inl rfl⟩
theorem fwX4_7_5 : FW RX4 7 5 0 .int := ⟨"RestrictedFunds$Pot", _, _, _, tyX2, rfl, by decide, in_X2, w236, .inl rfl, tyX2_ok, nmX2, rfl, by decide +kernel⟩
theorem fgX5_62_5 : FG RX5 62 5 0 := ⟨"RestrictedFunds$Fund", _, _, _, rfl, by decide, in_X2, w237, .inr w238⟩
theorem fwX5_62_5 : FW RX5 62 5 0 .int := ⟨"RestrictedFunds$Fund", _, _, _, tyX2, rfl, by decide, in_X2, w237, .inr w238, tyX2_ok, nmX2, rfl, by decide +kernel⟩
theorem fgX5_78_3 : FG RX5 78 3 0 := ⟨"RestrictedFunds$Commitment", _, _, _, rfl, by decide, in_X0, w239, .inr w240⟩
theorem fwX5_78_3 : FW RX5 78 3 0 .int := ⟨"RestrictedFunds$Commitment", _, _, _, tyX0, rfl, by decide, in_X0, w239, .inr w240, tyX0_ok, nmX0, rfl, by decide +kernel⟩
theorem fgX2_50_5 : FG RX2 50 5 0 := ⟨"RestrictedFunds$Fund", _, _, _, rfl, by decide, in_X2, w241, .inr w238⟩
theorem fwX2_50_5 : FW RX2 50 5 0 .int := ⟨"RestrictedFunds$Fund", _, _, _, tyX2, rfl, by decide, in_X2, w241, .inr w238, tyX2_ok, nmX2, rfl, by decide +kernel⟩
theorem fgX5_158_3 : FG RX5 158 3 0 := ⟨"RestrictedFunds$Pot", _, _, _, rfl, by decide, in_X0, w242, .inl rfl⟩
theorem fwX5_158_3 : FW RX5 158 3 0 .int := ⟨"RestrictedFunds$Pot", _, _, _, tyX0, rfl, by decide, in_X0, w242, .inl rfl, tyX0_ok, nmX0, rfl, by decide +kernel⟩
theorem fgX5_158_5 : FG RX5 158 5 0 := ⟨"RestrictedFunds$Pot", _, _, _, rfl, by decide, in_X2, w242, .inl rfl⟩
theorem fwX5_158_5 : FW RX5 158 5 0 .int := ⟨"RestrictedFunds$Pot", _, _, _, tyX2, rfl, by decide, in_X2, w242, .inl rfl, tyX2_ok, nmX2, rfl, by decide +kernel⟩
theorem fgX1_15_4 : FG RX1 15 4 0 := ⟨"RestrictedFunds$Cost", _, _, _, rfl, by decide, in_X1, w401, .inl rfl⟩
theorem ffX1_15_4 : FF RX1 15 4 0 .int := ⟨"RestrictedFunds$Cost", _, _, _, tyX1, rfl, by decide, in_X1, w401, .inl rfl, tyX1_ok, nmX1, rfl, rfl, by decide +kernel⟩
theorem fgX0_20_4 : FG RX0 20 4 0 := ⟨"RestrictedFunds$Cost", _, _, _, rfl, by decide, in_X1, w402, .inl rfl⟩
theorem fgX2_32_4 : FG RX2 32 4 0 := ⟨"RestrictedFunds$Cost", _, _, _, rfl, by decide, in_X1, w403, .inl rfl⟩
theorem fgX5_255_4 : FG RX5 255 4 0 := ⟨"RestrictedFunds$Cost", _, _, _, rfl, by decide, in_X1, w404, .inl rfl⟩
theorem fgX1_19_4 : FG RX1 19 4 1 := ⟨"RestrictedFunds$Cost", _, _, _, rfl, by decide, in_X1, w405, .inl rfl⟩
theorem ffX1_19_4 : FF RX1 19 4 1 .int := ⟨"RestrictedFunds$Cost", _, _, _, tyX1, rfl, by decide, in_X1, w405, .inl rfl, tyX1_ok, nmX1, rfl, rfl, by decide +kernel⟩
theorem fgX2_41_4 : FG RX2 41 4 1 := ⟨"RestrictedFunds$Cost", _, _, _, rfl, by decide, in_X1, w406, .inl rfl⟩
theorem fgX1_22_4 : FG RX1 22 4 2 := ⟨"RestrictedFunds$Cost", _, _, _, rfl, by decide, in_X1, w407, .inl rfl⟩
theorem fwX1_22_4 : FW RX1 22 4 2 .int := ⟨"RestrictedFunds$Cost", _, _, _, tyX1, rfl, by decide, in_X1, w407, .inl rfl, tyX1_ok, nmX1, rfl, by decide +kernel⟩
theorem fgX5_145_4 : FG RX5 145 4 2 := ⟨"RestrictedFunds$Cost", _, _, _, rfl, by decide, in_X1, w408, .inl rfl⟩
theorem fwX5_145_4 : FW RX5 145 4 2 .int := ⟨"RestrictedFunds$Cost", _, _, _, tyX1, rfl, by decide, in_X1, w408, .inl rfl, tyX1_ok, nmX1, rfl, by decide +kernel⟩
theorem fgX1_9_4 : FG RX1 9 4 3 := ⟨"RestrictedFunds$Cost", _, _, _, rfl, by decide, in_X1, w409, .inl rfl⟩
theorem ffX1_9_4 : FF RX1 9 4 3 (.array .int) := ⟨"RestrictedFunds$Cost", _, _, _, tyX1, rfl, by decide, in_X1, w409, .inl rfl, tyX1_ok, nmX1, rfl, rfl, by decide +kernel⟩
theorem fgX0_7_3 : FG RX0 7 3 1 := ⟨"RestrictedFunds$Commitment", _, _, _, rfl, by decide, in_X0, w698, .inl rfl⟩
theorem ffX0_7_3 : FF RX0 7 3 1 (.object "RestrictedFunds$Fund") := ⟨"RestrictedFunds$Commitment", _, _, _, tyX0, rfl, by decide, in_X0, w698, .inl rfl, tyX0_ok, nmX0, rfl, rfl, by decide +kernel⟩
theorem fgX0_13_3 : FG RX0 13 3 2 := ⟨"RestrictedFunds$Commitment", _, _, _, rfl, by decide, in_X0, w699, .inl rfl⟩
theorem ffX0_13_3 : FF RX0 13 3 2 .int := ⟨"RestrictedFunds$Commitment", _, _, _, tyX0, rfl, by decide, in_X0, w699, .inl rfl, tyX0_ok, nmX0, rfl, rfl, by decide +kernel⟩
theorem fgX0_17_3 : FG RX0 17 3 3 := ⟨"RestrictedFunds$Commitment", _, _, _, rfl, by decide, in_X0, w700, .inl rfl⟩
theorem ffX0_17_3 : FF RX0 17 3 3 .int := ⟨"RestrictedFunds$Commitment", _, _, _, tyX0, rfl, by decide, in_X0, w700, .inl rfl, tyX0_ok, nmX0, rfl, rfl, by decide +kernel⟩
theorem kL_77 : WIt RL 77 yX5_init cX5_init 1 0 := ⟨⟨w26, w1, ⟨by decide, by decide⟩, by decide +kernel, w24⟩, rfl, w25⟩
theorem kX5_11 : WIt RX5 11 yJx4a65c_init_da8c8 cJx4a65c_init_da8c8 1 0 := ⟨⟨w34, w4, ⟨by decide, by decide⟩, by decide +kernel, w32⟩, rfl, w33⟩
theorem kJx4a65c_1 : WIt RJx4a65c 1 yJxc12de_init_da8c8 cJxc12de_init_da8c8 1 0 := ⟨⟨w37, w3, ⟨by decide, by decide⟩, by decide +kernel, w35⟩, rfl, w36⟩
theorem kJxc12de_1 : WIt RJxc12de 1 yJxa1e45_init_da8c8 cJxa1e45_init_da8c8 1 0 := ⟨⟨w40, w2, ⟨by decide, by decide⟩, by decide +kernel, w38⟩, rfl, w39⟩
theorem kL_95 : WVt RL 95 yX5_addFund cX5_addFund 6 (some .int) 4 := ⟨⟨w121, w1, ⟨by decide, by decide⟩, by decide +kernel, w118⟩, w119, w120⟩
theorem kX5_37 : WSt RX5 37 yX5_requireRange cX5_requireRange 3 none 3 := ⟨⟨w125, w1, ⟨by decide, by decide⟩, by decide +kernel, w123⟩, w124⟩
theorem kX5_41 : WVt RX5 41 yJx4a65c_size_8abf5 cJx4a65c_size_8abf5 1 (some .int) 0 := ⟨⟨w197, w4, ⟨by decide, by decide⟩, by decide +kernel, w194⟩, w195, w196⟩
theorem kX5_45 : WSt RX5 45 yX5_requireState cX5_requireState 1 none 1 := ⟨⟨w200, w1, ⟨by decide, by decide⟩, by decide +kernel, w198⟩, w199⟩
theorem kX5_51 : WIt RX5 51 yX2_init cX2_init 6 5 := ⟨⟨w221, w19, ⟨by decide, by decide⟩, by decide +kernel, w219⟩, rfl, w220⟩
theorem kX2_3 : WIt RX2 3 yX4_init cX4_init 2 1 := ⟨⟨w224, w18, ⟨by decide, by decide⟩, by decide +kernel, w222⟩, rfl, w223⟩
theorem kX5_54 : WVt RX5 54 yJx4a65c_add_9ea2d cJx4a65c_add_9ea2d 2 (some .boolean) 1 := ⟨⟨w261, w4, ⟨by decide, by decide⟩, by decide +kernel, w258⟩, w259, w260⟩
theorem kJx4a65c_73 : WSt RJx4a65c 73 yJ8_newLength_cabcc cJ8_newLength_cabcc 4 (some .int) 3 := ⟨⟨w276, w13, ⟨by decide, by decide⟩, by decide +kernel, w274⟩, w275⟩
theorem kJ8_194 : WSt RJ8 194 yJ9_max_7cf53 cJ9_max_7cf53 2 (some .int) 2 := ⟨⟨w279, w12, ⟨by decide, by decide⟩, by decide +kernel, w277⟩, w278⟩
theorem kJ8_201 : WSt RJ8 201 yJ8_hugeLength_7cf53 cJ8_hugeLength_7cf53 3 (some .int) 2 := ⟨⟨w283, w13, ⟨by decide, by decide⟩, by decide +kernel, w281⟩, w282⟩
theorem kJx4a65c_66 : WSt RJx4a65c 66 yJ7_copyOf_1904c cJ7_copyOf_1904c 2 (some (.array (.object "java/lang/Object"))) 2 := ⟨⟨w286, w14, ⟨by decide, by decide⟩, by decide +kernel, w284⟩, w285⟩
theorem kJ7_300 : WSt RJ7 300 yJ7_copyOf_6403c cJ7_copyOf_6403c 4 (some (.array (.object "java/lang/Object"))) 3 := ⟨⟨w302, w14, ⟨by decide, by decide⟩, by decide +kernel, w300⟩, w301⟩
theorem kJ7_304 : WSt RJ7 304 yJ9_min_7cf53 cJ9_min_7cf53 2 (some .int) 2 := ⟨⟨w308, w12, ⟨by decide, by decide⟩, by decide +kernel, w306⟩, w307⟩
theorem kJx4a65c_79 : WSt RJx4a65c 79 yJ9_max_7cf53 cJ9_max_7cf53 2 (some .int) 2 := ⟨⟨w279, w12, ⟨by decide, by decide⟩, by decide +kernel, w312⟩, w278⟩
theorem kL_98 : WVt RL 98 yX5_deposit cX5_deposit 4 (some .int) 2 := ⟨⟨w317, w1, ⟨by decide, by decide⟩, by decide +kernel, w314⟩, w315, w316⟩
theorem kX5_118 : WVt RX5 118 yJx4a65c_get_915e3 cJx4a65c_get_915e3 2 (some (.object "java/lang/Object")) 1 := ⟨⟨w341, w4, ⟨by decide, by decide⟩, by decide +kernel, w338⟩, w339, w340⟩
theorem kJx4a65c_118 : WSt RJx4a65c 118 yJ15_checkIndex_7cf53 cJ15_checkIndex_7cf53 2 (some .int) 2 := ⟨⟨w344, w10, ⟨by decide, by decide⟩, by decide +kernel, w342⟩, w343⟩
theorem kJ15_105 : WSt RJ15 105 yJ3_checkIndex_8e157 cJ3_checkIndex_8e157 3 (some .int) 3 := ⟨⟨w347, w11, ⟨by decide, by decide⟩, by decide +kernel, w345⟩, w346⟩
theorem kJx4a65c_123 : WVt RJx4a65c 123 yJx4a65c_elementData_915e3 cJx4a65c_elementData_915e3 2 (some (.object "java/lang/Object")) 1 := ⟨⟨w351, w4, ⟨by decide, by decide⟩, by decide +kernel, w348⟩, w349, w350⟩
theorem kL_112 : WVt RL 112 yX5_cancel cX5_cancel 3 (some .int) 1 := ⟨⟨w355, w1, ⟨by decide, by decide⟩, by decide +kernel, w352⟩, w353, w354⟩
theorem kX5_122 : WVt RX5 122 yX0_owner cX0_owner 1 (some (.object "RestrictedFunds$Fund")) 0 := ⟨⟨w369, w20, ⟨by decide, by decide⟩, by decide +kernel, w366⟩, w367, w368⟩
theorem kX5_196 : WVt RX5 196 yJx4a65c_remove_915e3 cJx4a65c_remove_915e3 4 (some (.object "java/lang/Object")) 1 := ⟨⟨w373, w4, ⟨by decide, by decide⟩, by decide +kernel, w370⟩, w371, w372⟩
theorem kL_115 : WVt RL 115 yX5_advance cX5_advance 2 (some .int) 1 := ⟨⟨w382, w1, ⟨by decide, by decide⟩, by decide +kernel, w379⟩, w380, w381⟩
theorem kX5_138 : WVt RX5 138 yX0_expiry cX0_expiry 1 (some .int) 0 := ⟨⟨w390, w20, ⟨by decide, by decide⟩, by decide +kernel, w387⟩, w388, w389⟩
theorem kL_104 : WVt RL 104 yX5_addCost cX5_addCost 4 (some .int) 3 := ⟨⟨w394, w1, ⟨by decide, by decide⟩, by decide +kernel, w391⟩, w392, w393⟩
theorem kX5_88 : WIt RX5 88 yX1_init cX1_init 4 3 := ⟨⟨w399, w21, ⟨by decide, by decide⟩, by decide +kernel, w397⟩, rfl, w398⟩
theorem kL_74 : WVt RL 74 yX5_charge cX5_charge 2 (some .int) 0 := ⟨⟨w422, w1, ⟨by decide, by decide⟩, by decide +kernel, w419⟩, w420, w421⟩
theorem kX5_216 : WVt RX5 216 yJx4a65c_clear_da8c8 cJx4a65c_clear_da8c8 4 none 0 := ⟨⟨w434, w4, ⟨by decide, by decide⟩, by decide +kernel, w431⟩, w432, w433⟩
theorem kX5_224 : WVt RX5 224 yJx4a65c_add_7a177 cJx4a65c_add_7a177 5 none 2 := ⟨⟨w450, w4, ⟨by decide, by decide⟩, by decide +kernel, w447⟩, w448, w449⟩
theorem kX5_202 : WVt RX5 202 yX3_begin cX3_begin 5 none 2 := ⟨⟨w458, w5, ⟨by decide, by decide⟩, by decide +kernel, w455⟩, w456, w457⟩
theorem kX3_41 : WSt RX3 41 yJ9_min_7cf53 cJ9_min_7cf53 2 (some .int) 2 := ⟨⟨w308, w12, ⟨by decide, by decide⟩, by decide +kernel, w459⟩, w307⟩
theorem kX3_47 : WSt RX3 47 yJ9_max_7cf53 cJ9_max_7cf53 2 (some .int) 2 := ⟨⟨w279, w12, ⟨by decide, by decide⟩, by decide +kernel, w460⟩, w278⟩
theorem kX5_206 : WVt RX5 206 yX3_setCost cX3_setCost 3 none 2 := ⟨⟨w464, w5, ⟨by decide, by decide⟩, by decide +kernel, w461⟩, w462, w463⟩
theorem kX0_23 : WVt RX0 23 yX2_suits cX2_suits 2 (some .boolean) 1 := ⟨⟨w482, w19, ⟨by decide, by decide⟩, by decide +kernel, w479⟩, w480, w481⟩
theorem kX2_37 : WVt RX2 37 yX2_allows cX2_allows 2 (some .boolean) 1 := ⟨⟨w486, w19, ⟨by decide, by decide⟩, by decide +kernel, w483⟩, w484, w485⟩
theorem kX2_24 : WVt RX2 24 yX2_suits cX2_suits 2 (some .boolean) 1 := ⟨⟨w482, w19, ⟨by decide, by decide⟩, by decide +kernel, w493⟩, w480, w481⟩
theorem kX5_213 : WVt RX5 213 yX3_setPot cX3_setPot 4 none 3 := ⟨⟨w497, w5, ⟨by decide, by decide⟩, by decide +kernel, w494⟩, w495, w496⟩
theorem kX5_93 : WVt RX5 93 yX3_payCosts cX3_payCosts 4 none 0 := ⟨⟨w505, w5, ⟨by decide, by decide⟩, by decide +kernel, w502⟩, w503, w504⟩
theorem kX3_78 : WVt RX3 78 yX3_leftOfCost cX3_leftOfCost 2 (some .int) 1 := ⟨⟨w514, w5, ⟨by decide, by decide⟩, by decide +kernel, w511⟩, w512, w513⟩
theorem kX3_97 : WVt RX3 97 yX3_leftOfPot cX3_leftOfPot 2 (some .int) 1 := ⟨⟨w543, w5, ⟨by decide, by decide⟩, by decide +kernel, w540⟩, w541, w542⟩
theorem kX3_120 : WVt RX3 120 yX3_share cX3_share 3 (some .int) 2 := ⟨⟨w551, w5, ⟨by decide, by decide⟩, by decide +kernel, w548⟩, w549, w550⟩
theorem kX5_96 : WVt RX5 96 yX3_drawOnPots cX3_drawOnPots 4 none 0 := ⟨⟨w571, w5, ⟨by decide, by decide⟩, by decide +kernel, w568⟩, w569, w570⟩
theorem kX5_99 : WVt RX5 99 yX3_spreadCosts cX3_spreadCosts 5 none 0 := ⟨⟨w583, w5, ⟨by decide, by decide⟩, by decide +kernel, w580⟩, w581, w582⟩
theorem kX5_102 : WVt RX5 102 yX3_paidInAll cX3_paidInAll 3 (some .int) 0 := ⟨⟨w591, w5, ⟨by decide, by decide⟩, by decide +kernel, w588⟩, w589, w590⟩
theorem kX5_230 : WVt RX5 230 yX3_share cX3_share 3 (some .int) 2 := ⟨⟨w551, w5, ⟨by decide, by decide⟩, by decide +kernel, w596⟩, w549, w550⟩
theorem kX5_234 : WSt RX5 234 yX5_book cX5_book 3 none 3 := ⟨⟨w599, w1, ⟨by decide, by decide⟩, by decide +kernel, w597⟩, w598⟩
theorem kX5_238 : WVt RX5 238 yX1_pay cX1_pay 4 none 2 := ⟨⟨w610, w21, ⟨by decide, by decide⟩, by decide +kernel, w607⟩, w608, w609⟩
theorem kL_84 : WVt RL 84 yX5_chargeOverhead cX5_chargeOverhead 6 (some .int) 1 := ⟨⟨w618, w1, ⟨by decide, by decide⟩, by decide +kernel, w615⟩, w616, w617⟩
theorem kX5_132 : WVt RX5 132 yX2_room cX2_room 2 (some .int) 0 := ⟨⟨w630, w19, ⟨by decide, by decide⟩, by decide +kernel, w627⟩, w628, w629⟩
theorem kX2_53 : WSt RX2 53 yJ9_min_7cf53 cJ9_min_7cf53 2 (some .int) 2 := ⟨⟨w308, w12, ⟨by decide, by decide⟩, by decide +kernel, w631⟩, w307⟩
theorem kX2_59 : WSt RX2 59 yJ9_max_7cf53 cJ9_max_7cf53 2 (some .int) 2 := ⟨⟨w279, w12, ⟨by decide, by decide⟩, by decide +kernel, w632⟩, w278⟩
theorem kX5_246 : WSt RX5 246 yJ9_min_f86c9 cJ9_min_f86c9 4 (some .long) 2 := ⟨⟨w635, w12, ⟨by decide, by decide⟩, by decide +kernel, w633⟩, w634⟩
theorem kX5_252 : WVt RX5 252 yX2_takeOverhead cX2_takeOverhead 2 none 1 := ⟨⟨w639, w19, ⟨by decide, by decide⟩, by decide +kernel, w636⟩, w637, w638⟩
theorem kL_46 : WVt RL 46 yX5_today cX5_today 1 (some .int) 0 := ⟨⟨w647, w1, ⟨by decide, by decide⟩, by decide +kernel, w644⟩, w645, w646⟩
theorem kL_21 : WVt RL 21 yX5_funds cX5_funds 1 (some .int) 0 := ⟨⟨w651, w1, ⟨by decide, by decide⟩, by decide +kernel, w648⟩, w649, w650⟩
theorem kL_28 : WVt RL 28 yX5_freeOf cX5_freeOf 2 (some .int) 1 := ⟨⟨w655, w1, ⟨by decide, by decide⟩, by decide +kernel, w652⟩, w653, w654⟩
theorem kL_17 : WVt RL 17 yX5_commitments cX5_commitments 1 (some .int) 0 := ⟨⟨w659, w1, ⟨by decide, by decide⟩, by decide +kernel, w656⟩, w657, w658⟩
theorem kL_49 : WVt RL 49 yX5_fundOf cX5_fundOf 2 (some .int) 1 := ⟨⟨w663, w1, ⟨by decide, by decide⟩, by decide +kernel, w660⟩, w661, w662⟩
theorem kL_40 : WVt RL 40 yX5_leftOf cX5_leftOf 2 (some .int) 1 := ⟨⟨w667, w1, ⟨by decide, by decide⟩, by decide +kernel, w664⟩, w665, w666⟩
theorem kL_43 : WVt RL 43 yX5_untilOf cX5_untilOf 2 (some .int) 1 := ⟨⟨w671, w1, ⟨by decide, by decide⟩, by decide +kernel, w668⟩, w669, w670⟩
theorem kL_52 : WVt RL 52 yX5_costs cX5_costs 1 (some .int) 0 := ⟨⟨w675, w1, ⟨by decide, by decide⟩, by decide +kernel, w672⟩, w673, w674⟩
theorem kL_91 : WSt RL 91 yL_low cL_low 2 (some .int) 2 := ⟨⟨w678, w0, ⟨by decide, by decide⟩, by decide +kernel, w676⟩, w677⟩
theorem kL_87 : WSt RL 87 yL_cell cL_cell 2 (some .int) 2 := ⟨⟨w682, w0, ⟨by decide, by decide⟩, by decide +kernel, w680⟩, w681⟩
theorem kL_9 : WVt RL 9 yX5_commit cX5_commit 6 (some .int) 4 := ⟨⟨w691, w1, ⟨by decide, by decide⟩, by decide +kernel, w688⟩, w689, w690⟩
theorem kX5_65 : WVt RX5 65 yX2_allows cX2_allows 2 (some .boolean) 1 := ⟨⟨w486, w19, ⟨by decide, by decide⟩, by decide +kernel, w692⟩, w484, w485⟩
theorem kX5_71 : WIt RX5 71 yX0_init cX0_init 5 4 := ⟨⟨w696, w20, ⟨by decide, by decide⟩, by decide +kernel, w694⟩, rfl, w695⟩
theorem kX0_1 : WIt RX0 1 yX4_init cX4_init 2 1 := ⟨⟨w224, w18, ⟨by decide, by decide⟩, by decide +kernel, w697⟩, rfl, w223⟩
theorem kL_78 : WSt RL 78 yL_accounts cL_accounts 9 (some .boolean) 2 := ⟨⟨w711, w0, ⟨by decide, by decide⟩, by decide +kernel, w709⟩, w710⟩
theorem kL_24 : WVt RL 24 yX5_directOf cX5_directOf 2 (some .int) 1 := ⟨⟨w715, w1, ⟨by decide, by decide⟩, by decide +kernel, w712⟩, w713, w714⟩
theorem kL_31 : WVt RL 31 yX5_committedOf cX5_committedOf 6 (some .int) 1 := ⟨⟨w719, w1, ⟨by decide, by decide⟩, by decide +kernel, w716⟩, w717, w718⟩
theorem kL_34 : WVt RL 34 yX5_overheadOf cX5_overheadOf 2 (some .int) 1 := ⟨⟨w723, w1, ⟨by decide, by decide⟩, by decide +kernel, w720⟩, w721, w722⟩
theorem kL_37 : WVt RL 37 yX5_roomOf cX5_roomOf 2 (some .int) 1 := ⟨⟨w727, w1, ⟨by decide, by decide⟩, by decide +kernel, w724⟩, w725, w726⟩
theorem kL_55 : WVt RL 55 yX5_paidBy cX5_paidBy 4 (some .int) 2 := ⟨⟨w731, w1, ⟨by decide, by decide⟩, by decide +kernel, w728⟩, w729, w730⟩
theorem kX5_148 : WVt RX5 148 yX1_shareOf cX1_shareOf 3 (some .int) 1 := ⟨⟨w740, w21, ⟨by decide, by decide⟩, by decide +kernel, w737⟩, w738, w739⟩
theorem kL_59 : WVt RL 59 yX5_wouldPay cX5_wouldPay 3 (some .int) 1 := ⟨⟨w744, w1, ⟨by decide, by decide⟩, by decide +kernel, w741⟩, w742, w743⟩
theorem kX5_152 : WVt RX5 152 yX3_leftOfCost cX3_leftOfCost 2 (some .int) 1 := ⟨⟨w514, w5, ⟨by decide, by decide⟩, by decide +kernel, w745⟩, w512, w513⟩
theorem kL_62 : WVt RL 62 yX5_unpaidOf cX5_unpaidOf 2 (some .int) 1 := ⟨⟨w749, w1, ⟨by decide, by decide⟩, by decide +kernel, w746⟩, w747, w748⟩
theorem kL_65 : WVt RL 65 yX5_reason cX5_reason 3 (some .int) 1 := ⟨⟨w753, w1, ⟨by decide, by decide⟩, by decide +kernel, w750⟩, w751, w752⟩
theorem kX5_258 : WVt RX5 258 yX2_suits cX2_suits 2 (some .boolean) 1 := ⟨⟨w482, w19, ⟨by decide, by decide⟩, by decide +kernel, w762⟩, w480, w481⟩
theorem kL_68 : WVt RL 68 yX5_wouldTake cX5_wouldTake 6 (some .int) 1 := ⟨⟨w774, w1, ⟨by decide, by decide⟩, by decide +kernel, w771⟩, w772, w773⟩
theorem kX5_159 : WVt RX5 159 yX3_leftOfPot cX3_leftOfPot 2 (some .int) 1 := ⟨⟨w543, w5, ⟨by decide, by decide⟩, by decide +kernel, w775⟩, w541, w542⟩
theorem kL_108 : WSt RL 108 yL_charges cL_charges 9 (some .boolean) 1 := ⟨⟨w778, w0, ⟨by decide, by decide⟩, by decide +kernel, w776⟩, w777⟩
theorem kL_71 : WVt RL 71 yX5_payable cX5_payable 1 (some .int) 0 := ⟨⟨w782, w1, ⟨by decide, by decide⟩, by decide +kernel, w779⟩, w780, w781⟩
