set_option maxRecDepth 20000 in
theorem lk_1_0 : (Jvm.Cond.initialized "PensionHouseLaw") ∈ jw := jt1 (List.mem_of_getElem? (i := 0) (by decide +kernel)) rfl
set_option maxRecDepth 20000 in
theorem lk_1_1 : (Jvm.Cond.initialized "PensionHouse") ∈ jw := jt1 (List.mem_of_getElem? (i := 1) (by decide +kernel)) rfl
set_option maxRecDepth 20000 in
theorem lk_1_2 : (Jvm.Cond.initialized "PensionHouse$Register") ∈ jw := jt1 (List.mem_of_getElem? (i := 2) (by decide +kernel)) rfl
set_option maxRecDepth 20000 in
theorem lk_1_3 : (Jvm.Cond.initialized "PensionHouse$Fact") ∈ jw := jt1 (List.mem_of_getElem? (i := 3) (by decide +kernel)) rfl
set_option maxRecDepth 20000 in
theorem lk_1_4 : (Jvm.Cond.initialized "PensionHouse$Value") ∈ jw := jt1 (List.mem_of_getElem? (i := 4) (by decide +kernel)) rfl
set_option maxRecDepth 20000 in
theorem lk_1_5 : (Jvm.Cond.initialized "PensionHouse$Parser") ∈ jw := jt1 (List.mem_of_getElem? (i := 5) (by decide +kernel)) rfl
set_option maxRecDepth 20000 in
theorem lk_1_6 : (Jvm.Cond.initialized "PensionHouse$Tape") ∈ jw := jt1 (List.mem_of_getElem? (i := 6) (by decide +kernel)) rfl
set_option maxRecDepth 20000 in
theorem lk_1_7 : (Jvm.Cond.initialized "PensionHouse$Text") ∈ jw := jt1 (List.mem_of_getElem? (i := 7) (by decide +kernel)) rfl
set_option maxRecDepth 20000 in
theorem lk_1_8 : (Jvm.Cond.initialized "PensionHouse$Worker") ∈ jw := jt1 (List.mem_of_getElem? (i := 8) (by decide +kernel)) rfl
set_option maxRecDepth 20000 in
theorem lk_1_9 : (Jvm.Cond.initialized "PensionHouse$Case") ∈ jw := jt1 (List.mem_of_getElem? (i := 9) (by decide +kernel)) rfl
set_option maxRecDepth 20000 in
theorem lk_1_10 : (Jvm.Cond.initialized "PensionHouse$Award") ∈ jw := jt1 (List.mem_of_getElem? (i := 10) (by decide +kernel)) rfl
set_option maxRecDepth 20000 in
theorem lk_1_11 : (Jvm.Cond.initialized "PensionHouseModel") ∈ jw := jt1 (List.mem_of_getElem? (i := 11) (by decide +kernel)) rfl
set_option maxRecDepth 20000 in
theorem lk_1_12 : (Jvm.Cond.initialized "java/util/Arrays") ∈ jw := jt1 (List.mem_of_getElem? (i := 12) (by decide +kernel)) rfl
set_option maxRecDepth 20000 in
theorem lk_1_13 : (Jvm.Cond.initialized "PensionHouse$Real") ∈ jw := jt1 (List.mem_of_getElem? (i := 13) (by decide +kernel)) rfl
set_option maxRecDepth 20000 in
theorem lk_1_14 : (Jvm.Cond.initialized "java/lang/String") ∈ jw := jt1 (List.mem_of_getElem? (i := 14) (by decide +kernel)) rfl
set_option maxRecDepth 20000 in
theorem lk_1_15 : (Jvm.Cond.initialized "java/lang/StringLatin1") ∈ jw := jt1 (List.mem_of_getElem? (i := 15) (by decide +kernel)) rfl
set_option maxRecDepth 20000 in
theorem lk_1_16 : (Jvm.Cond.initialized "jdk/internal/util/Preconditions") ∈ jw := jt1 (List.mem_of_getElem? (i := 16) (by decide +kernel)) rfl
set_option maxRecDepth 20000 in
theorem lk_1_17 : (Jvm.Cond.initialized "java/lang/StringUTF16") ∈ jw := jt1 (List.mem_of_getElem? (i := 17) (by decide +kernel)) rfl
set_option maxRecDepth 20000 in
theorem lk_1_18 : (Jvm.Cond.initialized "java/lang/Math") ∈ jw := jt1 (List.mem_of_getElem? (i := 18) (by decide +kernel)) rfl
set_option maxRecDepth 20000 in
theorem lk_1_19 : (Jvm.Cond.initialized "java/lang/Character") ∈ jw := jt1 (List.mem_of_getElem? (i := 19) (by decide +kernel)) rfl
set_option maxRecDepth 20000 in
theorem lk_1_20 : (Jvm.Cond.initialized "java/lang/System") ∈ jw := jt1 (List.mem_of_getElem? (i := 20) (by decide +kernel)) rfl
set_option maxRecDepth 20000 in
theorem lk_1_21 : (Jvm.Cond.initialized "PensionHouse$Ops") ∈ jw := jt1 (List.mem_of_getElem? (i := 21) (by decide +kernel)) rfl
set_option maxRecDepth 20000 in
theorem lk_1_22 : (Jvm.Cond.classLink "PensionHouseLaw" (7 : Nat) "PensionHouse") ∈ jw := jt1 (List.mem_of_getElem? (i := 22) (by decide +kernel)) rfl
set_option maxRecDepth 20000 in
theorem lk_1_23 : (Jvm.Cond.instantiable "PensionHouse" (19 : Nat)) ∈ jw := jt1 (List.mem_of_getElem? (i := 23) (by decide +kernel)) rfl
set_option maxRecDepth 20000 in
theorem lk_1_24 : (Jvm.Cond.methodLink "PensionHouseLaw" (9 : Nat) ({ cls := "PensionHouse", name := "<init>", desc := "()V" } : Jvm.MethodName)) ∈ jw := jt1 (List.mem_of_getElem? (i := 24) (by decide +kernel)) rfl
set_option maxRecDepth 20000 in
theorem lk_1_25 : (Jvm.Cond.instanceMethod ({ cls := "PensionHouse", name := "<init>", desc := "()V" } : Jvm.MethodName)) ∈ jw := jt1 (List.mem_of_getElem? (i := 25) (by decide +kernel)) rfl
set_option maxRecDepth 20000 in
theorem lk_1_26 : (Jvm.Cond.code ({ cls := "PensionHouse", name := "<init>", desc := "()V" } : Jvm.MethodName) prog_1_method_1_code (3 : Nat) (Option.none : Option Jvm.ClassFile.FieldType)) ∈ jw := jt1 (List.mem_of_getElem? (i := 26) (by exact rfl)) rfl
set_option maxRecDepth 20000 in
theorem lk_1_27 : (Jvm.Cond.methodLink "PensionHouse" (5 : Nat) ({ cls := "java/lang/Object", name := "<init>", desc := "()V" } : Jvm.MethodName)) ∈ jw := jt1 (List.mem_of_getElem? (i := 27) (by decide +kernel)) rfl
set_option maxRecDepth 20000 in
theorem lk_1_28 : (Jvm.Cond.instanceMethod ({ cls := "java/lang/Object", name := "<init>", desc := "()V" } : Jvm.MethodName)) ∈ jw := jt1 (List.mem_of_getElem? (i := 28) (by decide +kernel)) rfl
set_option maxRecDepth 20000 in
theorem lk_1_29 : (Jvm.Cond.code ({ cls := "java/lang/Object", name := "<init>", desc := "()V" } : Jvm.MethodName) object_method_1_code (1 : Nat) (Option.none : Option Jvm.ClassFile.FieldType)) ∈ jw := jt1 (List.mem_of_getElem? (i := 29) (by exact rfl)) rfl
set_option maxRecDepth 20000 in
theorem lk_1_30 : (Jvm.Cond.classLink "PensionHouse" (11 : Nat) "PensionHouse$Register") ∈ jw := jt1 (List.mem_of_getElem? (i := 30) (by decide +kernel)) rfl
set_option maxRecDepth 20000 in
theorem lk_1_31 : (Jvm.Cond.instantiable "PensionHouse$Register" (5 : Nat)) ∈ jw := jt1 (List.mem_of_getElem? (i := 31) (by decide +kernel)) rfl
set_option maxRecDepth 20000 in
theorem lk_1_32 : (Jvm.Cond.methodLink "PensionHouse" (13 : Nat) ({ cls := "PensionHouse$Register", name := "<init>", desc := "()V" } : Jvm.MethodName)) ∈ jw := jt1 (List.mem_of_getElem? (i := 32) (by decide +kernel)) rfl
set_option maxRecDepth 20000 in
theorem lk_1_33 : (Jvm.Cond.instanceMethod ({ cls := "PensionHouse$Register", name := "<init>", desc := "()V" } : Jvm.MethodName)) ∈ jw := jt1 (List.mem_of_getElem? (i := 33) (by decide +kernel)) rfl
set_option maxRecDepth 20000 in
theorem lk_1_34 : (Jvm.Cond.code ({ cls := "PensionHouse$Register", name := "<init>", desc := "()V" } : Jvm.MethodName) prog_8_method_1_code (2 : Nat) (Option.none : Option Jvm.ClassFile.FieldType)) ∈ jw := jt1 (List.mem_of_getElem? (i := 34) (by exact rfl)) rfl
set_option maxRecDepth 20000 in
theorem lk_1_35 : (Jvm.Cond.methodLink "PensionHouse$Register" (3 : Nat) ({ cls := "java/lang/Object", name := "<init>", desc := "()V" } : Jvm.MethodName)) ∈ jw := jt1 (List.mem_of_getElem? (i := 35) (by decide +kernel)) rfl
set_option maxRecDepth 20000 in
theorem lk_1_36 : (Jvm.Cond.classLink "PensionHouse$Register" (19 : Nat) "PensionHouse$Fact") ∈ jw := jt1 (List.mem_of_getElem? (i := 36) (by decide +kernel)) rfl
set_option maxRecDepth 20000 in
theorem lk_1_38 : (Jvm.Cond.instantiable "PensionHouse$Fact" (7 : Nat)) ∈ jw := jt1 (List.mem_of_getElem? (i := 38) (by decide +kernel)) rfl
set_option maxRecDepth 20000 in
theorem lk_1_39 : (Jvm.Cond.methodLink "PensionHouse$Register" (25 : Nat) ({ cls := "PensionHouse$Fact", name := "<init>", desc := "()V" } : Jvm.MethodName)) ∈ jw := jt1 (List.mem_of_getElem? (i := 39) (by decide +kernel)) rfl
set_option maxRecDepth 20000 in
theorem lk_1_40 : (Jvm.Cond.instanceMethod ({ cls := "PensionHouse$Fact", name := "<init>", desc := "()V" } : Jvm.MethodName)) ∈ jw := jt1 (List.mem_of_getElem? (i := 40) (by decide +kernel)) rfl
set_option maxRecDepth 20000 in
theorem lk_1_41 : (Jvm.Cond.code ({ cls := "PensionHouse$Fact", name := "<init>", desc := "()V" } : Jvm.MethodName) prog_4_method_1_code (1 : Nat) (Option.none : Option Jvm.ClassFile.FieldType)) ∈ jw := jt1 (List.mem_of_getElem? (i := 41) (by exact rfl)) rfl
set_option maxRecDepth 20000 in
theorem lk_1_42 : (Jvm.Cond.methodLink "PensionHouse$Fact" (3 : Nat) ({ cls := "java/lang/Object", name := "<init>", desc := "()V" } : Jvm.MethodName)) ∈ jw := jt1 (List.mem_of_getElem? (i := 42) (by decide +kernel)) rfl
set_option maxRecDepth 20000 in
theorem lk_1_43 : (Jvm.Cond.classLink "PensionHouse$Fact" (9 : Nat) "PensionHouse$Value") ∈ jw := jt1 (List.mem_of_getElem? (i := 43) (by decide +kernel)) rfl
set_option maxRecDepth 20000 in
theorem lk_1_44 : (Jvm.Cond.instantiable "PensionHouse$Value" (3 : Nat)) ∈ jw := jt1 (List.mem_of_getElem? (i := 44) (by decide +kernel)) rfl
set_option maxRecDepth 20000 in
theorem lk_1_45 : (Jvm.Cond.methodLink "PensionHouse$Fact" (11 : Nat) ({ cls := "PensionHouse$Value", name := "<init>", desc := "()V" } : Jvm.MethodName)) ∈ jw := jt1 (List.mem_of_getElem? (i := 45) (by decide +kernel)) rfl
set_option maxRecDepth 20000 in
theorem lk_1_46 : (Jvm.Cond.instanceMethod ({ cls := "PensionHouse$Value", name := "<init>", desc := "()V" } : Jvm.MethodName)) ∈ jw := jt1 (List.mem_of_getElem? (i := 46) (by decide +kernel)) rfl
set_option maxRecDepth 20000 in
theorem lk_1_47 : (Jvm.Cond.code ({ cls := "PensionHouse$Value", name := "<init>", desc := "()V" } : Jvm.MethodName) prog_11_method_1_code (1 : Nat) (Option.none : Option Jvm.ClassFile.FieldType)) ∈ jw := jt1 (List.mem_of_getElem? (i := 47) (by exact rfl)) rfl
set_option maxRecDepth 20000 in
theorem lk_1_48 : (Jvm.Cond.methodLink "PensionHouse$Value" (3 : Nat) ({ cls := "java/lang/Object", name := "<init>", desc := "()V" } : Jvm.MethodName)) ∈ jw := jt1 (List.mem_of_getElem? (i := 48) (by decide +kernel)) rfl
set_option maxRecDepth 20000 in
theorem lk_1_49 : (Jvm.Cond.fieldLink "PensionHouse$Value" (15 : Nat) "PensionHouse$Value" "sort" "I") ∈ jw := jt1 (List.mem_of_getElem? (i := 49) (by decide +kernel)) rfl
set_option maxRecDepth 20000 in
theorem lk_1_50 : (Jvm.Cond.fieldLink "PensionHouse$Ops" (21 : Nat) "PensionHouse$Value" "sort" "I") ∈ jw := jt1 (List.mem_of_getElem? (i := 50) (by decide +kernel)) rfl
set_option maxRecDepth 20000 in
theorem lk_1_51 : (Jvm.Cond.fieldLink "PensionHouse$Case" (70 : Nat) "PensionHouse$Value" "sort" "I") ∈ jw := jt1 (List.mem_of_getElem? (i := 51) (by decide +kernel)) rfl
set_option maxRecDepth 20000 in
theorem lk_1_52 : (Jvm.Cond.fieldLink "PensionHouse" (136 : Nat) "PensionHouse$Value" "sort" "I") ∈ jw := jt1 (List.mem_of_getElem? (i := 52) (by decide +kernel)) rfl
set_option maxRecDepth 20000 in
theorem lk_1_53 : (Jvm.Cond.fieldLink "PensionHouse$Worker" (220 : Nat) "PensionHouse$Value" "sort" "I") ∈ jw := jt1 (List.mem_of_getElem? (i := 53) (by decide +kernel)) rfl
set_option maxRecDepth 20000 in
theorem lk_1_54 : (Jvm.Cond.fieldLink "PensionHouse$Value" (19 : Nat) "PensionHouse$Value" "size" "I") ∈ jw := jt1 (List.mem_of_getElem? (i := 54) (by decide +kernel)) rfl
set_option maxRecDepth 20000 in
theorem lk_1_55 : (Jvm.Cond.fieldLink "PensionHouse" (143 : Nat) "PensionHouse$Value" "size" "I") ∈ jw := jt1 (List.mem_of_getElem? (i := 55) (by decide +kernel)) rfl
set_option maxRecDepth 20000 in
theorem lk_1_56 : (Jvm.Cond.fieldLink "PensionHouse$Ops" (106 : Nat) "PensionHouse$Value" "size" "I") ∈ jw := jt1 (List.mem_of_getElem? (i := 56) (by decide +kernel)) rfl
set_option maxRecDepth 20000 in
theorem lk_1_57 : (Jvm.Cond.fieldLink "PensionHouse$Value" (11 : Nat) "PensionHouse$Value" "bits" "[J") ∈ jw := jt1 (List.mem_of_getElem? (i := 57) (by decide +kernel)) rfl
set_option maxRecDepth 20000 in
theorem lk_1_58 : (Jvm.Cond.fieldLink "PensionHouse$Ops" (17 : Nat) "PensionHouse$Value" "bits" "[J") ∈ jw := jt1 (List.mem_of_getElem? (i := 58) (by decide +kernel)) rfl
set_option maxRecDepth 20000 in
theorem lk_1_59 : (Jvm.Cond.fieldLink "PensionHouse$Case" (75 : Nat) "PensionHouse$Value" "bits" "[J") ∈ jw := jt1 (List.mem_of_getElem? (i := 59) (by decide +kernel)) rfl
set_option maxRecDepth 20000 in
theorem lk_1_60 : (Jvm.Cond.fieldLink "PensionHouse" (147 : Nat) "PensionHouse$Value" "bits" "[J") ∈ jw := jt1 (List.mem_of_getElem? (i := 60) (by decide +kernel)) rfl
set_option maxRecDepth 20000 in
theorem lk_1_61 : (Jvm.Cond.fieldLink "PensionHouse$Worker" (223 : Nat) "PensionHouse$Value" "bits" "[J") ∈ jw := jt1 (List.mem_of_getElem? (i := 61) (by decide +kernel)) rfl
set_option maxRecDepth 20000 in
theorem lk_1_62 : (Jvm.Cond.lays "PensionHouse$Value" "PensionHouse$Value" "sort" "I") ∈ jw := jt1 (List.mem_of_getElem? (i := 62) (by decide +kernel)) rfl
set_option maxRecDepth 20000 in
theorem lk_1_64 : (Jvm.Cond.lays "PensionHouse$Value" "PensionHouse$Value" "size" "I") ∈ jw := jt1 (List.mem_of_getElem? (i := 64) (by decide +kernel)) rfl
set_option maxRecDepth 20000 in
theorem lk_1_66 : (Jvm.Cond.laysFinal "PensionHouse$Value" "PensionHouse$Value" "bits" "[J") ∈ jw := jt1 (List.mem_of_getElem? (i := 66) (by decide +kernel)) rfl
set_option maxRecDepth 20000 in
theorem lk_1_69 : (Jvm.Cond.arrayClass Jvm.ClassFile.FieldType.boolean) ∈ jw := jt1 (List.mem_of_getElem? (i := 69) (by decide +kernel)) rfl
set_option maxRecDepth 20000 in
theorem lk_1_70 : (Jvm.Cond.arrayClass Jvm.ClassFile.FieldType.int) ∈ jw := jt1 (List.mem_of_getElem? (i := 70) (by decide +kernel)) rfl
set_option maxRecDepth 20000 in
theorem lk_1_71 : (Jvm.Cond.arrayClass Jvm.ClassFile.FieldType.long) ∈ jw := jt1 (List.mem_of_getElem? (i := 71) (by decide +kernel)) rfl
set_option maxRecDepth 20000 in
theorem lk_1_72 : (Jvm.Cond.fieldLink "PensionHouse$Register" (39 : Nat) "PensionHouse$Fact" "member" "I") ∈ jw := jt1 (List.mem_of_getElem? (i := 72) (by decide +kernel)) rfl
set_option maxRecDepth 20000 in
theorem lk_1_73 : (Jvm.Cond.fieldLink "PensionHouse" (165 : Nat) "PensionHouse$Fact" "member" "I") ∈ jw := jt1 (List.mem_of_getElem? (i := 73) (by decide +kernel)) rfl
set_option maxRecDepth 20000 in
theorem lk_1_74 : (Jvm.Cond.fieldLink "PensionHouse$Register" (42 : Nat) "PensionHouse$Fact" "name" "J") ∈ jw := jt1 (List.mem_of_getElem? (i := 74) (by decide +kernel)) rfl
set_option maxRecDepth 20000 in
theorem lk_1_75 : (Jvm.Cond.fieldLink "PensionHouse" (170 : Nat) "PensionHouse$Fact" "name" "J") ∈ jw := jt1 (List.mem_of_getElem? (i := 75) (by decide +kernel)) rfl
set_option maxRecDepth 20000 in
theorem lk_1_76 : (Jvm.Cond.fieldLink "PensionHouse$Fact" (25 : Nat) "PensionHouse$Fact" "from" "I") ∈ jw := jt1 (List.mem_of_getElem? (i := 76) (by decide +kernel)) rfl
set_option maxRecDepth 20000 in
theorem lk_1_77 : (Jvm.Cond.fieldLink "PensionHouse" (174 : Nat) "PensionHouse$Fact" "from" "I") ∈ jw := jt1 (List.mem_of_getElem? (i := 77) (by decide +kernel)) rfl
set_option maxRecDepth 20000 in
theorem lk_1_78 : (Jvm.Cond.fieldLink "PensionHouse$Fact" (28 : Nat) "PensionHouse$Fact" "to" "I") ∈ jw := jt1 (List.mem_of_getElem? (i := 78) (by decide +kernel)) rfl
set_option maxRecDepth 20000 in
theorem lk_1_79 : (Jvm.Cond.fieldLink "PensionHouse" (177 : Nat) "PensionHouse$Fact" "to" "I") ∈ jw := jt1 (List.mem_of_getElem? (i := 79) (by decide +kernel)) rfl
set_option maxRecDepth 20000 in
theorem lk_1_80 : (Jvm.Cond.fieldLink "PensionHouse$Fact" (22 : Nat) "PensionHouse$Fact" "toldOn" "I") ∈ jw := jt1 (List.mem_of_getElem? (i := 80) (by decide +kernel)) rfl
set_option maxRecDepth 20000 in
theorem lk_1_81 : (Jvm.Cond.fieldLink "PensionHouse" (180 : Nat) "PensionHouse$Fact" "toldOn" "I") ∈ jw := jt1 (List.mem_of_getElem? (i := 81) (by decide +kernel)) rfl
set_option maxRecDepth 20000 in
theorem lk_1_82 : (Jvm.Cond.fieldLink "PensionHouse$Fact" (18 : Nat) "PensionHouse$Fact" "voidFrom" "I") ∈ jw := jt1 (List.mem_of_getElem? (i := 82) (by decide +kernel)) rfl
set_option maxRecDepth 20000 in
theorem lk_1_83 : (Jvm.Cond.fieldLink "PensionHouse" (183 : Nat) "PensionHouse$Fact" "voidFrom" "I") ∈ jw := jt1 (List.mem_of_getElem? (i := 83) (by decide +kernel)) rfl
set_option maxRecDepth 20000 in
theorem lk_1_84 : (Jvm.Cond.fieldLink "PensionHouse$Fact" (12 : Nat) "PensionHouse$Fact" "value" "LPensionHouse$Value;") ∈ jw := jt1 (List.mem_of_getElem? (i := 84) (by decide +kernel)) rfl
set_option maxRecDepth 20000 in
theorem lk_1_85 : (Jvm.Cond.fieldLink "PensionHouse" (186 : Nat) "PensionHouse$Fact" "value" "LPensionHouse$Value;") ∈ jw := jt1 (List.mem_of_getElem? (i := 85) (by decide +kernel)) rfl
set_option maxRecDepth 20000 in
theorem lk_1_86 : (Jvm.Cond.fieldLink "PensionHouse$Worker" (190 : Nat) "PensionHouse$Fact" "value" "LPensionHouse$Value;") ∈ jw := jt1 (List.mem_of_getElem? (i := 86) (by decide +kernel)) rfl
set_option maxRecDepth 20000 in
theorem lk_1_87 : (Jvm.Cond.lays "PensionHouse$Fact" "PensionHouse$Fact" "member" "I") ∈ jw := jt1 (List.mem_of_getElem? (i := 87) (by decide +kernel)) rfl
set_option maxRecDepth 20000 in
theorem lk_1_89 : (Jvm.Cond.lays "PensionHouse$Fact" "PensionHouse$Fact" "name" "J") ∈ jw := jt1 (List.mem_of_getElem? (i := 89) (by decide +kernel)) rfl
set_option maxRecDepth 20000 in
theorem lk_1_91 : (Jvm.Cond.lays "PensionHouse$Fact" "PensionHouse$Fact" "from" "I") ∈ jw := jt1 (List.mem_of_getElem? (i := 91) (by decide +kernel)) rfl
set_option maxRecDepth 20000 in
theorem lk_1_93 : (Jvm.Cond.lays "PensionHouse$Fact" "PensionHouse$Fact" "to" "I") ∈ jw := jt1 (List.mem_of_getElem? (i := 93) (by decide +kernel)) rfl
set_option maxRecDepth 20000 in
theorem lk_1_95 : (Jvm.Cond.lays "PensionHouse$Fact" "PensionHouse$Fact" "toldOn" "I") ∈ jw := jt1 (List.mem_of_getElem? (i := 95) (by decide +kernel)) rfl
set_option maxRecDepth 20000 in
theorem lk_1_97 : (Jvm.Cond.lays "PensionHouse$Fact" "PensionHouse$Fact" "voidFrom" "I") ∈ jw := jt1 (List.mem_of_getElem? (i := 97) (by decide +kernel)) rfl
set_option maxRecDepth 20000 in
theorem lk_1_99 : (Jvm.Cond.laysFinal "PensionHouse$Fact" "PensionHouse$Fact" "value" "LPensionHouse$Value;") ∈ jw := jt1 (List.mem_of_getElem? (i := 99) (by decide +kernel)) rfl
set_option maxRecDepth 20000 in
theorem lk_1_102 : (Jvm.Cond.fieldLink "PensionHouse$Register" (26 : Nat) "PensionHouse$Register" "persons" "I") ∈ jw := jt1 (List.mem_of_getElem? (i := 102) (by decide +kernel)) rfl
set_option maxRecDepth 20000 in
theorem lk_1_103 : (Jvm.Cond.fieldLink "PensionHouse" (324 : Nat) "PensionHouse$Register" "persons" "I") ∈ jw := jt1 (List.mem_of_getElem? (i := 103) (by decide +kernel)) rfl
set_option maxRecDepth 20000 in
theorem lk_1_104 : (Jvm.Cond.fieldLink "PensionHouse$Register" (11 : Nat) "PensionHouse$Register" "isChild" "[Z") ∈ jw := jt1 (List.mem_of_getElem? (i := 104) (by decide +kernel)) rfl
set_option maxRecDepth 20000 in
theorem lk_1_105 : (Jvm.Cond.fieldLink "PensionHouse$Register" (15 : Nat) "PensionHouse$Register" "births" "[I") ∈ jw := jt1 (List.mem_of_getElem? (i := 105) (by decide +kernel)) rfl
set_option maxRecDepth 20000 in
theorem lk_1_106 : (Jvm.Cond.fieldLink "PensionHouse$Ops" (102 : Nat) "PensionHouse$Register" "births" "[I") ∈ jw := jt1 (List.mem_of_getElem? (i := 106) (by decide +kernel)) rfl
set_option maxRecDepth 20000 in
theorem lk_1_107 : (Jvm.Cond.fieldLink "PensionHouse$Register" (36 : Nat) "PensionHouse$Register" "facts" "I") ∈ jw := jt1 (List.mem_of_getElem? (i := 107) (by decide +kernel)) rfl
set_option maxRecDepth 20000 in
theorem lk_1_108 : (Jvm.Cond.fieldLink "PensionHouse" (158 : Nat) "PensionHouse$Register" "facts" "I") ∈ jw := jt1 (List.mem_of_getElem? (i := 108) (by decide +kernel)) rfl
set_option maxRecDepth 20000 in
theorem lk_1_109 : (Jvm.Cond.fieldLink "PensionHouse$Register" (21 : Nat) "PensionHouse$Register" "book" "[LPensionHouse$Fact;") ∈ jw := jt1 (List.mem_of_getElem? (i := 109) (by decide +kernel)) rfl
set_option maxRecDepth 20000 in
theorem lk_1_110 : (Jvm.Cond.fieldLink "PensionHouse" (161 : Nat) "PensionHouse$Register" "book" "[LPensionHouse$Fact;") ∈ jw := jt1 (List.mem_of_getElem? (i := 110) (by decide +kernel)) rfl
set_option maxRecDepth 20000 in
theorem lk_1_111 : (Jvm.Cond.fieldLink "PensionHouse$Worker" (186 : Nat) "PensionHouse$Register" "book" "[LPensionHouse$Fact;") ∈ jw := jt1 (List.mem_of_getElem? (i := 111) (by decide +kernel)) rfl
set_option maxRecDepth 20000 in
theorem lk_1_112 : (Jvm.Cond.lays "PensionHouse$Register" "PensionHouse$Register" "persons" "I") ∈ jw := jt1 (List.mem_of_getElem? (i := 112) (by decide +kernel)) rfl
set_option maxRecDepth 20000 in
theorem lk_1_114 : (Jvm.Cond.laysFinal "PensionHouse$Register" "PensionHouse$Register" "isChild" "[Z") ∈ jw := jt1 (List.mem_of_getElem? (i := 114) (by decide +kernel)) rfl
set_option maxRecDepth 20000 in
theorem lk_1_116 : (Jvm.Cond.laysFinal "PensionHouse$Register" "PensionHouse$Register" "births" "[I") ∈ jw := jt1 (List.mem_of_getElem? (i := 116) (by decide +kernel)) rfl
set_option maxRecDepth 20000 in
theorem lk_1_118 : (Jvm.Cond.lays "PensionHouse$Register" "PensionHouse$Register" "facts" "I") ∈ jw := jt1 (List.mem_of_getElem? (i := 118) (by decide +kernel)) rfl
set_option maxRecDepth 20000 in
theorem lk_1_120 : (Jvm.Cond.laysFinal "PensionHouse$Register" "PensionHouse$Register" "book" "[LPensionHouse$Fact;") ∈ jw := jt1 (List.mem_of_getElem? (i := 120) (by decide +kernel)) rfl
set_option maxRecDepth 20000 in
theorem lk_1_123 : (Jvm.Cond.classLink "PensionHouse" (18 : Nat) "PensionHouse$Value") ∈ jw := jt1 (List.mem_of_getElem? (i := 123) (by decide +kernel)) rfl
set_option maxRecDepth 20000 in
theorem lk_1_124 : (Jvm.Cond.methodLink "PensionHouse" (20 : Nat) ({ cls := "PensionHouse$Value", name := "<init>", desc := "()V" } : Jvm.MethodName)) ∈ jw := jt1 (List.mem_of_getElem? (i := 124) (by decide +kernel)) rfl
set_option maxRecDepth 20000 in
theorem lk_1_125 : (Jvm.Cond.classLink "PensionHouse" (25 : Nat) "PensionHouse$Parser") ∈ jw := jt1 (List.mem_of_getElem? (i := 125) (by decide +kernel)) rfl
set_option maxRecDepth 20000 in
theorem lk_1_126 : (Jvm.Cond.instantiable "PensionHouse$Parser" (7 : Nat)) ∈ jw := jt1 (List.mem_of_getElem? (i := 126) (by decide +kernel)) rfl
set_option maxRecDepth 20000 in
theorem lk_1_127 : (Jvm.Cond.methodLink "PensionHouse" (27 : Nat) ({ cls := "PensionHouse$Parser", name := "<init>", desc := "()V" } : Jvm.MethodName)) ∈ jw := jt1 (List.mem_of_getElem? (i := 127) (by decide +kernel)) rfl
set_option maxRecDepth 20000 in
theorem lk_1_128 : (Jvm.Cond.instanceMethod ({ cls := "PensionHouse$Parser", name := "<init>", desc := "()V" } : Jvm.MethodName)) ∈ jw := jt1 (List.mem_of_getElem? (i := 128) (by decide +kernel)) rfl
set_option maxRecDepth 20000 in
theorem lk_1_129 : (Jvm.Cond.code ({ cls := "PensionHouse$Parser", name := "<init>", desc := "()V" } : Jvm.MethodName) prog_6_method_1_code (1 : Nat) (Option.none : Option Jvm.ClassFile.FieldType)) ∈ jw := jt1 (List.mem_of_getElem? (i := 129) (by exact rfl)) rfl
set_option maxRecDepth 20000 in
theorem lk_1_130 : (Jvm.Cond.methodLink "PensionHouse$Parser" (3 : Nat) ({ cls := "java/lang/Object", name := "<init>", desc := "()V" } : Jvm.MethodName)) ∈ jw := jt1 (List.mem_of_getElem? (i := 130) (by decide +kernel)) rfl
set_option maxRecDepth 20000 in
theorem lk_1_131 : (Jvm.Cond.classLink "PensionHouse$Parser" (9 : Nat) "PensionHouse$Tape") ∈ jw := jt1 (List.mem_of_getElem? (i := 131) (by decide +kernel)) rfl
set_option maxRecDepth 20000 in
theorem lk_1_132 : (Jvm.Cond.instantiable "PensionHouse$Tape" (8 : Nat)) ∈ jw := jt1 (List.mem_of_getElem? (i := 132) (by decide +kernel)) rfl
set_option maxRecDepth 20000 in
theorem lk_1_133 : (Jvm.Cond.methodLink "PensionHouse$Parser" (11 : Nat) ({ cls := "PensionHouse$Tape", name := "<init>", desc := "()V" } : Jvm.MethodName)) ∈ jw := jt1 (List.mem_of_getElem? (i := 133) (by decide +kernel)) rfl
set_option maxRecDepth 20000 in
theorem lk_1_134 : (Jvm.Cond.instanceMethod ({ cls := "PensionHouse$Tape", name := "<init>", desc := "()V" } : Jvm.MethodName)) ∈ jw := jt1 (List.mem_of_getElem? (i := 134) (by decide +kernel)) rfl
set_option maxRecDepth 20000 in
theorem lk_1_135 : (Jvm.Cond.code ({ cls := "PensionHouse$Tape", name := "<init>", desc := "()V" } : Jvm.MethodName) prog_9_method_1_code (1 : Nat) (Option.none : Option Jvm.ClassFile.FieldType)) ∈ jw := jt1 (List.mem_of_getElem? (i := 135) (by exact rfl)) rfl
set_option maxRecDepth 20000 in
theorem lk_1_136 : (Jvm.Cond.methodLink "PensionHouse$Tape" (1 : Nat) ({ cls := "java/lang/Object", name := "<init>", desc := "()V" } : Jvm.MethodName)) ∈ jw := jt1 (List.mem_of_getElem? (i := 136) (by decide +kernel)) rfl
set_option maxRecDepth 20000 in
theorem lk_1_137 : (Jvm.Cond.fieldLink "PensionHouse$Tape" (9 : Nat) "PensionHouse$Tape" "bytes" "[B") ∈ jw := jt1 (List.mem_of_getElem? (i := 137) (by decide +kernel)) rfl
set_option maxRecDepth 20000 in
theorem lk_1_138 : (Jvm.Cond.fieldLink "PensionHouse$Tape" (13 : Nat) "PensionHouse$Tape" "size" "I") ∈ jw := jt1 (List.mem_of_getElem? (i := 138) (by decide +kernel)) rfl
set_option maxRecDepth 20000 in
theorem lk_1_139 : (Jvm.Cond.fieldLink "PensionHouse" (87 : Nat) "PensionHouse$Tape" "size" "I") ∈ jw := jt1 (List.mem_of_getElem? (i := 139) (by decide +kernel)) rfl
set_option maxRecDepth 20000 in
theorem lk_1_140 : (Jvm.Cond.fieldLink "PensionHouse$Tape" (17 : Nat) "PensionHouse$Tape" "end" "I") ∈ jw := jt1 (List.mem_of_getElem? (i := 140) (by decide +kernel)) rfl
set_option maxRecDepth 20000 in
theorem lk_1_141 : (Jvm.Cond.fieldLink "PensionHouse$Tape" (20 : Nat) "PensionHouse$Tape" "at" "I") ∈ jw := jt1 (List.mem_of_getElem? (i := 141) (by decide +kernel)) rfl
set_option maxRecDepth 20000 in
theorem lk_1_142 : (Jvm.Cond.fieldLink "PensionHouse$Parser" (49 : Nat) "PensionHouse$Tape" "token" "I") ∈ jw := jt1 (List.mem_of_getElem? (i := 142) (by decide +kernel)) rfl
set_option maxRecDepth 20000 in
theorem lk_1_143 : (Jvm.Cond.fieldLink "PensionHouse$Tape" (29 : Nat) "PensionHouse$Tape" "token" "I") ∈ jw := jt1 (List.mem_of_getElem? (i := 143) (by decide +kernel)) rfl
set_option maxRecDepth 20000 in
theorem lk_1_144 : (Jvm.Cond.fieldLink "PensionHouse$Parser" (78 : Nat) "PensionHouse$Tape" "place" "I") ∈ jw := jt1 (List.mem_of_getElem? (i := 144) (by decide +kernel)) rfl
set_option maxRecDepth 20000 in
theorem lk_1_145 : (Jvm.Cond.fieldLink "PensionHouse$Tape" (40 : Nat) "PensionHouse$Tape" "place" "I") ∈ jw := jt1 (List.mem_of_getElem? (i := 145) (by decide +kernel)) rfl
set_option maxRecDepth 20000 in
theorem lk_1_146 : (Jvm.Cond.fieldLink "PensionHouse$Parser" (62 : Nat) "PensionHouse$Tape" "content" "J") ∈ jw := jt1 (List.mem_of_getElem? (i := 146) (by decide +kernel)) rfl
set_option maxRecDepth 20000 in
theorem lk_1_147 : (Jvm.Cond.fieldLink "PensionHouse$Tape" (32 : Nat) "PensionHouse$Tape" "content" "J") ∈ jw := jt1 (List.mem_of_getElem? (i := 147) (by decide +kernel)) rfl
set_option maxRecDepth 20000 in
theorem lk_1_148 : (Jvm.Cond.fieldLink "PensionHouse$Tape" (76 : Nat) "PensionHouse$Tape" "decimals" "I") ∈ jw := jt1 (List.mem_of_getElem? (i := 148) (by decide +kernel)) rfl
set_option maxRecDepth 20000 in
theorem lk_1_149 : (Jvm.Cond.fieldLink "PensionHouse$Parser" (125 : Nat) "PensionHouse$Tape" "decimals" "I") ∈ jw := jt1 (List.mem_of_getElem? (i := 149) (by decide +kernel)) rfl
set_option maxRecDepth 20000 in
theorem lk_1_150 : (Jvm.Cond.laysFinal "PensionHouse$Tape" "PensionHouse$Tape" "bytes" "[B") ∈ jw := jt1 (List.mem_of_getElem? (i := 150) (by decide +kernel)) rfl
set_option maxRecDepth 20000 in
theorem lk_1_152 : (Jvm.Cond.lays "PensionHouse$Tape" "PensionHouse$Tape" "size" "I") ∈ jw := jt1 (List.mem_of_getElem? (i := 152) (by decide +kernel)) rfl
set_option maxRecDepth 20000 in
theorem lk_1_154 : (Jvm.Cond.lays "PensionHouse$Tape" "PensionHouse$Tape" "end" "I") ∈ jw := jt1 (List.mem_of_getElem? (i := 154) (by decide +kernel)) rfl
set_option maxRecDepth 20000 in
theorem lk_1_156 : (Jvm.Cond.lays "PensionHouse$Tape" "PensionHouse$Tape" "at" "I") ∈ jw := jt1 (List.mem_of_getElem? (i := 156) (by decide +kernel)) rfl
set_option maxRecDepth 20000 in
theorem lk_1_158 : (Jvm.Cond.lays "PensionHouse$Tape" "PensionHouse$Tape" "token" "I") ∈ jw := jt1 (List.mem_of_getElem? (i := 158) (by decide +kernel)) rfl
set_option maxRecDepth 20000 in
theorem lk_1_160 : (Jvm.Cond.lays "PensionHouse$Tape" "PensionHouse$Tape" "place" "I") ∈ jw := jt1 (List.mem_of_getElem? (i := 160) (by decide +kernel)) rfl
set_option maxRecDepth 20000 in
theorem lk_1_162 : (Jvm.Cond.lays "PensionHouse$Tape" "PensionHouse$Tape" "content" "J") ∈ jw := jt1 (List.mem_of_getElem? (i := 162) (by decide +kernel)) rfl
set_option maxRecDepth 20000 in
theorem lk_1_164 : (Jvm.Cond.lays "PensionHouse$Tape" "PensionHouse$Tape" "decimals" "I") ∈ jw := jt1 (List.mem_of_getElem? (i := 164) (by decide +kernel)) rfl
set_option maxRecDepth 20000 in
theorem lk_1_167 : (Jvm.Cond.arrayClass Jvm.ClassFile.FieldType.byte) ∈ jw := jt1 (List.mem_of_getElem? (i := 167) (by decide +kernel)) rfl
set_option maxRecDepth 20000 in
theorem lk_1_168 : (Jvm.Cond.classLink "PensionHouse$Parser" (18 : Nat) "PensionHouse$Text") ∈ jw := jt1 (List.mem_of_getElem? (i := 168) (by decide +kernel)) rfl
set_option maxRecDepth 20000 in
theorem lk_1_169 : (Jvm.Cond.instantiable "PensionHouse$Text" (8 : Nat)) ∈ jw := jt1 (List.mem_of_getElem? (i := 169) (by decide +kernel)) rfl
set_option maxRecDepth 20000 in
theorem lk_1_170 : (Jvm.Cond.methodLink "PensionHouse$Parser" (20 : Nat) ({ cls := "PensionHouse$Text", name := "<init>", desc := "()V" } : Jvm.MethodName)) ∈ jw := jt1 (List.mem_of_getElem? (i := 170) (by decide +kernel)) rfl
set_option maxRecDepth 20000 in
theorem lk_1_171 : (Jvm.Cond.instanceMethod ({ cls := "PensionHouse$Text", name := "<init>", desc := "()V" } : Jvm.MethodName)) ∈ jw := jt1 (List.mem_of_getElem? (i := 171) (by decide +kernel)) rfl
set_option maxRecDepth 20000 in
theorem lk_1_172 : (Jvm.Cond.code ({ cls := "PensionHouse$Text", name := "<init>", desc := "()V" } : Jvm.MethodName) prog_10_method_1_code (1 : Nat) (Option.none : Option Jvm.ClassFile.FieldType)) ∈ jw := jt1 (List.mem_of_getElem? (i := 172) (by exact rfl)) rfl
set_option maxRecDepth 20000 in
theorem lk_1_173 : (Jvm.Cond.methodLink "PensionHouse$Text" (3 : Nat) ({ cls := "java/lang/Object", name := "<init>", desc := "()V" } : Jvm.MethodName)) ∈ jw := jt1 (List.mem_of_getElem? (i := 173) (by decide +kernel)) rfl
set_option maxRecDepth 20000 in
theorem lk_1_174 : (Jvm.Cond.fieldLink "PensionHouse$Text" (9 : Nat) "PensionHouse$Text" "first" "I") ∈ jw := jt1 (List.mem_of_getElem? (i := 174) (by decide +kernel)) rfl
set_option maxRecDepth 20000 in
theorem lk_1_175 : (Jvm.Cond.fieldLink "PensionHouse" (223 : Nat) "PensionHouse$Text" "first" "I") ∈ jw := jt1 (List.mem_of_getElem? (i := 175) (by decide +kernel)) rfl
set_option maxRecDepth 20000 in
theorem lk_1_176 : (Jvm.Cond.fieldLink "PensionHouse$Text" (32 : Nat) "PensionHouse$Text" "parts" "I") ∈ jw := jt1 (List.mem_of_getElem? (i := 176) (by decide +kernel)) rfl
set_option maxRecDepth 20000 in
theorem lk_1_177 : (Jvm.Cond.fieldLink "PensionHouse$Worker" (155 : Nat) "PensionHouse$Text" "parts" "I") ∈ jw := jt1 (List.mem_of_getElem? (i := 177) (by decide +kernel)) rfl
set_option maxRecDepth 20000 in
theorem lk_1_178 : (Jvm.Cond.fieldLink "PensionHouse$Text" (15 : Nat) "PensionHouse$Text" "kinds" "[I") ∈ jw := jt1 (List.mem_of_getElem? (i := 178) (by decide +kernel)) rfl
set_option maxRecDepth 20000 in
theorem lk_1_179 : (Jvm.Cond.fieldLink "PensionHouse$Worker" (98 : Nat) "PensionHouse$Text" "kinds" "[I") ∈ jw := jt1 (List.mem_of_getElem? (i := 179) (by decide +kernel)) rfl
set_option maxRecDepth 20000 in
theorem lk_1_180 : (Jvm.Cond.fieldLink "PensionHouse$Text" (19 : Nat) "PensionHouse$Text" "contents" "[J") ∈ jw := jt1 (List.mem_of_getElem? (i := 180) (by decide +kernel)) rfl
set_option maxRecDepth 20000 in
theorem lk_1_181 : (Jvm.Cond.fieldLink "PensionHouse$Worker" (109 : Nat) "PensionHouse$Text" "contents" "[J") ∈ jw := jt1 (List.mem_of_getElem? (i := 181) (by decide +kernel)) rfl
set_option maxRecDepth 20000 in
theorem lk_1_182 : (Jvm.Cond.fieldLink "PensionHouse$Text" (23 : Nat) "PensionHouse$Text" "inners" "[I") ∈ jw := jt1 (List.mem_of_getElem? (i := 182) (by decide +kernel)) rfl
set_option maxRecDepth 20000 in
theorem lk_1_183 : (Jvm.Cond.fieldLink "PensionHouse$Text" (35 : Nat) "PensionHouse$Text" "rules" "I") ∈ jw := jt1 (List.mem_of_getElem? (i := 183) (by decide +kernel)) rfl
set_option maxRecDepth 20000 in
theorem lk_1_184 : (Jvm.Cond.fieldLink "PensionHouse$Parser" (52 : Nat) "PensionHouse$Text" "rules" "I") ∈ jw := jt1 (List.mem_of_getElem? (i := 184) (by decide +kernel)) rfl
set_option maxRecDepth 20000 in
theorem lk_1_185 : (Jvm.Cond.fieldLink "PensionHouse$Worker" (200 : Nat) "PensionHouse$Text" "rules" "I") ∈ jw := jt1 (List.mem_of_getElem? (i := 185) (by decide +kernel)) rfl
set_option maxRecDepth 20000 in
theorem lk_1_186 : (Jvm.Cond.fieldLink "PensionHouse" (226 : Nat) "PensionHouse$Text" "rules" "I") ∈ jw := jt1 (List.mem_of_getElem? (i := 186) (by decide +kernel)) rfl
set_option maxRecDepth 20000 in
theorem lk_1_187 : (Jvm.Cond.fieldLink "PensionHouse$Text" (26 : Nat) "PensionHouse$Text" "names" "[J") ∈ jw := jt1 (List.mem_of_getElem? (i := 187) (by decide +kernel)) rfl
set_option maxRecDepth 20000 in
theorem lk_1_188 : (Jvm.Cond.fieldLink "PensionHouse$Text" (29 : Nat) "PensionHouse$Text" "roots" "[I") ∈ jw := jt1 (List.mem_of_getElem? (i := 188) (by decide +kernel)) rfl
set_option maxRecDepth 20000 in
theorem lk_1_189 : (Jvm.Cond.fieldLink "PensionHouse$Worker" (80 : Nat) "PensionHouse$Text" "roots" "[I") ∈ jw := jt1 (List.mem_of_getElem? (i := 189) (by decide +kernel)) rfl
set_option maxRecDepth 20000 in
theorem lk_1_190 : (Jvm.Cond.lays "PensionHouse$Text" "PensionHouse$Text" "first" "I") ∈ jw := jt1 (List.mem_of_getElem? (i := 190) (by decide +kernel)) rfl
set_option maxRecDepth 20000 in
theorem lk_1_192 : (Jvm.Cond.lays "PensionHouse$Text" "PensionHouse$Text" "parts" "I") ∈ jw := jt1 (List.mem_of_getElem? (i := 192) (by decide +kernel)) rfl
set_option maxRecDepth 20000 in
theorem lk_1_194 : (Jvm.Cond.laysFinal "PensionHouse$Text" "PensionHouse$Text" "kinds" "[I") ∈ jw := jt1 (List.mem_of_getElem? (i := 194) (by decide +kernel)) rfl
set_option maxRecDepth 20000 in
theorem lk_1_196 : (Jvm.Cond.laysFinal "PensionHouse$Text" "PensionHouse$Text" "contents" "[J") ∈ jw := jt1 (List.mem_of_getElem? (i := 196) (by decide +kernel)) rfl
set_option maxRecDepth 20000 in
theorem lk_1_198 : (Jvm.Cond.laysFinal "PensionHouse$Text" "PensionHouse$Text" "inners" "[I") ∈ jw := jt1 (List.mem_of_getElem? (i := 198) (by decide +kernel)) rfl
set_option maxRecDepth 20000 in
theorem lk_1_200 : (Jvm.Cond.lays "PensionHouse$Text" "PensionHouse$Text" "rules" "I") ∈ jw := jt1 (List.mem_of_getElem? (i := 200) (by decide +kernel)) rfl
set_option maxRecDepth 20000 in
theorem lk_1_202 : (Jvm.Cond.laysFinal "PensionHouse$Text" "PensionHouse$Text" "names" "[J") ∈ jw := jt1 (List.mem_of_getElem? (i := 202) (by decide +kernel)) rfl
set_option maxRecDepth 20000 in
theorem lk_1_204 : (Jvm.Cond.laysFinal "PensionHouse$Text" "PensionHouse$Text" "roots" "[I") ∈ jw := jt1 (List.mem_of_getElem? (i := 204) (by decide +kernel)) rfl
set_option maxRecDepth 20000 in
theorem lk_1_207 : (Jvm.Cond.fieldLink "PensionHouse$Parser" (12 : Nat) "PensionHouse$Parser" "tape" "LPensionHouse$Tape;") ∈ jw := jt1 (List.mem_of_getElem? (i := 207) (by decide +kernel)) rfl
set_option maxRecDepth 20000 in
theorem lk_1_208 : (Jvm.Cond.fieldLink "PensionHouse" (32 : Nat) "PensionHouse$Parser" "tape" "LPensionHouse$Tape;") ∈ jw := jt1 (List.mem_of_getElem? (i := 208) (by decide +kernel)) rfl
set_option maxRecDepth 20000 in
theorem lk_1_209 : (Jvm.Cond.fieldLink "PensionHouse$Parser" (21 : Nat) "PensionHouse$Parser" "text" "LPensionHouse$Text;") ∈ jw := jt1 (List.mem_of_getElem? (i := 209) (by decide +kernel)) rfl
set_option maxRecDepth 20000 in
theorem lk_1_210 : (Jvm.Cond.fieldLink "PensionHouse" (219 : Nat) "PensionHouse$Parser" "text" "LPensionHouse$Text;") ∈ jw := jt1 (List.mem_of_getElem? (i := 210) (by decide +kernel)) rfl
set_option maxRecDepth 20000 in
theorem lk_1_211 : (Jvm.Cond.fieldLink "PensionHouse$Parser" (36 : Nat) "PensionHouse$Parser" "fault" "I") ∈ jw := jt1 (List.mem_of_getElem? (i := 211) (by decide +kernel)) rfl
set_option maxRecDepth 20000 in
theorem lk_1_212 : (Jvm.Cond.fieldLink "PensionHouse" (213 : Nat) "PensionHouse$Parser" "fault" "I") ∈ jw := jt1 (List.mem_of_getElem? (i := 212) (by decide +kernel)) rfl
set_option maxRecDepth 20000 in
theorem lk_1_213 : (Jvm.Cond.fieldLink "PensionHouse$Parser" (40 : Nat) "PensionHouse$Parser" "faultPlace" "I") ∈ jw := jt1 (List.mem_of_getElem? (i := 213) (by decide +kernel)) rfl
set_option maxRecDepth 20000 in
theorem lk_1_214 : (Jvm.Cond.fieldLink "PensionHouse" (216 : Nat) "PensionHouse$Parser" "faultPlace" "I") ∈ jw := jt1 (List.mem_of_getElem? (i := 214) (by decide +kernel)) rfl
set_option maxRecDepth 20000 in
theorem lk_1_215 : (Jvm.Cond.fieldLink "PensionHouse$Parser" (25 : Nat) "PensionHouse$Parser" "counterNames" "[J") ∈ jw := jt1 (List.mem_of_getElem? (i := 215) (by decide +kernel)) rfl
set_option maxRecDepth 20000 in
theorem lk_1_216 : (Jvm.Cond.fieldLink "PensionHouse$Parser" (29 : Nat) "PensionHouse$Parser" "counterSums" "[I") ∈ jw := jt1 (List.mem_of_getElem? (i := 216) (by decide +kernel)) rfl
set_option maxRecDepth 20000 in
theorem lk_1_217 : (Jvm.Cond.fieldLink "PensionHouse$Parser" (43 : Nat) "PensionHouse$Parser" "counters" "I") ∈ jw := jt1 (List.mem_of_getElem? (i := 217) (by decide +kernel)) rfl
set_option maxRecDepth 20000 in
theorem lk_1_218 : (Jvm.Cond.laysFinal "PensionHouse$Parser" "PensionHouse$Parser" "tape" "LPensionHouse$Tape;") ∈ jw := jt1 (List.mem_of_getElem? (i := 218) (by decide +kernel)) rfl
set_option maxRecDepth 20000 in
theorem lk_1_220 : (Jvm.Cond.lays "PensionHouse$Parser" "PensionHouse$Parser" "text" "LPensionHouse$Text;") ∈ jw := jt1 (List.mem_of_getElem? (i := 220) (by decide +kernel)) rfl
set_option maxRecDepth 20000 in
theorem lk_1_222 : (Jvm.Cond.lays "PensionHouse$Parser" "PensionHouse$Parser" "fault" "I") ∈ jw := jt1 (List.mem_of_getElem? (i := 222) (by decide +kernel)) rfl
set_option maxRecDepth 20000 in
theorem lk_1_224 : (Jvm.Cond.lays "PensionHouse$Parser" "PensionHouse$Parser" "faultPlace" "I") ∈ jw := jt1 (List.mem_of_getElem? (i := 224) (by decide +kernel)) rfl
set_option maxRecDepth 20000 in
theorem lk_1_226 : (Jvm.Cond.laysFinal "PensionHouse$Parser" "PensionHouse$Parser" "counterNames" "[J") ∈ jw := jt1 (List.mem_of_getElem? (i := 226) (by decide +kernel)) rfl
set_option maxRecDepth 20000 in
theorem lk_1_228 : (Jvm.Cond.laysFinal "PensionHouse$Parser" "PensionHouse$Parser" "counterSums" "[I") ∈ jw := jt1 (List.mem_of_getElem? (i := 228) (by decide +kernel)) rfl
set_option maxRecDepth 20000 in
theorem lk_1_230 : (Jvm.Cond.lays "PensionHouse$Parser" "PensionHouse$Parser" "counters" "I") ∈ jw := jt1 (List.mem_of_getElem? (i := 230) (by decide +kernel)) rfl
set_option maxRecDepth 20000 in
theorem lk_1_233 : (Jvm.Cond.classLink "PensionHouse" (37 : Nat) "PensionHouse$Text") ∈ jw := jt1 (List.mem_of_getElem? (i := 233) (by decide +kernel)) rfl
set_option maxRecDepth 20000 in
theorem lk_1_235 : (Jvm.Cond.methodLink "PensionHouse" (43 : Nat) ({ cls := "PensionHouse$Text", name := "<init>", desc := "()V" } : Jvm.MethodName)) ∈ jw := jt1 (List.mem_of_getElem? (i := 235) (by decide +kernel)) rfl
set_option maxRecDepth 20000 in
theorem lk_1_236 : (Jvm.Cond.classLink "PensionHouse" (44 : Nat) "PensionHouse$Worker") ∈ jw := jt1 (List.mem_of_getElem? (i := 236) (by decide +kernel)) rfl
set_option maxRecDepth 20000 in
theorem lk_1_237 : (Jvm.Cond.instantiable "PensionHouse$Worker" (14 : Nat)) ∈ jw := jt1 (List.mem_of_getElem? (i := 237) (by decide +kernel)) rfl
set_option maxRecDepth 20000 in
theorem lk_1_238 : (Jvm.Cond.methodLink "PensionHouse" (46 : Nat) ({ cls := "PensionHouse$Worker", name := "<init>", desc := "(LPensionHouse$Register;)V" } : Jvm.MethodName)) ∈ jw := jt1 (List.mem_of_getElem? (i := 238) (by decide +kernel)) rfl
set_option maxRecDepth 20000 in
theorem lk_1_239 : (Jvm.Cond.instanceMethod ({ cls := "PensionHouse$Worker", name := "<init>", desc := "(LPensionHouse$Register;)V" } : Jvm.MethodName)) ∈ jw := jt1 (List.mem_of_getElem? (i := 239) (by decide +kernel)) rfl
set_option maxRecDepth 20000 in
theorem lk_2_0 : (Jvm.Cond.code ({ cls := "PensionHouse$Worker", name := "<init>", desc := "(LPensionHouse$Register;)V" } : Jvm.MethodName) prog_12_method_1_code (3 : Nat) (Option.none : Option Jvm.ClassFile.FieldType)) ∈ jw := jt2 (List.mem_of_getElem? (i := 0) (by exact rfl)) rfl
set_option maxRecDepth 20000 in
theorem lk_2_1 : (Jvm.Cond.methodLink "PensionHouse$Worker" (5 : Nat) ({ cls := "java/lang/Object", name := "<init>", desc := "()V" } : Jvm.MethodName)) ∈ jw := jt2 (List.mem_of_getElem? (i := 1) (by decide +kernel)) rfl
set_option maxRecDepth 20000 in
theorem lk_2_2 : (Jvm.Cond.classLink "PensionHouse$Worker" (34 : Nat) "PensionHouse$Value") ∈ jw := jt2 (List.mem_of_getElem? (i := 2) (by decide +kernel)) rfl
set_option maxRecDepth 20000 in
theorem lk_2_4 : (Jvm.Cond.methodLink "PensionHouse$Worker" (40 : Nat) ({ cls := "PensionHouse$Value", name := "<init>", desc := "()V" } : Jvm.MethodName)) ∈ jw := jt2 (List.mem_of_getElem? (i := 4) (by decide +kernel)) rfl
set_option maxRecDepth 20000 in
theorem lk_2_5 : (Jvm.Cond.fieldLink "PensionHouse$Worker" (11 : Nat) "PensionHouse$Worker" "register" "LPensionHouse$Register;") ∈ jw := jt2 (List.mem_of_getElem? (i := 5) (by decide +kernel)) rfl
set_option maxRecDepth 20000 in
theorem lk_2_6 : (Jvm.Cond.fieldLink "PensionHouse$Worker" (17 : Nat) "PensionHouse$Worker" "frameParts" "[I") ∈ jw := jt2 (List.mem_of_getElem? (i := 6) (by decide +kernel)) rfl
set_option maxRecDepth 20000 in
theorem lk_2_7 : (Jvm.Cond.fieldLink "PensionHouse$Worker" (21 : Nat) "PensionHouse$Worker" "frameStages" "[I") ∈ jw := jt2 (List.mem_of_getElem? (i := 7) (by decide +kernel)) rfl
set_option maxRecDepth 20000 in
theorem lk_2_8 : (Jvm.Cond.fieldLink "PensionHouse$Worker" (24 : Nat) "PensionHouse$Worker" "frameHeights" "[I") ∈ jw := jt2 (List.mem_of_getElem? (i := 8) (by decide +kernel)) rfl
set_option maxRecDepth 20000 in
theorem lk_2_9 : (Jvm.Cond.fieldLink "PensionHouse$Worker" (27 : Nat) "PensionHouse$Worker" "frameRules" "[I") ∈ jw := jt2 (List.mem_of_getElem? (i := 9) (by decide +kernel)) rfl
set_option maxRecDepth 20000 in
theorem lk_2_10 : (Jvm.Cond.fieldLink "PensionHouse$Worker" (74 : Nat) "PensionHouse$Worker" "frames" "I") ∈ jw := jt2 (List.mem_of_getElem? (i := 10) (by decide +kernel)) rfl
set_option maxRecDepth 20000 in
theorem lk_2_11 : (Jvm.Cond.fieldLink "PensionHouse$Worker" (36 : Nat) "PensionHouse$Worker" "pile" "[LPensionHouse$Value;") ∈ jw := jt2 (List.mem_of_getElem? (i := 11) (by decide +kernel)) rfl
set_option maxRecDepth 20000 in
theorem lk_2_12 : (Jvm.Cond.fieldLink "PensionHouse$Worker" (77 : Nat) "PensionHouse$Worker" "height" "I") ∈ jw := jt2 (List.mem_of_getElem? (i := 12) (by decide +kernel)) rfl
set_option maxRecDepth 20000 in
theorem lk_2_13 : (Jvm.Cond.fieldLink "PensionHouse$Worker" (30 : Nat) "PensionHouse$Worker" "counters" "[J") ∈ jw := jt2 (List.mem_of_getElem? (i := 13) (by decide +kernel)) rfl
set_option maxRecDepth 20000 in
theorem lk_2_14 : (Jvm.Cond.fieldLink "PensionHouse$Worker" (41 : Nat) "PensionHouse$Worker" "file" "LPensionHouse$Case;") ∈ jw := jt2 (List.mem_of_getElem? (i := 14) (by decide +kernel)) rfl
set_option maxRecDepth 20000 in
theorem lk_2_15 : (Jvm.Cond.fieldLink "PensionHouse$Worker" (45 : Nat) "PensionHouse$Worker" "text" "LPensionHouse$Text;") ∈ jw := jt2 (List.mem_of_getElem? (i := 15) (by decide +kernel)) rfl
set_option maxRecDepth 20000 in
theorem lk_2_16 : (Jvm.Cond.fieldLink "PensionHouse$Worker" (49 : Nat) "PensionHouse$Worker" "member" "I") ∈ jw := jt2 (List.mem_of_getElem? (i := 16) (by decide +kernel)) rfl
set_option maxRecDepth 20000 in
theorem lk_2_17 : (Jvm.Cond.fieldLink "PensionHouse$Worker" (53 : Nat) "PensionHouse$Worker" "day" "I") ∈ jw := jt2 (List.mem_of_getElem? (i := 17) (by decide +kernel)) rfl
set_option maxRecDepth 20000 in
theorem lk_2_18 : (Jvm.Cond.fieldLink "PensionHouse$Worker" (56 : Nat) "PensionHouse$Worker" "asOf" "I") ∈ jw := jt2 (List.mem_of_getElem? (i := 18) (by decide +kernel)) rfl
set_option maxRecDepth 20000 in
theorem lk_2_19 : (Jvm.Cond.laysFinal "PensionHouse$Worker" "PensionHouse$Worker" "register" "LPensionHouse$Register;") ∈ jw := jt2 (List.mem_of_getElem? (i := 19) (by decide +kernel)) rfl
set_option maxRecDepth 20000 in
theorem lk_2_21 : (Jvm.Cond.laysFinal "PensionHouse$Worker" "PensionHouse$Worker" "frameParts" "[I") ∈ jw := jt2 (List.mem_of_getElem? (i := 21) (by decide +kernel)) rfl
set_option maxRecDepth 20000 in
theorem lk_2_23 : (Jvm.Cond.laysFinal "PensionHouse$Worker" "PensionHouse$Worker" "frameStages" "[I") ∈ jw := jt2 (List.mem_of_getElem? (i := 23) (by decide +kernel)) rfl
set_option maxRecDepth 20000 in
theorem lk_2_25 : (Jvm.Cond.laysFinal "PensionHouse$Worker" "PensionHouse$Worker" "frameHeights" "[I") ∈ jw := jt2 (List.mem_of_getElem? (i := 25) (by decide +kernel)) rfl
set_option maxRecDepth 20000 in
theorem lk_2_27 : (Jvm.Cond.laysFinal "PensionHouse$Worker" "PensionHouse$Worker" "frameRules" "[I") ∈ jw := jt2 (List.mem_of_getElem? (i := 27) (by decide +kernel)) rfl
set_option maxRecDepth 20000 in
theorem lk_2_29 : (Jvm.Cond.lays "PensionHouse$Worker" "PensionHouse$Worker" "frames" "I") ∈ jw := jt2 (List.mem_of_getElem? (i := 29) (by decide +kernel)) rfl
set_option maxRecDepth 20000 in
theorem lk_2_31 : (Jvm.Cond.laysFinal "PensionHouse$Worker" "PensionHouse$Worker" "pile" "[LPensionHouse$Value;") ∈ jw := jt2 (List.mem_of_getElem? (i := 31) (by decide +kernel)) rfl
set_option maxRecDepth 20000 in
theorem lk_2_33 : (Jvm.Cond.lays "PensionHouse$Worker" "PensionHouse$Worker" "height" "I") ∈ jw := jt2 (List.mem_of_getElem? (i := 33) (by decide +kernel)) rfl
set_option maxRecDepth 20000 in
theorem lk_2_35 : (Jvm.Cond.laysFinal "PensionHouse$Worker" "PensionHouse$Worker" "counters" "[J") ∈ jw := jt2 (List.mem_of_getElem? (i := 35) (by decide +kernel)) rfl
set_option maxRecDepth 20000 in
theorem lk_2_37 : (Jvm.Cond.lays "PensionHouse$Worker" "PensionHouse$Worker" "file" "LPensionHouse$Case;") ∈ jw := jt2 (List.mem_of_getElem? (i := 37) (by decide +kernel)) rfl
set_option maxRecDepth 20000 in
theorem lk_2_39 : (Jvm.Cond.lays "PensionHouse$Worker" "PensionHouse$Worker" "text" "LPensionHouse$Text;") ∈ jw := jt2 (List.mem_of_getElem? (i := 39) (by decide +kernel)) rfl
set_option maxRecDepth 20000 in
theorem lk_2_41 : (Jvm.Cond.lays "PensionHouse$Worker" "PensionHouse$Worker" "member" "I") ∈ jw := jt2 (List.mem_of_getElem? (i := 41) (by decide +kernel)) rfl
set_option maxRecDepth 20000 in
theorem lk_2_43 : (Jvm.Cond.lays "PensionHouse$Worker" "PensionHouse$Worker" "day" "I") ∈ jw := jt2 (List.mem_of_getElem? (i := 43) (by decide +kernel)) rfl
set_option maxRecDepth 20000 in
theorem lk_2_45 : (Jvm.Cond.lays "PensionHouse$Worker" "PensionHouse$Worker" "asOf" "I") ∈ jw := jt2 (List.mem_of_getElem? (i := 45) (by decide +kernel)) rfl
set_option maxRecDepth 20000 in
theorem lk_2_48 : (Jvm.Cond.classLink "PensionHouse" (53 : Nat) "PensionHouse$Case") ∈ jw := jt2 (List.mem_of_getElem? (i := 48) (by decide +kernel)) rfl
set_option maxRecDepth 20000 in
theorem lk_2_49 : (Jvm.Cond.instantiable "PensionHouse$Case" (11 : Nat)) ∈ jw := jt2 (List.mem_of_getElem? (i := 49) (by decide +kernel)) rfl
set_option maxRecDepth 20000 in
theorem lk_2_50 : (Jvm.Cond.methodLink "PensionHouse" (55 : Nat) ({ cls := "PensionHouse$Case", name := "<init>", desc := "()V" } : Jvm.MethodName)) ∈ jw := jt2 (List.mem_of_getElem? (i := 50) (by decide +kernel)) rfl
set_option maxRecDepth 20000 in
theorem lk_2_51 : (Jvm.Cond.instanceMethod ({ cls := "PensionHouse$Case", name := "<init>", desc := "()V" } : Jvm.MethodName)) ∈ jw := jt2 (List.mem_of_getElem? (i := 51) (by decide +kernel)) rfl
set_option maxRecDepth 20000 in
theorem lk_2_52 : (Jvm.Cond.code ({ cls := "PensionHouse$Case", name := "<init>", desc := "()V" } : Jvm.MethodName) prog_3_method_1_code (2 : Nat) (Option.none : Option Jvm.ClassFile.FieldType)) ∈ jw := jt2 (List.mem_of_getElem? (i := 52) (by exact rfl)) rfl
set_option maxRecDepth 20000 in
theorem lk_2_53 : (Jvm.Cond.methodLink "PensionHouse$Case" (3 : Nat) ({ cls := "java/lang/Object", name := "<init>", desc := "()V" } : Jvm.MethodName)) ∈ jw := jt2 (List.mem_of_getElem? (i := 53) (by decide +kernel)) rfl
set_option maxRecDepth 20000 in
theorem lk_2_54 : (Jvm.Cond.classLink "PensionHouse$Case" (27 : Nat) "PensionHouse$Value") ∈ jw := jt2 (List.mem_of_getElem? (i := 54) (by decide +kernel)) rfl
set_option maxRecDepth 20000 in
theorem lk_2_55 : (Jvm.Cond.methodLink "PensionHouse$Case" (33 : Nat) ({ cls := "PensionHouse$Value", name := "<init>", desc := "()V" } : Jvm.MethodName)) ∈ jw := jt2 (List.mem_of_getElem? (i := 55) (by decide +kernel)) rfl
set_option maxRecDepth 20000 in
theorem lk_2_56 : (Jvm.Cond.fieldLink "PensionHouse$Case" (34 : Nat) "PensionHouse$Case" "wanted" "I") ∈ jw := jt2 (List.mem_of_getElem? (i := 56) (by decide +kernel)) rfl
set_option maxRecDepth 20000 in
theorem lk_2_57 : (Jvm.Cond.fieldLink "PensionHouse$Worker" (71 : Nat) "PensionHouse$Case" "wanted" "I") ∈ jw := jt2 (List.mem_of_getElem? (i := 57) (by decide +kernel)) rfl
set_option maxRecDepth 20000 in
theorem lk_2_58 : (Jvm.Cond.fieldLink "PensionHouse" (248 : Nat) "PensionHouse$Case" "wanted" "I") ∈ jw := jt2 (List.mem_of_getElem? (i := 58) (by decide +kernel)) rfl
set_option maxRecDepth 20000 in
theorem lk_2_59 : (Jvm.Cond.fieldLink "PensionHouse$Case" (37 : Nat) "PensionHouse$Case" "failure" "I") ∈ jw := jt2 (List.mem_of_getElem? (i := 59) (by decide +kernel)) rfl
set_option maxRecDepth 20000 in
theorem lk_2_60 : (Jvm.Cond.fieldLink "PensionHouse$Worker" (68 : Nat) "PensionHouse$Case" "failure" "I") ∈ jw := jt2 (List.mem_of_getElem? (i := 60) (by decide +kernel)) rfl
set_option maxRecDepth 20000 in
theorem lk_2_61 : (Jvm.Cond.fieldLink "PensionHouse" (241 : Nat) "PensionHouse$Case" "failure" "I") ∈ jw := jt2 (List.mem_of_getElem? (i := 61) (by decide +kernel)) rfl
set_option maxRecDepth 20000 in
theorem lk_2_62 : (Jvm.Cond.fieldLink "PensionHouse$Case" (9 : Nat) "PensionHouse$Case" "line" "I") ∈ jw := jt2 (List.mem_of_getElem? (i := 62) (by decide +kernel)) rfl
set_option maxRecDepth 20000 in
theorem lk_2_63 : (Jvm.Cond.fieldLink "PensionHouse$Worker" (152 : Nat) "PensionHouse$Case" "line" "I") ∈ jw := jt2 (List.mem_of_getElem? (i := 63) (by decide +kernel)) rfl
set_option maxRecDepth 20000 in
theorem lk_2_64 : (Jvm.Cond.fieldLink "PensionHouse" (251 : Nat) "PensionHouse$Case" "line" "I") ∈ jw := jt2 (List.mem_of_getElem? (i := 64) (by decide +kernel)) rfl
set_option maxRecDepth 20000 in
theorem lk_2_65 : (Jvm.Cond.fieldLink "PensionHouse$Case" (40 : Nat) "PensionHouse$Case" "work" "I") ∈ jw := jt2 (List.mem_of_getElem? (i := 65) (by decide +kernel)) rfl
set_option maxRecDepth 20000 in
theorem lk_2_66 : (Jvm.Cond.fieldLink "PensionHouse$Worker" (145 : Nat) "PensionHouse$Case" "work" "I") ∈ jw := jt2 (List.mem_of_getElem? (i := 66) (by decide +kernel)) rfl
set_option maxRecDepth 20000 in
theorem lk_2_67 : (Jvm.Cond.fieldLink "PensionHouse" (254 : Nat) "PensionHouse$Case" "work" "I") ∈ jw := jt2 (List.mem_of_getElem? (i := 67) (by decide +kernel)) rfl
set_option maxRecDepth 20000 in
theorem lk_2_68 : (Jvm.Cond.fieldLink "PensionHouse$Case" (43 : Nat) "PensionHouse$Case" "asked" "I") ∈ jw := jt2 (List.mem_of_getElem? (i := 68) (by decide +kernel)) rfl
set_option maxRecDepth 20000 in
theorem lk_2_69 : (Jvm.Cond.fieldLink "PensionHouse$Worker" (177 : Nat) "PensionHouse$Case" "asked" "I") ∈ jw := jt2 (List.mem_of_getElem? (i := 69) (by decide +kernel)) rfl
set_option maxRecDepth 20000 in
theorem lk_2_70 : (Jvm.Cond.fieldLink "PensionHouse" (259 : Nat) "PensionHouse$Case" "asked" "I") ∈ jw := jt2 (List.mem_of_getElem? (i := 70) (by decide +kernel)) rfl
set_option maxRecDepth 20000 in
theorem lk_2_71 : (Jvm.Cond.fieldLink "PensionHouse$Case" (46 : Nat) "PensionHouse$Case" "tried" "I") ∈ jw := jt2 (List.mem_of_getElem? (i := 71) (by decide +kernel)) rfl
set_option maxRecDepth 20000 in
theorem lk_2_72 : (Jvm.Cond.fieldLink "PensionHouse$Worker" (164 : Nat) "PensionHouse$Case" "tried" "I") ∈ jw := jt2 (List.mem_of_getElem? (i := 72) (by decide +kernel)) rfl
set_option maxRecDepth 20000 in
theorem lk_2_73 : (Jvm.Cond.fieldLink "PensionHouse" (262 : Nat) "PensionHouse$Case" "tried" "I") ∈ jw := jt2 (List.mem_of_getElem? (i := 73) (by decide +kernel)) rfl
set_option maxRecDepth 20000 in
theorem lk_2_74 : (Jvm.Cond.fieldLink "PensionHouse$Case" (17 : Nat) "PensionHouse$Case" "failures" "[I") ∈ jw := jt2 (List.mem_of_getElem? (i := 74) (by decide +kernel)) rfl
set_option maxRecDepth 20000 in
theorem lk_2_75 : (Jvm.Cond.fieldLink "PensionHouse$Worker" (211 : Nat) "PensionHouse$Case" "failures" "[I") ∈ jw := jt2 (List.mem_of_getElem? (i := 75) (by decide +kernel)) rfl
set_option maxRecDepth 20000 in
theorem lk_2_76 : (Jvm.Cond.fieldLink "PensionHouse" (268 : Nat) "PensionHouse$Case" "failures" "[I") ∈ jw := jt2 (List.mem_of_getElem? (i := 76) (by decide +kernel)) rfl
set_option maxRecDepth 20000 in
theorem lk_2_77 : (Jvm.Cond.fieldLink "PensionHouse$Case" (21 : Nat) "PensionHouse$Case" "lines" "[I") ∈ jw := jt2 (List.mem_of_getElem? (i := 77) (by decide +kernel)) rfl
set_option maxRecDepth 20000 in
theorem lk_2_78 : (Jvm.Cond.fieldLink "PensionHouse$Worker" (214 : Nat) "PensionHouse$Case" "lines" "[I") ∈ jw := jt2 (List.mem_of_getElem? (i := 78) (by decide +kernel)) rfl
set_option maxRecDepth 20000 in
theorem lk_2_79 : (Jvm.Cond.fieldLink "PensionHouse$Case" (29 : Nat) "PensionHouse$Case" "figures" "[LPensionHouse$Value;") ∈ jw := jt2 (List.mem_of_getElem? (i := 79) (by decide +kernel)) rfl
set_option maxRecDepth 20000 in
theorem lk_2_80 : (Jvm.Cond.fieldLink "PensionHouse$Worker" (217 : Nat) "PensionHouse$Case" "figures" "[LPensionHouse$Value;") ∈ jw := jt2 (List.mem_of_getElem? (i := 80) (by decide +kernel)) rfl
set_option maxRecDepth 20000 in
theorem lk_2_81 : (Jvm.Cond.fieldLink "PensionHouse" (244 : Nat) "PensionHouse$Case" "figures" "[LPensionHouse$Value;") ∈ jw := jt2 (List.mem_of_getElem? (i := 81) (by decide +kernel)) rfl
set_option maxRecDepth 20000 in
theorem lk_2_82 : (Jvm.Cond.fieldLink "PensionHouse$Case" (24 : Nat) "PensionHouse$Case" "steps" "[I") ∈ jw := jt2 (List.mem_of_getElem? (i := 82) (by decide +kernel)) rfl
set_option maxRecDepth 20000 in
theorem lk_2_83 : (Jvm.Cond.fieldLink "PensionHouse" (265 : Nat) "PensionHouse$Case" "steps" "[I") ∈ jw := jt2 (List.mem_of_getElem? (i := 83) (by decide +kernel)) rfl
set_option maxRecDepth 20000 in
theorem lk_2_84 : (Jvm.Cond.fieldLink "PensionHouse$Case" (49 : Nat) "PensionHouse$Case" "stepCount" "I") ∈ jw := jt2 (List.mem_of_getElem? (i := 84) (by decide +kernel)) rfl
set_option maxRecDepth 20000 in
theorem lk_2_85 : (Jvm.Cond.fieldLink "PensionHouse" (256 : Nat) "PensionHouse$Case" "stepCount" "I") ∈ jw := jt2 (List.mem_of_getElem? (i := 85) (by decide +kernel)) rfl
set_option maxRecDepth 20000 in
theorem lk_2_86 : (Jvm.Cond.lays "PensionHouse$Case" "PensionHouse$Case" "wanted" "I") ∈ jw := jt2 (List.mem_of_getElem? (i := 86) (by decide +kernel)) rfl
set_option maxRecDepth 20000 in
theorem lk_2_88 : (Jvm.Cond.lays "PensionHouse$Case" "PensionHouse$Case" "failure" "I") ∈ jw := jt2 (List.mem_of_getElem? (i := 88) (by decide +kernel)) rfl
set_option maxRecDepth 20000 in
theorem lk_2_90 : (Jvm.Cond.lays "PensionHouse$Case" "PensionHouse$Case" "line" "I") ∈ jw := jt2 (List.mem_of_getElem? (i := 90) (by decide +kernel)) rfl
set_option maxRecDepth 20000 in
theorem lk_2_92 : (Jvm.Cond.lays "PensionHouse$Case" "PensionHouse$Case" "work" "I") ∈ jw := jt2 (List.mem_of_getElem? (i := 92) (by decide +kernel)) rfl
set_option maxRecDepth 20000 in
theorem lk_2_94 : (Jvm.Cond.lays "PensionHouse$Case" "PensionHouse$Case" "asked" "I") ∈ jw := jt2 (List.mem_of_getElem? (i := 94) (by decide +kernel)) rfl
set_option maxRecDepth 20000 in
theorem lk_2_96 : (Jvm.Cond.lays "PensionHouse$Case" "PensionHouse$Case" "tried" "I") ∈ jw := jt2 (List.mem_of_getElem? (i := 96) (by decide +kernel)) rfl
set_option maxRecDepth 20000 in
theorem lk_2_98 : (Jvm.Cond.laysFinal "PensionHouse$Case" "PensionHouse$Case" "failures" "[I") ∈ jw := jt2 (List.mem_of_getElem? (i := 98) (by decide +kernel)) rfl
set_option maxRecDepth 20000 in
theorem lk_2_100 : (Jvm.Cond.laysFinal "PensionHouse$Case" "PensionHouse$Case" "lines" "[I") ∈ jw := jt2 (List.mem_of_getElem? (i := 100) (by decide +kernel)) rfl
set_option maxRecDepth 20000 in
theorem lk_2_102 : (Jvm.Cond.laysFinal "PensionHouse$Case" "PensionHouse$Case" "figures" "[LPensionHouse$Value;") ∈ jw := jt2 (List.mem_of_getElem? (i := 102) (by decide +kernel)) rfl
set_option maxRecDepth 20000 in
theorem lk_2_104 : (Jvm.Cond.laysFinal "PensionHouse$Case" "PensionHouse$Case" "steps" "[I") ∈ jw := jt2 (List.mem_of_getElem? (i := 104) (by decide +kernel)) rfl
set_option maxRecDepth 20000 in
theorem lk_2_106 : (Jvm.Cond.lays "PensionHouse$Case" "PensionHouse$Case" "stepCount" "I") ∈ jw := jt2 (List.mem_of_getElem? (i := 106) (by decide +kernel)) rfl
set_option maxRecDepth 20000 in
theorem lk_2_109 : (Jvm.Cond.classLink "PensionHouse" (3 : Nat) "PensionHouse$Award") ∈ jw := jt2 (List.mem_of_getElem? (i := 109) (by decide +kernel)) rfl
set_option maxRecDepth 20000 in
theorem lk_2_111 : (Jvm.Cond.instantiable "PensionHouse$Award" (6 : Nat)) ∈ jw := jt2 (List.mem_of_getElem? (i := 111) (by decide +kernel)) rfl
set_option maxRecDepth 20000 in
theorem lk_2_112 : (Jvm.Cond.methodLink "PensionHouse" (70 : Nat) ({ cls := "PensionHouse$Award", name := "<init>", desc := "()V" } : Jvm.MethodName)) ∈ jw := jt2 (List.mem_of_getElem? (i := 112) (by decide +kernel)) rfl
set_option maxRecDepth 20000 in
theorem lk_2_113 : (Jvm.Cond.instanceMethod ({ cls := "PensionHouse$Award", name := "<init>", desc := "()V" } : Jvm.MethodName)) ∈ jw := jt2 (List.mem_of_getElem? (i := 113) (by decide +kernel)) rfl
set_option maxRecDepth 20000 in
theorem lk_2_114 : (Jvm.Cond.code ({ cls := "PensionHouse$Award", name := "<init>", desc := "()V" } : Jvm.MethodName) prog_2_method_1_code (1 : Nat) (Option.none : Option Jvm.ClassFile.FieldType)) ∈ jw := jt2 (List.mem_of_getElem? (i := 114) (by exact rfl)) rfl
set_option maxRecDepth 20000 in
theorem lk_2_115 : (Jvm.Cond.methodLink "PensionHouse$Award" (3 : Nat) ({ cls := "java/lang/Object", name := "<init>", desc := "()V" } : Jvm.MethodName)) ∈ jw := jt2 (List.mem_of_getElem? (i := 115) (by decide +kernel)) rfl
set_option maxRecDepth 20000 in
theorem lk_2_116 : (Jvm.Cond.fieldLink "PensionHouse" (283 : Nat) "PensionHouse$Award" "member" "I") ∈ jw := jt2 (List.mem_of_getElem? (i := 116) (by decide +kernel)) rfl
set_option maxRecDepth 20000 in
theorem lk_2_117 : (Jvm.Cond.fieldLink "PensionHouse" (284 : Nat) "PensionHouse$Award" "scheme" "I") ∈ jw := jt2 (List.mem_of_getElem? (i := 117) (by decide +kernel)) rfl
set_option maxRecDepth 20000 in
theorem lk_2_118 : (Jvm.Cond.fieldLink "PensionHouse" (287 : Nat) "PensionHouse$Award" "first" "I") ∈ jw := jt2 (List.mem_of_getElem? (i := 118) (by decide +kernel)) rfl
set_option maxRecDepth 20000 in
theorem lk_2_119 : (Jvm.Cond.fieldLink "PensionHouse$Award" (18 : Nat) "PensionHouse$Award" "deductions" "I") ∈ jw := jt2 (List.mem_of_getElem? (i := 119) (by decide +kernel)) rfl
set_option maxRecDepth 20000 in
theorem lk_2_120 : (Jvm.Cond.fieldLink "PensionHouse$Award" (11 : Nat) "PensionHouse$Award" "cents" "[I") ∈ jw := jt2 (List.mem_of_getElem? (i := 120) (by decide +kernel)) rfl
set_option maxRecDepth 20000 in
theorem lk_2_121 : (Jvm.Cond.fieldLink "PensionHouse$Award" (15 : Nat) "PensionHouse$Award" "ranks" "[I") ∈ jw := jt2 (List.mem_of_getElem? (i := 121) (by decide +kernel)) rfl
set_option maxRecDepth 20000 in
theorem lk_2_122 : (Jvm.Cond.lays "PensionHouse$Award" "PensionHouse$Award" "member" "I") ∈ jw := jt2 (List.mem_of_getElem? (i := 122) (by decide +kernel)) rfl
set_option maxRecDepth 20000 in
theorem lk_2_124 : (Jvm.Cond.lays "PensionHouse$Award" "PensionHouse$Award" "scheme" "I") ∈ jw := jt2 (List.mem_of_getElem? (i := 124) (by decide +kernel)) rfl
set_option maxRecDepth 20000 in
theorem lk_2_126 : (Jvm.Cond.lays "PensionHouse$Award" "PensionHouse$Award" "first" "I") ∈ jw := jt2 (List.mem_of_getElem? (i := 126) (by decide +kernel)) rfl
set_option maxRecDepth 20000 in
theorem lk_2_128 : (Jvm.Cond.lays "PensionHouse$Award" "PensionHouse$Award" "deductions" "I") ∈ jw := jt2 (List.mem_of_getElem? (i := 128) (by decide +kernel)) rfl
set_option maxRecDepth 20000 in
theorem lk_2_130 : (Jvm.Cond.laysFinal "PensionHouse$Award" "PensionHouse$Award" "cents" "[I") ∈ jw := jt2 (List.mem_of_getElem? (i := 130) (by decide +kernel)) rfl
set_option maxRecDepth 20000 in
theorem lk_2_132 : (Jvm.Cond.laysFinal "PensionHouse$Award" "PensionHouse$Award" "ranks" "[I") ∈ jw := jt2 (List.mem_of_getElem? (i := 132) (by decide +kernel)) rfl
set_option maxRecDepth 20000 in
theorem lk_2_135 : (Jvm.Cond.classLink "PensionHouse" (71 : Nat) "[[J") ∈ jw := jt2 (List.mem_of_getElem? (i := 135) (by decide +kernel)) rfl
set_option maxRecDepth 20000 in
theorem lk_2_137 : (Jvm.Cond.fieldLink "PensionHouse" (14 : Nat) "PensionHouse" "register" "LPensionHouse$Register;") ∈ jw := jt2 (List.mem_of_getElem? (i := 137) (by decide +kernel)) rfl
set_option maxRecDepth 20000 in
theorem lk_2_138 : (Jvm.Cond.fieldLink "PensionHouse" (21 : Nat) "PensionHouse" "desk" "LPensionHouse$Value;") ∈ jw := jt2 (List.mem_of_getElem? (i := 138) (by decide +kernel)) rfl
set_option maxRecDepth 20000 in
theorem lk_2_139 : (Jvm.Cond.fieldLink "PensionHouse" (28 : Nat) "PensionHouse" "parser" "LPensionHouse$Parser;") ∈ jw := jt2 (List.mem_of_getElem? (i := 139) (by decide +kernel)) rfl
set_option maxRecDepth 20000 in
theorem lk_2_140 : (Jvm.Cond.fieldLink "PensionHouse" (36 : Nat) "PensionHouse" "tape" "LPensionHouse$Tape;") ∈ jw := jt2 (List.mem_of_getElem? (i := 140) (by decide +kernel)) rfl
set_option maxRecDepth 20000 in
theorem lk_2_141 : (Jvm.Cond.fieldLink "PensionHouse" (39 : Nat) "PensionHouse" "editions" "[LPensionHouse$Text;") ∈ jw := jt2 (List.mem_of_getElem? (i := 141) (by decide +kernel)) rfl
set_option maxRecDepth 20000 in
theorem lk_2_142 : (Jvm.Cond.fieldLink "PensionHouse" (49 : Nat) "PensionHouse" "worker" "LPensionHouse$Worker;") ∈ jw := jt2 (List.mem_of_getElem? (i := 142) (by decide +kernel)) rfl
set_option maxRecDepth 20000 in
theorem lk_2_143 : (Jvm.Cond.fieldLink "PensionHouse" (56 : Nat) "PensionHouse" "shown" "LPensionHouse$Case;") ∈ jw := jt2 (List.mem_of_getElem? (i := 143) (by decide +kernel)) rfl
set_option maxRecDepth 20000 in
theorem lk_2_144 : (Jvm.Cond.fieldLink "PensionHouse" (60 : Nat) "PensionHouse" "scratch" "LPensionHouse$Case;") ∈ jw := jt2 (List.mem_of_getElem? (i := 144) (by decide +kernel)) rfl
set_option maxRecDepth 20000 in
theorem lk_2_145 : (Jvm.Cond.fieldLink "PensionHouse" (63 : Nat) "PensionHouse" "rival" "LPensionHouse$Case;") ∈ jw := jt2 (List.mem_of_getElem? (i := 145) (by decide +kernel)) rfl
set_option maxRecDepth 20000 in
theorem lk_2_146 : (Jvm.Cond.fieldLink "PensionHouse" (66 : Nat) "PensionHouse" "awards" "[LPensionHouse$Award;") ∈ jw := jt2 (List.mem_of_getElem? (i := 146) (by decide +kernel)) rfl
set_option maxRecDepth 20000 in
theorem lk_2_147 : (Jvm.Cond.fieldLink "PensionHouse" (280 : Nat) "PensionHouse" "awardCount" "I") ∈ jw := jt2 (List.mem_of_getElem? (i := 147) (by decide +kernel)) rfl
set_option maxRecDepth 20000 in
theorem lk_2_148 : (Jvm.Cond.fieldLink "PensionHouse" (73 : Nat) "PensionHouse" "payments" "[[J") ∈ jw := jt2 (List.mem_of_getElem? (i := 148) (by decide +kernel)) rfl
set_option maxRecDepth 20000 in
theorem lk_2_149 : (Jvm.Cond.fieldLink "PensionHouse" (309 : Nat) "PensionHouse" "paymentCount" "I") ∈ jw := jt2 (List.mem_of_getElem? (i := 149) (by decide +kernel)) rfl
set_option maxRecDepth 20000 in
theorem lk_2_150 : (Jvm.Cond.fieldLink "PensionHouse" (100 : Nat) "PensionHouse" "now" "I") ∈ jw := jt2 (List.mem_of_getElem? (i := 150) (by decide +kernel)) rfl
set_option maxRecDepth 20000 in
theorem lk_2_151 : (Jvm.Cond.fieldLink "PensionHouse" (76 : Nat) "PensionHouse" "percent" "I") ∈ jw := jt2 (List.mem_of_getElem? (i := 151) (by decide +kernel)) rfl
set_option maxRecDepth 20000 in
theorem lk_2_152 : (Jvm.Cond.fieldLink "PensionHouse" (80 : Nat) "PensionHouse" "runMonth" "I") ∈ jw := jt2 (List.mem_of_getElem? (i := 152) (by decide +kernel)) rfl
set_option maxRecDepth 20000 in
theorem lk_2_153 : (Jvm.Cond.fieldLink "PensionHouse" (83 : Nat) "PensionHouse" "runAwards" "[I") ∈ jw := jt2 (List.mem_of_getElem? (i := 153) (by decide +kernel)) rfl
set_option maxRecDepth 20000 in
theorem lk_2_154 : (Jvm.Cond.fieldLink "PensionHouse" (306 : Nat) "PensionHouse" "runSize" "I") ∈ jw := jt2 (List.mem_of_getElem? (i := 154) (by decide +kernel)) rfl
set_option maxRecDepth 20000 in
theorem lk_2_155 : (Jvm.Cond.fieldLink "PensionHouse" (303 : Nat) "PensionHouse" "runPaid" "I") ∈ jw := jt2 (List.mem_of_getElem? (i := 155) (by decide +kernel)) rfl
set_option maxRecDepth 20000 in
theorem lk_2_156 : (Jvm.Cond.laysFinal "PensionHouse" "PensionHouse" "register" "LPensionHouse$Register;") ∈ jw := jt2 (List.mem_of_getElem? (i := 156) (by decide +kernel)) rfl
set_option maxRecDepth 20000 in
theorem lk_2_158 : (Jvm.Cond.laysFinal "PensionHouse" "PensionHouse" "desk" "LPensionHouse$Value;") ∈ jw := jt2 (List.mem_of_getElem? (i := 158) (by decide +kernel)) rfl
set_option maxRecDepth 20000 in
theorem lk_2_160 : (Jvm.Cond.laysFinal "PensionHouse" "PensionHouse" "parser" "LPensionHouse$Parser;") ∈ jw := jt2 (List.mem_of_getElem? (i := 160) (by decide +kernel)) rfl
set_option maxRecDepth 20000 in
theorem lk_2_162 : (Jvm.Cond.laysFinal "PensionHouse" "PensionHouse" "tape" "LPensionHouse$Tape;") ∈ jw := jt2 (List.mem_of_getElem? (i := 162) (by decide +kernel)) rfl
set_option maxRecDepth 20000 in
theorem lk_2_164 : (Jvm.Cond.laysFinal "PensionHouse" "PensionHouse" "editions" "[LPensionHouse$Text;") ∈ jw := jt2 (List.mem_of_getElem? (i := 164) (by decide +kernel)) rfl
set_option maxRecDepth 20000 in
theorem lk_2_166 : (Jvm.Cond.laysFinal "PensionHouse" "PensionHouse" "worker" "LPensionHouse$Worker;") ∈ jw := jt2 (List.mem_of_getElem? (i := 166) (by decide +kernel)) rfl
set_option maxRecDepth 20000 in
theorem lk_2_168 : (Jvm.Cond.laysFinal "PensionHouse" "PensionHouse" "shown" "LPensionHouse$Case;") ∈ jw := jt2 (List.mem_of_getElem? (i := 168) (by decide +kernel)) rfl
set_option maxRecDepth 20000 in
theorem lk_2_170 : (Jvm.Cond.laysFinal "PensionHouse" "PensionHouse" "scratch" "LPensionHouse$Case;") ∈ jw := jt2 (List.mem_of_getElem? (i := 170) (by decide +kernel)) rfl
set_option maxRecDepth 20000 in
theorem lk_2_172 : (Jvm.Cond.laysFinal "PensionHouse" "PensionHouse" "rival" "LPensionHouse$Case;") ∈ jw := jt2 (List.mem_of_getElem? (i := 172) (by decide +kernel)) rfl
set_option maxRecDepth 20000 in
theorem lk_2_174 : (Jvm.Cond.laysFinal "PensionHouse" "PensionHouse" "awards" "[LPensionHouse$Award;") ∈ jw := jt2 (List.mem_of_getElem? (i := 174) (by decide +kernel)) rfl
set_option maxRecDepth 20000 in
theorem lk_2_176 : (Jvm.Cond.lays "PensionHouse" "PensionHouse" "awardCount" "I") ∈ jw := jt2 (List.mem_of_getElem? (i := 176) (by decide +kernel)) rfl
set_option maxRecDepth 20000 in
theorem lk_2_178 : (Jvm.Cond.laysFinal "PensionHouse" "PensionHouse" "payments" "[[J") ∈ jw := jt2 (List.mem_of_getElem? (i := 178) (by decide +kernel)) rfl
set_option maxRecDepth 20000 in
theorem lk_2_180 : (Jvm.Cond.lays "PensionHouse" "PensionHouse" "paymentCount" "I") ∈ jw := jt2 (List.mem_of_getElem? (i := 180) (by decide +kernel)) rfl
set_option maxRecDepth 20000 in
theorem lk_2_182 : (Jvm.Cond.lays "PensionHouse" "PensionHouse" "now" "I") ∈ jw := jt2 (List.mem_of_getElem? (i := 182) (by decide +kernel)) rfl
set_option maxRecDepth 20000 in
theorem lk_2_184 : (Jvm.Cond.lays "PensionHouse" "PensionHouse" "percent" "I") ∈ jw := jt2 (List.mem_of_getElem? (i := 184) (by decide +kernel)) rfl
set_option maxRecDepth 20000 in
theorem lk_2_186 : (Jvm.Cond.lays "PensionHouse" "PensionHouse" "runMonth" "I") ∈ jw := jt2 (List.mem_of_getElem? (i := 186) (by decide +kernel)) rfl
set_option maxRecDepth 20000 in
theorem lk_2_188 : (Jvm.Cond.laysFinal "PensionHouse" "PensionHouse" "runAwards" "[I") ∈ jw := jt2 (List.mem_of_getElem? (i := 188) (by decide +kernel)) rfl
set_option maxRecDepth 20000 in
theorem lk_2_190 : (Jvm.Cond.lays "PensionHouse" "PensionHouse" "runSize" "I") ∈ jw := jt2 (List.mem_of_getElem? (i := 190) (by decide +kernel)) rfl
set_option maxRecDepth 20000 in
theorem lk_2_192 : (Jvm.Cond.lays "PensionHouse" "PensionHouse" "runPaid" "I") ∈ jw := jt2 (List.mem_of_getElem? (i := 192) (by decide +kernel)) rfl
set_option maxRecDepth 20000 in
theorem lk_2_195 : (Jvm.Cond.methodLink "PensionHouseLaw" (15 : Nat) ({ cls := "PensionHouse", name := "feed", desc := "(JI)I" } : Jvm.MethodName)) ∈ jw := jt2 (List.mem_of_getElem? (i := 195) (by decide +kernel)) rfl
set_option maxRecDepth 20000 in
theorem lk_2_196 : (Jvm.Cond.instanceMethod ({ cls := "PensionHouse", name := "feed", desc := "(JI)I" } : Jvm.MethodName)) ∈ jw := jt2 (List.mem_of_getElem? (i := 196) (by decide +kernel)) rfl
set_option maxRecDepth 20000 in
theorem lk_2_197 : (Jvm.Cond.selects "PensionHouse" ({ cls := "PensionHouse", name := "feed", desc := "(JI)I" } : Jvm.MethodName) ({ cls := "PensionHouse", name := "feed", desc := "(JI)I" } : Jvm.MethodName)) ∈ jw := jt2 (List.mem_of_getElem? (i := 197) (by decide +kernel)) rfl
set_option maxRecDepth 20000 in
theorem lk_2_198 : (Jvm.Cond.code ({ cls := "PensionHouse", name := "feed", desc := "(JI)I" } : Jvm.MethodName) prog_1_method_2_code (5 : Nat) (Option.some Jvm.ClassFile.FieldType.int)) ∈ jw := jt2 (List.mem_of_getElem? (i := 198) (by exact rfl)) rfl
set_option maxRecDepth 20000 in
theorem lk_2_199 : (Jvm.Cond.methodLink "PensionHouse" (92 : Nat) ({ cls := "PensionHouse$Tape", name := "add", desc := "(B)V" } : Jvm.MethodName)) ∈ jw := jt2 (List.mem_of_getElem? (i := 199) (by decide +kernel)) rfl
set_option maxRecDepth 20000 in
theorem lk_2_200 : (Jvm.Cond.instanceMethod ({ cls := "PensionHouse$Tape", name := "add", desc := "(B)V" } : Jvm.MethodName)) ∈ jw := jt2 (List.mem_of_getElem? (i := 200) (by decide +kernel)) rfl
set_option maxRecDepth 20000 in
theorem lk_2_201 : (Jvm.Cond.selects "PensionHouse$Tape" ({ cls := "PensionHouse$Tape", name := "add", desc := "(B)V" } : Jvm.MethodName) ({ cls := "PensionHouse$Tape", name := "add", desc := "(B)V" } : Jvm.MethodName)) ∈ jw := jt2 (List.mem_of_getElem? (i := 201) (by decide +kernel)) rfl
set_option maxRecDepth 20000 in
theorem lk_2_202 : (Jvm.Cond.code ({ cls := "PensionHouse$Tape", name := "add", desc := "(B)V" } : Jvm.MethodName) prog_9_method_2_code (2 : Nat) (Option.none : Option Jvm.ClassFile.FieldType)) ∈ jw := jt2 (List.mem_of_getElem? (i := 202) (by exact rfl)) rfl
set_option maxRecDepth 20000 in
theorem lk_2_203 : (Jvm.Cond.methodLink "PensionHouseLaw" (20 : Nat) ({ cls := "PensionHouse", name := "cut", desc := "(I)I" } : Jvm.MethodName)) ∈ jw := jt2 (List.mem_of_getElem? (i := 203) (by decide +kernel)) rfl
set_option maxRecDepth 20000 in
theorem lk_2_204 : (Jvm.Cond.instanceMethod ({ cls := "PensionHouse", name := "cut", desc := "(I)I" } : Jvm.MethodName)) ∈ jw := jt2 (List.mem_of_getElem? (i := 204) (by decide +kernel)) rfl
set_option maxRecDepth 20000 in
theorem lk_2_205 : (Jvm.Cond.selects "PensionHouse" ({ cls := "PensionHouse", name := "cut", desc := "(I)I" } : Jvm.MethodName) ({ cls := "PensionHouse", name := "cut", desc := "(I)I" } : Jvm.MethodName)) ∈ jw := jt2 (List.mem_of_getElem? (i := 205) (by decide +kernel)) rfl
set_option maxRecDepth 20000 in
theorem lk_2_206 : (Jvm.Cond.code ({ cls := "PensionHouse", name := "cut", desc := "(I)I" } : Jvm.MethodName) prog_1_method_3_code (3 : Nat) (Option.some Jvm.ClassFile.FieldType.int)) ∈ jw := jt2 (List.mem_of_getElem? (i := 206) (by exact rfl)) rfl
set_option maxRecDepth 20000 in
theorem lk_2_207 : (Jvm.Cond.methodLink "PensionHouseLaw" (25 : Nat) ({ cls := "PensionHouse", name := "clock", desc := "(I)I" } : Jvm.MethodName)) ∈ jw := jt2 (List.mem_of_getElem? (i := 207) (by decide +kernel)) rfl
set_option maxRecDepth 20000 in
theorem lk_2_208 : (Jvm.Cond.instanceMethod ({ cls := "PensionHouse", name := "clock", desc := "(I)I" } : Jvm.MethodName)) ∈ jw := jt2 (List.mem_of_getElem? (i := 208) (by decide +kernel)) rfl
set_option maxRecDepth 20000 in
theorem lk_2_209 : (Jvm.Cond.selects "PensionHouse" ({ cls := "PensionHouse", name := "clock", desc := "(I)I" } : Jvm.MethodName) ({ cls := "PensionHouse", name := "clock", desc := "(I)I" } : Jvm.MethodName)) ∈ jw := jt2 (List.mem_of_getElem? (i := 209) (by decide +kernel)) rfl
set_option maxRecDepth 20000 in
theorem lk_2_210 : (Jvm.Cond.code ({ cls := "PensionHouse", name := "clock", desc := "(I)I" } : Jvm.MethodName) prog_1_method_4_code (2 : Nat) (Option.some Jvm.ClassFile.FieldType.int)) ∈ jw := jt2 (List.mem_of_getElem? (i := 210) (by exact rfl)) rfl
set_option maxRecDepth 20000 in
theorem lk_2_211 : (Jvm.Cond.methodLink "PensionHouse" (96 : Nat) ({ cls := "PensionHouse", name := "isDay", desc := "(I)Z" } : Jvm.MethodName)) ∈ jw := jt2 (List.mem_of_getElem? (i := 211) (by decide +kernel)) rfl
set_option maxRecDepth 20000 in
theorem lk_2_212 : (Jvm.Cond.static ({ cls := "PensionHouse", name := "isDay", desc := "(I)Z" } : Jvm.MethodName)) ∈ jw := jt2 (List.mem_of_getElem? (i := 212) (by decide +kernel)) rfl
set_option maxRecDepth 20000 in
theorem lk_2_213 : (Jvm.Cond.code ({ cls := "PensionHouse", name := "isDay", desc := "(I)Z" } : Jvm.MethodName) prog_1_method_33_code (1 : Nat) (Option.some Jvm.ClassFile.FieldType.boolean)) ∈ jw := jt2 (List.mem_of_getElem? (i := 213) (by exact rfl)) rfl
set_option maxRecDepth 20000 in
theorem lk_2_214 : (Jvm.Cond.methodLink "PensionHouseLaw" (29 : Nat) ({ cls := "PensionHouse", name := "person", desc := "(ZI)I" } : Jvm.MethodName)) ∈ jw := jt2 (List.mem_of_getElem? (i := 214) (by decide +kernel)) rfl
set_option maxRecDepth 20000 in
theorem lk_2_215 : (Jvm.Cond.instanceMethod ({ cls := "PensionHouse", name := "person", desc := "(ZI)I" } : Jvm.MethodName)) ∈ jw := jt2 (List.mem_of_getElem? (i := 215) (by decide +kernel)) rfl
set_option maxRecDepth 20000 in
theorem lk_2_216 : (Jvm.Cond.selects "PensionHouse" ({ cls := "PensionHouse", name := "person", desc := "(ZI)I" } : Jvm.MethodName) ({ cls := "PensionHouse", name := "person", desc := "(ZI)I" } : Jvm.MethodName)) ∈ jw := jt2 (List.mem_of_getElem? (i := 216) (by decide +kernel)) rfl
set_option maxRecDepth 20000 in
theorem lk_2_217 : (Jvm.Cond.code ({ cls := "PensionHouse", name := "person", desc := "(ZI)I" } : Jvm.MethodName) prog_1_method_5_code (3 : Nat) (Option.some Jvm.ClassFile.FieldType.int)) ∈ jw := jt2 (List.mem_of_getElem? (i := 217) (by exact rfl)) rfl
set_option maxRecDepth 20000 in
theorem lk_2_218 : (Jvm.Cond.constant "PensionHouse" (103 : Nat) (-40000 : Int32)) ∈ jw := jt2 (List.mem_of_getElem? (i := 218) (by decide +kernel)) rfl
set_option maxRecDepth 20000 in
theorem lk_2_219 : (Jvm.Cond.methodLink "PensionHouse" (104 : Nat) ({ cls := "PensionHouse$Register", name := "addPerson", desc := "(ZI)I" } : Jvm.MethodName)) ∈ jw := jt2 (List.mem_of_getElem? (i := 219) (by decide +kernel)) rfl
set_option maxRecDepth 20000 in
theorem lk_2_220 : (Jvm.Cond.instanceMethod ({ cls := "PensionHouse$Register", name := "addPerson", desc := "(ZI)I" } : Jvm.MethodName)) ∈ jw := jt2 (List.mem_of_getElem? (i := 220) (by decide +kernel)) rfl
set_option maxRecDepth 20000 in
theorem lk_2_221 : (Jvm.Cond.selects "PensionHouse$Register" ({ cls := "PensionHouse$Register", name := "addPerson", desc := "(ZI)I" } : Jvm.MethodName) ({ cls := "PensionHouse$Register", name := "addPerson", desc := "(ZI)I" } : Jvm.MethodName)) ∈ jw := jt2 (List.mem_of_getElem? (i := 221) (by decide +kernel)) rfl
set_option maxRecDepth 20000 in
theorem lk_2_222 : (Jvm.Cond.code ({ cls := "PensionHouse$Register", name := "addPerson", desc := "(ZI)I" } : Jvm.MethodName) prog_8_method_2_code (3 : Nat) (Option.some Jvm.ClassFile.FieldType.int)) ∈ jw := jt2 (List.mem_of_getElem? (i := 222) (by exact rfl)) rfl
set_option maxRecDepth 20000 in
theorem lk_2_223 : (Jvm.Cond.methodLink "PensionHouseLaw" (34 : Nat) ({ cls := "PensionHouse", name := "desk", desc := "(II)I" } : Jvm.MethodName)) ∈ jw := jt2 (List.mem_of_getElem? (i := 223) (by decide +kernel)) rfl
set_option maxRecDepth 20000 in
theorem lk_2_224 : (Jvm.Cond.instanceMethod ({ cls := "PensionHouse", name := "desk", desc := "(II)I" } : Jvm.MethodName)) ∈ jw := jt2 (List.mem_of_getElem? (i := 224) (by decide +kernel)) rfl
set_option maxRecDepth 20000 in
theorem lk_2_225 : (Jvm.Cond.selects "PensionHouse" ({ cls := "PensionHouse", name := "desk", desc := "(II)I" } : Jvm.MethodName) ({ cls := "PensionHouse", name := "desk", desc := "(II)I" } : Jvm.MethodName)) ∈ jw := jt2 (List.mem_of_getElem? (i := 225) (by decide +kernel)) rfl
set_option maxRecDepth 20000 in
theorem lk_2_226 : (Jvm.Cond.code ({ cls := "PensionHouse", name := "desk", desc := "(II)I" } : Jvm.MethodName) prog_1_method_6_code (4 : Nat) (Option.some Jvm.ClassFile.FieldType.int)) ∈ jw := jt2 (List.mem_of_getElem? (i := 226) (by exact rfl)) rfl
set_option maxRecDepth 20000 in
theorem lk_2_227 : (Jvm.Cond.methodLink "PensionHouse" (108 : Nat) ({ cls := "PensionHouse$Value", name := "setRow", desc := "(II)V" } : Jvm.MethodName)) ∈ jw := jt2 (List.mem_of_getElem? (i := 227) (by decide +kernel)) rfl
set_option maxRecDepth 20000 in
theorem lk_2_228 : (Jvm.Cond.instanceMethod ({ cls := "PensionHouse$Value", name := "setRow", desc := "(II)V" } : Jvm.MethodName)) ∈ jw := jt2 (List.mem_of_getElem? (i := 228) (by decide +kernel)) rfl
set_option maxRecDepth 20000 in
theorem lk_2_229 : (Jvm.Cond.selects "PensionHouse$Value" ({ cls := "PensionHouse$Value", name := "setRow", desc := "(II)V" } : Jvm.MethodName) ({ cls := "PensionHouse$Value", name := "setRow", desc := "(II)V" } : Jvm.MethodName)) ∈ jw := jt2 (List.mem_of_getElem? (i := 229) (by decide +kernel)) rfl
set_option maxRecDepth 20000 in
theorem lk_2_230 : (Jvm.Cond.code ({ cls := "PensionHouse$Value", name := "setRow", desc := "(II)V" } : Jvm.MethodName) prog_11_method_3_code (3 : Nat) (Option.none : Option Jvm.ClassFile.FieldType)) ∈ jw := jt2 (List.mem_of_getElem? (i := 230) (by exact rfl)) rfl
set_option maxRecDepth 20000 in
theorem lk_2_231 : (Jvm.Cond.constantLong "PensionHouse$Value" (22 : Nat) (-1 : Int64)) ∈ jw := jt2 (List.mem_of_getElem? (i := 231) (by decide +kernel)) rfl
set_option maxRecDepth 20000 in
theorem lk_2_232 : (Jvm.Cond.methodLink "PensionHouse$Value" (24 : Nat) ({ cls := "java/util/Arrays", name := "fill", desc := "([JJ)V" } : Jvm.MethodName)) ∈ jw := jt2 (List.mem_of_getElem? (i := 232) (by decide +kernel)) rfl
set_option maxRecDepth 20000 in
theorem lk_2_233 : (Jvm.Cond.static ({ cls := "java/util/Arrays", name := "fill", desc := "([JJ)V" } : Jvm.MethodName)) ∈ jw := jt2 (List.mem_of_getElem? (i := 233) (by decide +kernel)) rfl
set_option maxRecDepth 20000 in
theorem lk_2_234 : (Jvm.Cond.code ({ cls := "java/util/Arrays", name := "fill", desc := "([JJ)V" } : Jvm.MethodName) prog_21_method_101_code (5 : Nat) (Option.none : Option Jvm.ClassFile.FieldType)) ∈ jw := jt2 (List.mem_of_getElem? (i := 234) (by exact rfl)) rfl
set_option maxRecDepth 20000 in
theorem lk_2_235 : (Jvm.Cond.methodLink "PensionHouse" (112 : Nat) ({ cls := "PensionHouse$Value", name := "setNumber", desc := "(IJ)V" } : Jvm.MethodName)) ∈ jw := jt2 (List.mem_of_getElem? (i := 235) (by decide +kernel)) rfl
set_option maxRecDepth 20000 in
theorem lk_2_236 : (Jvm.Cond.instanceMethod ({ cls := "PensionHouse$Value", name := "setNumber", desc := "(IJ)V" } : Jvm.MethodName)) ∈ jw := jt2 (List.mem_of_getElem? (i := 236) (by decide +kernel)) rfl
set_option maxRecDepth 20000 in
theorem lk_2_237 : (Jvm.Cond.selects "PensionHouse$Value" ({ cls := "PensionHouse$Value", name := "setNumber", desc := "(IJ)V" } : Jvm.MethodName) ({ cls := "PensionHouse$Value", name := "setNumber", desc := "(IJ)V" } : Jvm.MethodName)) ∈ jw := jt2 (List.mem_of_getElem? (i := 237) (by decide +kernel)) rfl
set_option maxRecDepth 20000 in
theorem lk_2_238 : (Jvm.Cond.code ({ cls := "PensionHouse$Value", name := "setNumber", desc := "(IJ)V" } : Jvm.MethodName) prog_11_method_2_code (4 : Nat) (Option.none : Option Jvm.ClassFile.FieldType)) ∈ jw := jt2 (List.mem_of_getElem? (i := 238) (by exact rfl)) rfl
set_option maxRecDepth 20000 in
theorem lk_2_239 : (Jvm.Cond.methodLink "PensionHouseLaw" (39 : Nat) ({ cls := "PensionHouse", name := "write", desc := "(IJ)I" } : Jvm.MethodName)) ∈ jw := jt2 (List.mem_of_getElem? (i := 239) (by decide +kernel)) rfl
set_option maxRecDepth 20000 in
theorem lk_3_0 : (Jvm.Cond.instanceMethod ({ cls := "PensionHouse", name := "write", desc := "(IJ)I" } : Jvm.MethodName)) ∈ jw := jt3 (List.mem_of_getElem? (i := 0) (by decide +kernel)) rfl
set_option maxRecDepth 20000 in
theorem lk_3_1 : (Jvm.Cond.selects "PensionHouse" ({ cls := "PensionHouse", name := "write", desc := "(IJ)I" } : Jvm.MethodName) ({ cls := "PensionHouse", name := "write", desc := "(IJ)I" } : Jvm.MethodName)) ∈ jw := jt3 (List.mem_of_getElem? (i := 1) (by decide +kernel)) rfl
set_option maxRecDepth 20000 in
theorem lk_3_2 : (Jvm.Cond.code ({ cls := "PensionHouse", name := "write", desc := "(IJ)I" } : Jvm.MethodName) prog_1_method_7_code (4 : Nat) (Option.some Jvm.ClassFile.FieldType.int)) ∈ jw := jt3 (List.mem_of_getElem? (i := 2) (by exact rfl)) rfl
set_option maxRecDepth 20000 in
theorem lk_3_3 : (Jvm.Cond.methodLink "PensionHouse" (116 : Nat) ({ cls := "PensionHouse$Value", name := "isNumber", desc := "()Z" } : Jvm.MethodName)) ∈ jw := jt3 (List.mem_of_getElem? (i := 3) (by decide +kernel)) rfl
set_option maxRecDepth 20000 in
theorem lk_3_4 : (Jvm.Cond.instanceMethod ({ cls := "PensionHouse$Value", name := "isNumber", desc := "()Z" } : Jvm.MethodName)) ∈ jw := jt3 (List.mem_of_getElem? (i := 4) (by decide +kernel)) rfl
set_option maxRecDepth 20000 in
theorem lk_3_5 : (Jvm.Cond.selects "PensionHouse$Value" ({ cls := "PensionHouse$Value", name := "isNumber", desc := "()Z" } : Jvm.MethodName) ({ cls := "PensionHouse$Value", name := "isNumber", desc := "()Z" } : Jvm.MethodName)) ∈ jw := jt3 (List.mem_of_getElem? (i := 5) (by decide +kernel)) rfl
set_option maxRecDepth 20000 in
theorem lk_3_6 : (Jvm.Cond.code ({ cls := "PensionHouse$Value", name := "isNumber", desc := "()Z" } : Jvm.MethodName) prog_11_method_6_code (1 : Nat) (Option.some Jvm.ClassFile.FieldType.boolean)) ∈ jw := jt3 (List.mem_of_getElem? (i := 6) (by exact rfl)) rfl
set_option maxRecDepth 20000 in
theorem lk_3_7 : (Jvm.Cond.methodLink "PensionHouse" (120 : Nat) ({ cls := "PensionHouse$Value", name := "isRowOfNumbers", desc := "()Z" } : Jvm.MethodName)) ∈ jw := jt3 (List.mem_of_getElem? (i := 7) (by decide +kernel)) rfl
set_option maxRecDepth 20000 in
theorem lk_3_8 : (Jvm.Cond.instanceMethod ({ cls := "PensionHouse$Value", name := "isRowOfNumbers", desc := "()Z" } : Jvm.MethodName)) ∈ jw := jt3 (List.mem_of_getElem? (i := 8) (by decide +kernel)) rfl
set_option maxRecDepth 20000 in
theorem lk_3_9 : (Jvm.Cond.selects "PensionHouse$Value" ({ cls := "PensionHouse$Value", name := "isRowOfNumbers", desc := "()Z" } : Jvm.MethodName) ({ cls := "PensionHouse$Value", name := "isRowOfNumbers", desc := "()Z" } : Jvm.MethodName)) ∈ jw := jt3 (List.mem_of_getElem? (i := 9) (by decide +kernel)) rfl
set_option maxRecDepth 20000 in
theorem lk_3_10 : (Jvm.Cond.code ({ cls := "PensionHouse$Value", name := "isRowOfNumbers", desc := "()Z" } : Jvm.MethodName) prog_11_method_8_code (1 : Nat) (Option.some Jvm.ClassFile.FieldType.boolean)) ∈ jw := jt3 (List.mem_of_getElem? (i := 10) (by exact rfl)) rfl
set_option maxRecDepth 20000 in
theorem lk_3_11 : (Jvm.Cond.methodLink "PensionHouse" (123 : Nat) ({ cls := "PensionHouse$Value", name := "hasItem", desc := "(J)Z" } : Jvm.MethodName)) ∈ jw := jt3 (List.mem_of_getElem? (i := 11) (by decide +kernel)) rfl
set_option maxRecDepth 20000 in
theorem lk_3_12 : (Jvm.Cond.instanceMethod ({ cls := "PensionHouse$Value", name := "hasItem", desc := "(J)Z" } : Jvm.MethodName)) ∈ jw := jt3 (List.mem_of_getElem? (i := 12) (by decide +kernel)) rfl
set_option maxRecDepth 20000 in
theorem lk_3_13 : (Jvm.Cond.selects "PensionHouse$Value" ({ cls := "PensionHouse$Value", name := "hasItem", desc := "(J)Z" } : Jvm.MethodName) ({ cls := "PensionHouse$Value", name := "hasItem", desc := "(J)Z" } : Jvm.MethodName)) ∈ jw := jt3 (List.mem_of_getElem? (i := 13) (by decide +kernel)) rfl
set_option maxRecDepth 20000 in
theorem lk_3_14 : (Jvm.Cond.code ({ cls := "PensionHouse$Value", name := "hasItem", desc := "(J)Z" } : Jvm.MethodName) prog_11_method_10_code (3 : Nat) (Option.some Jvm.ClassFile.FieldType.boolean)) ∈ jw := jt3 (List.mem_of_getElem? (i := 14) (by exact rfl)) rfl
set_option maxRecDepth 20000 in
theorem lk_3_15 : (Jvm.Cond.constantLong "PensionHouse$Value" (44 : Nat) (12 : Int64)) ∈ jw := jt3 (List.mem_of_getElem? (i := 15) (by decide +kernel)) rfl
set_option maxRecDepth 20000 in
theorem lk_3_16 : (Jvm.Cond.methodLink "PensionHouse" (127 : Nat) ({ cls := "PensionHouse$Value", name := "setBits", desc := "(IJ)V" } : Jvm.MethodName)) ∈ jw := jt3 (List.mem_of_getElem? (i := 16) (by decide +kernel)) rfl
set_option maxRecDepth 20000 in
theorem lk_3_17 : (Jvm.Cond.instanceMethod ({ cls := "PensionHouse$Value", name := "setBits", desc := "(IJ)V" } : Jvm.MethodName)) ∈ jw := jt3 (List.mem_of_getElem? (i := 17) (by decide +kernel)) rfl
set_option maxRecDepth 20000 in
theorem lk_3_18 : (Jvm.Cond.selects "PensionHouse$Value" ({ cls := "PensionHouse$Value", name := "setBits", desc := "(IJ)V" } : Jvm.MethodName) ({ cls := "PensionHouse$Value", name := "setBits", desc := "(IJ)V" } : Jvm.MethodName)) ∈ jw := jt3 (List.mem_of_getElem? (i := 18) (by decide +kernel)) rfl
set_option maxRecDepth 20000 in
theorem lk_3_19 : (Jvm.Cond.code ({ cls := "PensionHouse$Value", name := "setBits", desc := "(IJ)V" } : Jvm.MethodName) prog_11_method_5_code (4 : Nat) (Option.none : Option Jvm.ClassFile.FieldType)) ∈ jw := jt3 (List.mem_of_getElem? (i := 19) (by exact rfl)) rfl
set_option maxRecDepth 20000 in
theorem lk_3_20 : (Jvm.Cond.methodLink "PensionHouse$Value" (36 : Nat) ({ cls := "PensionHouse$Real", name := "isNot", desc := "(J)Z" } : Jvm.MethodName)) ∈ jw := jt3 (List.mem_of_getElem? (i := 20) (by decide +kernel)) rfl
set_option maxRecDepth 20000 in
theorem lk_3_21 : (Jvm.Cond.static ({ cls := "PensionHouse$Real", name := "isNot", desc := "(J)Z" } : Jvm.MethodName)) ∈ jw := jt3 (List.mem_of_getElem? (i := 21) (by decide +kernel)) rfl
set_option maxRecDepth 20000 in
theorem lk_3_22 : (Jvm.Cond.code ({ cls := "PensionHouse$Real", name := "isNot", desc := "(J)Z" } : Jvm.MethodName) prog_7_method_2_code (2 : Nat) (Option.some Jvm.ClassFile.FieldType.boolean)) ∈ jw := jt3 (List.mem_of_getElem? (i := 22) (by exact rfl)) rfl
set_option maxRecDepth 20000 in
theorem lk_3_23 : (Jvm.Cond.constantLong "PensionHouse$Real" (9 : Nat) (9223372036854775807 : Int64)) ∈ jw := jt3 (List.mem_of_getElem? (i := 23) (by decide +kernel)) rfl
set_option maxRecDepth 20000 in
theorem lk_3_24 : (Jvm.Cond.constantLong "PensionHouse$Real" (11 : Nat) (9218868437227405312 : Int64)) ∈ jw := jt3 (List.mem_of_getElem? (i := 24) (by decide +kernel)) rfl
set_option maxRecDepth 20000 in
theorem lk_3_25 : (Jvm.Cond.constantLong "PensionHouse$Value" (42 : Nat) (9221120237041090560 : Int64)) ∈ jw := jt3 (List.mem_of_getElem? (i := 25) (by decide +kernel)) rfl
set_option maxRecDepth 20000 in
theorem lk_3_26 : (Jvm.Cond.methodLink "PensionHouseLaw" (44 : Nat) ({ cls := "PensionHouse", name := "seat", desc := "(II)I" } : Jvm.MethodName)) ∈ jw := jt3 (List.mem_of_getElem? (i := 26) (by decide +kernel)) rfl
set_option maxRecDepth 20000 in
theorem lk_3_27 : (Jvm.Cond.instanceMethod ({ cls := "PensionHouse", name := "seat", desc := "(II)I" } : Jvm.MethodName)) ∈ jw := jt3 (List.mem_of_getElem? (i := 27) (by decide +kernel)) rfl
set_option maxRecDepth 20000 in
theorem lk_3_28 : (Jvm.Cond.selects "PensionHouse" ({ cls := "PensionHouse", name := "seat", desc := "(II)I" } : Jvm.MethodName) ({ cls := "PensionHouse", name := "seat", desc := "(II)I" } : Jvm.MethodName)) ∈ jw := jt3 (List.mem_of_getElem? (i := 28) (by decide +kernel)) rfl
set_option maxRecDepth 20000 in
theorem lk_3_29 : (Jvm.Cond.code ({ cls := "PensionHouse", name := "seat", desc := "(II)I" } : Jvm.MethodName) prog_1_method_8_code (3 : Nat) (Option.some Jvm.ClassFile.FieldType.int)) ∈ jw := jt3 (List.mem_of_getElem? (i := 29) (by exact rfl)) rfl
set_option maxRecDepth 20000 in
theorem lk_3_30 : (Jvm.Cond.methodLink "PensionHouse" (130 : Nat) ({ cls := "PensionHouse$Register", name := "hasPerson", desc := "(J)Z" } : Jvm.MethodName)) ∈ jw := jt3 (List.mem_of_getElem? (i := 30) (by decide +kernel)) rfl
set_option maxRecDepth 20000 in
theorem lk_3_31 : (Jvm.Cond.instanceMethod ({ cls := "PensionHouse$Register", name := "hasPerson", desc := "(J)Z" } : Jvm.MethodName)) ∈ jw := jt3 (List.mem_of_getElem? (i := 31) (by decide +kernel)) rfl
set_option maxRecDepth 20000 in
theorem lk_3_32 : (Jvm.Cond.selects "PensionHouse$Register" ({ cls := "PensionHouse$Register", name := "hasPerson", desc := "(J)Z" } : Jvm.MethodName) ({ cls := "PensionHouse$Register", name := "hasPerson", desc := "(J)Z" } : Jvm.MethodName)) ∈ jw := jt3 (List.mem_of_getElem? (i := 32) (by decide +kernel)) rfl
set_option maxRecDepth 20000 in
theorem lk_3_33 : (Jvm.Cond.code ({ cls := "PensionHouse$Register", name := "hasPerson", desc := "(J)Z" } : Jvm.MethodName) prog_8_method_3_code (3 : Nat) (Option.some Jvm.ClassFile.FieldType.boolean)) ∈ jw := jt3 (List.mem_of_getElem? (i := 33) (by exact rfl)) rfl
set_option maxRecDepth 20000 in
theorem lk_3_34 : (Jvm.Cond.methodLink "PensionHouse" (133 : Nat) ({ cls := "PensionHouse$Value", name := "isKin", desc := "()Z" } : Jvm.MethodName)) ∈ jw := jt3 (List.mem_of_getElem? (i := 34) (by decide +kernel)) rfl
set_option maxRecDepth 20000 in
theorem lk_3_35 : (Jvm.Cond.instanceMethod ({ cls := "PensionHouse$Value", name := "isKin", desc := "()Z" } : Jvm.MethodName)) ∈ jw := jt3 (List.mem_of_getElem? (i := 35) (by decide +kernel)) rfl
set_option maxRecDepth 20000 in
theorem lk_3_36 : (Jvm.Cond.selects "PensionHouse$Value" ({ cls := "PensionHouse$Value", name := "isKin", desc := "()Z" } : Jvm.MethodName) ({ cls := "PensionHouse$Value", name := "isKin", desc := "()Z" } : Jvm.MethodName)) ∈ jw := jt3 (List.mem_of_getElem? (i := 36) (by decide +kernel)) rfl
set_option maxRecDepth 20000 in
theorem lk_3_37 : (Jvm.Cond.code ({ cls := "PensionHouse$Value", name := "isKin", desc := "()Z" } : Jvm.MethodName) prog_11_method_9_code (1 : Nat) (Option.some Jvm.ClassFile.FieldType.boolean)) ∈ jw := jt3 (List.mem_of_getElem? (i := 37) (by exact rfl)) rfl
set_option maxRecDepth 20000 in
theorem lk_3_38 : (Jvm.Cond.methodLink "PensionHouse" (139 : Nat) ({ cls := "PensionHouse$Register", name := "belongs", desc := "(IJ)Z" } : Jvm.MethodName)) ∈ jw := jt3 (List.mem_of_getElem? (i := 38) (by decide +kernel)) rfl
set_option maxRecDepth 20000 in
theorem lk_3_39 : (Jvm.Cond.instanceMethod ({ cls := "PensionHouse$Register", name := "belongs", desc := "(IJ)Z" } : Jvm.MethodName)) ∈ jw := jt3 (List.mem_of_getElem? (i := 39) (by decide +kernel)) rfl
set_option maxRecDepth 20000 in
theorem lk_3_40 : (Jvm.Cond.selects "PensionHouse$Register" ({ cls := "PensionHouse$Register", name := "belongs", desc := "(IJ)Z" } : Jvm.MethodName) ({ cls := "PensionHouse$Register", name := "belongs", desc := "(IJ)Z" } : Jvm.MethodName)) ∈ jw := jt3 (List.mem_of_getElem? (i := 40) (by decide +kernel)) rfl
set_option maxRecDepth 20000 in
theorem lk_3_41 : (Jvm.Cond.code ({ cls := "PensionHouse$Register", name := "belongs", desc := "(IJ)Z" } : Jvm.MethodName) prog_8_method_4_code (4 : Nat) (Option.some Jvm.ClassFile.FieldType.boolean)) ∈ jw := jt3 (List.mem_of_getElem? (i := 41) (by exact rfl)) rfl
set_option maxRecDepth 20000 in
theorem lk_3_42 : (Jvm.Cond.methodLink "PensionHouse$Register" (32 : Nat) ({ cls := "PensionHouse$Register", name := "hasPerson", desc := "(J)Z" } : Jvm.MethodName)) ∈ jw := jt3 (List.mem_of_getElem? (i := 42) (by decide +kernel)) rfl
set_option maxRecDepth 20000 in
theorem lk_3_43 : (Jvm.Cond.methodLink "PensionHouseLaw" (48 : Nat) ({ cls := "PensionHouse", name := "sort", desc := "()I" } : Jvm.MethodName)) ∈ jw := jt3 (List.mem_of_getElem? (i := 43) (by decide +kernel)) rfl
set_option maxRecDepth 20000 in
theorem lk_3_44 : (Jvm.Cond.instanceMethod ({ cls := "PensionHouse", name := "sort", desc := "()I" } : Jvm.MethodName)) ∈ jw := jt3 (List.mem_of_getElem? (i := 44) (by decide +kernel)) rfl
set_option maxRecDepth 20000 in
theorem lk_3_45 : (Jvm.Cond.selects "PensionHouse" ({ cls := "PensionHouse", name := "sort", desc := "()I" } : Jvm.MethodName) ({ cls := "PensionHouse", name := "sort", desc := "()I" } : Jvm.MethodName)) ∈ jw := jt3 (List.mem_of_getElem? (i := 45) (by decide +kernel)) rfl
set_option maxRecDepth 20000 in
theorem lk_3_46 : (Jvm.Cond.code ({ cls := "PensionHouse", name := "sort", desc := "()I" } : Jvm.MethodName) prog_1_method_9_code (1 : Nat) (Option.some Jvm.ClassFile.FieldType.int)) ∈ jw := jt3 (List.mem_of_getElem? (i := 46) (by exact rfl)) rfl
set_option maxRecDepth 20000 in
theorem lk_3_47 : (Jvm.Cond.methodLink "PensionHouseLaw" (53 : Nat) ({ cls := "PensionHouse", name := "length", desc := "()I" } : Jvm.MethodName)) ∈ jw := jt3 (List.mem_of_getElem? (i := 47) (by decide +kernel)) rfl
set_option maxRecDepth 20000 in
theorem lk_3_48 : (Jvm.Cond.instanceMethod ({ cls := "PensionHouse", name := "length", desc := "()I" } : Jvm.MethodName)) ∈ jw := jt3 (List.mem_of_getElem? (i := 48) (by decide +kernel)) rfl
set_option maxRecDepth 20000 in
theorem lk_3_49 : (Jvm.Cond.selects "PensionHouse" ({ cls := "PensionHouse", name := "length", desc := "()I" } : Jvm.MethodName) ({ cls := "PensionHouse", name := "length", desc := "()I" } : Jvm.MethodName)) ∈ jw := jt3 (List.mem_of_getElem? (i := 49) (by decide +kernel)) rfl
set_option maxRecDepth 20000 in
theorem lk_3_50 : (Jvm.Cond.code ({ cls := "PensionHouse", name := "length", desc := "()I" } : Jvm.MethodName) prog_1_method_10_code (1 : Nat) (Option.some Jvm.ClassFile.FieldType.int)) ∈ jw := jt3 (List.mem_of_getElem? (i := 50) (by exact rfl)) rfl
set_option maxRecDepth 20000 in
theorem lk_3_51 : (Jvm.Cond.methodLink "PensionHouseLaw" (57 : Nat) ({ cls := "PensionHouse", name := "read", desc := "(I)J" } : Jvm.MethodName)) ∈ jw := jt3 (List.mem_of_getElem? (i := 51) (by decide +kernel)) rfl
set_option maxRecDepth 20000 in
theorem lk_3_52 : (Jvm.Cond.instanceMethod ({ cls := "PensionHouse", name := "read", desc := "(I)J" } : Jvm.MethodName)) ∈ jw := jt3 (List.mem_of_getElem? (i := 52) (by decide +kernel)) rfl
set_option maxRecDepth 20000 in
theorem lk_3_53 : (Jvm.Cond.selects "PensionHouse" ({ cls := "PensionHouse", name := "read", desc := "(I)J" } : Jvm.MethodName) ({ cls := "PensionHouse", name := "read", desc := "(I)J" } : Jvm.MethodName)) ∈ jw := jt3 (List.mem_of_getElem? (i := 53) (by decide +kernel)) rfl
set_option maxRecDepth 20000 in
theorem lk_3_54 : (Jvm.Cond.code ({ cls := "PensionHouse", name := "read", desc := "(I)J" } : Jvm.MethodName) prog_1_method_11_code (2 : Nat) (Option.some Jvm.ClassFile.FieldType.long)) ∈ jw := jt3 (List.mem_of_getElem? (i := 54) (by exact rfl)) rfl
set_option maxRecDepth 20000 in
theorem lk_3_55 : (Jvm.Cond.methodLink "PensionHouse" (144 : Nat) ({ cls := "PensionHouse$Value", name := "isRow", desc := "()Z" } : Jvm.MethodName)) ∈ jw := jt3 (List.mem_of_getElem? (i := 55) (by decide +kernel)) rfl
set_option maxRecDepth 20000 in
theorem lk_3_56 : (Jvm.Cond.instanceMethod ({ cls := "PensionHouse$Value", name := "isRow", desc := "()Z" } : Jvm.MethodName)) ∈ jw := jt3 (List.mem_of_getElem? (i := 56) (by decide +kernel)) rfl
set_option maxRecDepth 20000 in
theorem lk_3_57 : (Jvm.Cond.selects "PensionHouse$Value" ({ cls := "PensionHouse$Value", name := "isRow", desc := "()Z" } : Jvm.MethodName) ({ cls := "PensionHouse$Value", name := "isRow", desc := "()Z" } : Jvm.MethodName)) ∈ jw := jt3 (List.mem_of_getElem? (i := 57) (by decide +kernel)) rfl
set_option maxRecDepth 20000 in
theorem lk_3_58 : (Jvm.Cond.code ({ cls := "PensionHouse$Value", name := "isRow", desc := "()Z" } : Jvm.MethodName) prog_11_method_7_code (1 : Nat) (Option.some Jvm.ClassFile.FieldType.boolean)) ∈ jw := jt3 (List.mem_of_getElem? (i := 58) (by exact rfl)) rfl
set_option maxRecDepth 20000 in
theorem lk_3_59 : (Jvm.Cond.methodLink "PensionHouseLaw" (62 : Nat) ({ cls := "PensionHouse", name := "fact", desc := "(III)I" } : Jvm.MethodName)) ∈ jw := jt3 (List.mem_of_getElem? (i := 59) (by decide +kernel)) rfl
set_option maxRecDepth 20000 in
theorem lk_3_60 : (Jvm.Cond.instanceMethod ({ cls := "PensionHouse", name := "fact", desc := "(III)I" } : Jvm.MethodName)) ∈ jw := jt3 (List.mem_of_getElem? (i := 60) (by decide +kernel)) rfl
set_option maxRecDepth 20000 in
theorem lk_3_61 : (Jvm.Cond.selects "PensionHouse" ({ cls := "PensionHouse", name := "fact", desc := "(III)I" } : Jvm.MethodName) ({ cls := "PensionHouse", name := "fact", desc := "(III)I" } : Jvm.MethodName)) ∈ jw := jt3 (List.mem_of_getElem? (i := 61) (by decide +kernel)) rfl
set_option maxRecDepth 20000 in
theorem lk_3_62 : (Jvm.Cond.code ({ cls := "PensionHouse", name := "fact", desc := "(III)I" } : Jvm.MethodName) prog_1_method_12_code (7 : Nat) (Option.some Jvm.ClassFile.FieldType.int)) ∈ jw := jt3 (List.mem_of_getElem? (i := 62) (by exact rfl)) rfl
set_option maxRecDepth 20000 in
theorem lk_3_63 : (Jvm.Cond.methodLink "PensionHouse" (151 : Nat) ({ cls := "PensionHouse$Tape", name := "takeName", desc := "()J" } : Jvm.MethodName)) ∈ jw := jt3 (List.mem_of_getElem? (i := 63) (by decide +kernel)) rfl
set_option maxRecDepth 20000 in
theorem lk_3_64 : (Jvm.Cond.instanceMethod ({ cls := "PensionHouse$Tape", name := "takeName", desc := "()J" } : Jvm.MethodName)) ∈ jw := jt3 (List.mem_of_getElem? (i := 64) (by decide +kernel)) rfl
set_option maxRecDepth 20000 in
theorem lk_3_65 : (Jvm.Cond.selects "PensionHouse$Tape" ({ cls := "PensionHouse$Tape", name := "takeName", desc := "()J" } : Jvm.MethodName) ({ cls := "PensionHouse$Tape", name := "takeName", desc := "()J" } : Jvm.MethodName)) ∈ jw := jt3 (List.mem_of_getElem? (i := 65) (by decide +kernel)) rfl
set_option maxRecDepth 20000 in
theorem lk_3_66 : (Jvm.Cond.code ({ cls := "PensionHouse$Tape", name := "takeName", desc := "()J" } : Jvm.MethodName) prog_9_method_4_code (3 : Nat) (Option.some Jvm.ClassFile.FieldType.long)) ∈ jw := jt3 (List.mem_of_getElem? (i := 66) (by exact rfl)) rfl
set_option maxRecDepth 20000 in
theorem lk_3_67 : (Jvm.Cond.methodLink "PensionHouse$Tape" (23 : Nat) ({ cls := "PensionHouse$Tape", name := "open", desc := "()V" } : Jvm.MethodName)) ∈ jw := jt3 (List.mem_of_getElem? (i := 67) (by decide +kernel)) rfl
set_option maxRecDepth 20000 in
theorem lk_3_68 : (Jvm.Cond.instanceMethod ({ cls := "PensionHouse$Tape", name := "open", desc := "()V" } : Jvm.MethodName)) ∈ jw := jt3 (List.mem_of_getElem? (i := 68) (by decide +kernel)) rfl
set_option maxRecDepth 20000 in
theorem lk_3_69 : (Jvm.Cond.selects "PensionHouse$Tape" ({ cls := "PensionHouse$Tape", name := "open", desc := "()V" } : Jvm.MethodName) ({ cls := "PensionHouse$Tape", name := "open", desc := "()V" } : Jvm.MethodName)) ∈ jw := jt3 (List.mem_of_getElem? (i := 69) (by decide +kernel)) rfl
set_option maxRecDepth 20000 in
theorem lk_3_70 : (Jvm.Cond.code ({ cls := "PensionHouse$Tape", name := "open", desc := "()V" } : Jvm.MethodName) prog_9_method_3_code (1 : Nat) (Option.none : Option Jvm.ClassFile.FieldType)) ∈ jw := jt3 (List.mem_of_getElem? (i := 70) (by exact rfl)) rfl
set_option maxRecDepth 20000 in
theorem lk_3_71 : (Jvm.Cond.methodLink "PensionHouse$Tape" (26 : Nat) ({ cls := "PensionHouse$Tape", name := "next", desc := "()V" } : Jvm.MethodName)) ∈ jw := jt3 (List.mem_of_getElem? (i := 71) (by decide +kernel)) rfl
set_option maxRecDepth 20000 in
theorem lk_3_72 : (Jvm.Cond.instanceMethod ({ cls := "PensionHouse$Tape", name := "next", desc := "()V" } : Jvm.MethodName)) ∈ jw := jt3 (List.mem_of_getElem? (i := 72) (by decide +kernel)) rfl
set_option maxRecDepth 20000 in
theorem lk_3_73 : (Jvm.Cond.selects "PensionHouse$Tape" ({ cls := "PensionHouse$Tape", name := "next", desc := "()V" } : Jvm.MethodName) ({ cls := "PensionHouse$Tape", name := "next", desc := "()V" } : Jvm.MethodName)) ∈ jw := jt3 (List.mem_of_getElem? (i := 73) (by decide +kernel)) rfl
set_option maxRecDepth 20000 in
theorem lk_3_74 : (Jvm.Cond.code ({ cls := "PensionHouse$Tape", name := "next", desc := "()V" } : Jvm.MethodName) prog_9_method_5_code (2 : Nat) (Option.none : Option Jvm.ClassFile.FieldType)) ∈ jw := jt3 (List.mem_of_getElem? (i := 74) (by exact rfl)) rfl
set_option maxRecDepth 20000 in
theorem lk_3_75 : (Jvm.Cond.methodLink "PensionHouse$Tape" (36 : Nat) ({ cls := "PensionHouse$Tape", name := "byteAt", desc := "(I)I" } : Jvm.MethodName)) ∈ jw := jt3 (List.mem_of_getElem? (i := 75) (by decide +kernel)) rfl
set_option maxRecDepth 20000 in
theorem lk_3_77 : (Jvm.Cond.instanceMethod ({ cls := "PensionHouse$Tape", name := "byteAt", desc := "(I)I" } : Jvm.MethodName)) ∈ jw := jt3 (List.mem_of_getElem? (i := 77) (by decide +kernel)) rfl
set_option maxRecDepth 20000 in
theorem lk_3_78 : (Jvm.Cond.code ({ cls := "PensionHouse$Tape", name := "byteAt", desc := "(I)I" } : Jvm.MethodName) prog_9_method_6_code (2 : Nat) (Option.some Jvm.ClassFile.FieldType.int)) ∈ jw := jt3 (List.mem_of_getElem? (i := 78) (by exact rfl)) rfl
set_option maxRecDepth 20000 in
theorem lk_3_79 : (Jvm.Cond.methodLink "PensionHouse$Tape" (43 : Nat) ({ cls := "PensionHouse$Tape", name := "isLetter", desc := "(I)Z" } : Jvm.MethodName)) ∈ jw := jt3 (List.mem_of_getElem? (i := 79) (by decide +kernel)) rfl
set_option maxRecDepth 20000 in
theorem lk_3_80 : (Jvm.Cond.static ({ cls := "PensionHouse$Tape", name := "isLetter", desc := "(I)Z" } : Jvm.MethodName)) ∈ jw := jt3 (List.mem_of_getElem? (i := 80) (by decide +kernel)) rfl
set_option maxRecDepth 20000 in
theorem lk_3_81 : (Jvm.Cond.code ({ cls := "PensionHouse$Tape", name := "isLetter", desc := "(I)Z" } : Jvm.MethodName) prog_9_method_7_code (1 : Nat) (Option.some Jvm.ClassFile.FieldType.boolean)) ∈ jw := jt3 (List.mem_of_getElem? (i := 81) (by exact rfl)) rfl
set_option maxRecDepth 20000 in
theorem lk_3_82 : (Jvm.Cond.methodLink "PensionHouse$Tape" (47 : Nat) ({ cls := "PensionHouse$Tape", name := "readLetters", desc := "()V" } : Jvm.MethodName)) ∈ jw := jt3 (List.mem_of_getElem? (i := 82) (by decide +kernel)) rfl
set_option maxRecDepth 20000 in
theorem lk_3_84 : (Jvm.Cond.instanceMethod ({ cls := "PensionHouse$Tape", name := "readLetters", desc := "()V" } : Jvm.MethodName)) ∈ jw := jt3 (List.mem_of_getElem? (i := 84) (by decide +kernel)) rfl
set_option maxRecDepth 20000 in
theorem lk_3_85 : (Jvm.Cond.code ({ cls := "PensionHouse$Tape", name := "readLetters", desc := "()V" } : Jvm.MethodName) prog_9_method_9_code (1 : Nat) (Option.none : Option Jvm.ClassFile.FieldType)) ∈ jw := jt3 (List.mem_of_getElem? (i := 85) (by exact rfl)) rfl
set_option maxRecDepth 20000 in
theorem lk_3_86 : (Jvm.Cond.methodLink "PensionHouse$Tape" (50 : Nat) ({ cls := "PensionHouse$Tape", name := "isDigit", desc := "(I)Z" } : Jvm.MethodName)) ∈ jw := jt3 (List.mem_of_getElem? (i := 86) (by decide +kernel)) rfl
set_option maxRecDepth 20000 in
theorem lk_3_87 : (Jvm.Cond.static ({ cls := "PensionHouse$Tape", name := "isDigit", desc := "(I)Z" } : Jvm.MethodName)) ∈ jw := jt3 (List.mem_of_getElem? (i := 87) (by decide +kernel)) rfl
set_option maxRecDepth 20000 in
theorem lk_3_88 : (Jvm.Cond.code ({ cls := "PensionHouse$Tape", name := "isDigit", desc := "(I)Z" } : Jvm.MethodName) prog_9_method_8_code (1 : Nat) (Option.some Jvm.ClassFile.FieldType.boolean)) ∈ jw := jt3 (List.mem_of_getElem? (i := 88) (by exact rfl)) rfl
set_option maxRecDepth 20000 in
theorem lk_3_89 : (Jvm.Cond.methodLink "PensionHouse$Tape" (60 : Nat) ({ cls := "PensionHouse$Tape", name := "wordOrName", desc := "(J)I" } : Jvm.MethodName)) ∈ jw := jt3 (List.mem_of_getElem? (i := 89) (by decide +kernel)) rfl
set_option maxRecDepth 20000 in
theorem lk_3_90 : (Jvm.Cond.static ({ cls := "PensionHouse$Tape", name := "wordOrName", desc := "(J)I" } : Jvm.MethodName)) ∈ jw := jt3 (List.mem_of_getElem? (i := 90) (by decide +kernel)) rfl
set_option maxRecDepth 20000 in
theorem lk_3_91 : (Jvm.Cond.code ({ cls := "PensionHouse$Tape", name := "wordOrName", desc := "(J)I" } : Jvm.MethodName) prog_9_method_10_code (7 : Nat) (Option.some Jvm.ClassFile.FieldType.int)) ∈ jw := jt3 (List.mem_of_getElem? (i := 91) (by exact rfl)) rfl
set_option maxRecDepth 20000 in
theorem lk_3_93 : (Jvm.Cond.methodLink "PensionHouse$Tape" (66 : Nat) ({ cls := "java/lang/String", name := "length", desc := "()I" } : Jvm.MethodName)) ∈ jw := jt3 (List.mem_of_getElem? (i := 93) (by decide +kernel)) rfl
set_option maxRecDepth 20000 in
theorem lk_3_94 : (Jvm.Cond.instanceMethod ({ cls := "java/lang/String", name := "length", desc := "()I" } : Jvm.MethodName)) ∈ jw := jt3 (List.mem_of_getElem? (i := 94) (by decide +kernel)) rfl
set_option maxRecDepth 20000 in
theorem lk_3_95 : (Jvm.Cond.selects "java/lang/String" ({ cls := "java/lang/String", name := "length", desc := "()I" } : Jvm.MethodName) ({ cls := "java/lang/String", name := "length", desc := "()I" } : Jvm.MethodName)) ∈ jw := jt3 (List.mem_of_getElem? (i := 95) (by decide +kernel)) rfl
set_option maxRecDepth 20000 in
theorem lk_3_96 : (Jvm.Cond.code ({ cls := "java/lang/String", name := "length", desc := "()I" } : Jvm.MethodName) prog_17_method_54_code (1 : Nat) (Option.some Jvm.ClassFile.FieldType.int)) ∈ jw := jt3 (List.mem_of_getElem? (i := 96) (by exact rfl)) rfl
set_option maxRecDepth 20000 in
theorem lk_3_97 : (Jvm.Cond.methodLink "java/lang/String" (335 : Nat) ({ cls := "java/lang/String", name := "coder", desc := "()B" } : Jvm.MethodName)) ∈ jw := jt3 (List.mem_of_getElem? (i := 97) (by decide +kernel)) rfl
set_option maxRecDepth 20000 in
theorem lk_3_98 : (Jvm.Cond.instanceMethod ({ cls := "java/lang/String", name := "coder", desc := "()B" } : Jvm.MethodName)) ∈ jw := jt3 (List.mem_of_getElem? (i := 98) (by decide +kernel)) rfl
set_option maxRecDepth 20000 in
theorem lk_3_99 : (Jvm.Cond.selects "java/lang/String" ({ cls := "java/lang/String", name := "coder", desc := "()B" } : Jvm.MethodName) ({ cls := "java/lang/String", name := "coder", desc := "()B" } : Jvm.MethodName)) ∈ jw := jt3 (List.mem_of_getElem? (i := 99) (by decide +kernel)) rfl
set_option maxRecDepth 20000 in
theorem lk_3_100 : (Jvm.Cond.code ({ cls := "java/lang/String", name := "coder", desc := "()B" } : Jvm.MethodName) prog_17_method_152_code (1 : Nat) (Option.some Jvm.ClassFile.FieldType.byte)) ∈ jw := jt3 (List.mem_of_getElem? (i := 100) (by exact rfl)) rfl
set_option maxRecDepth 20000 in
theorem lk_3_101 : (Jvm.Cond.fieldLink "java/lang/String" (38 : Nat) "java/lang/String" "COMPACT_STRINGS" "Z") ∈ jw := jt3 (List.mem_of_getElem? (i := 101) (by decide +kernel)) rfl
set_option maxRecDepth 20000 in
theorem lk_3_103 : (Jvm.Cond.methodLink "PensionHouse$Tape" (72 : Nat) ({ cls := "java/lang/String", name := "charAt", desc := "(I)C" } : Jvm.MethodName)) ∈ jw := jt3 (List.mem_of_getElem? (i := 103) (by decide +kernel)) rfl
set_option maxRecDepth 20000 in
theorem lk_3_104 : (Jvm.Cond.instanceMethod ({ cls := "java/lang/String", name := "charAt", desc := "(I)C" } : Jvm.MethodName)) ∈ jw := jt3 (List.mem_of_getElem? (i := 104) (by decide +kernel)) rfl
set_option maxRecDepth 20000 in
theorem lk_3_105 : (Jvm.Cond.selects "java/lang/String" ({ cls := "java/lang/String", name := "charAt", desc := "(I)C" } : Jvm.MethodName) ({ cls := "java/lang/String", name := "charAt", desc := "(I)C" } : Jvm.MethodName)) ∈ jw := jt3 (List.mem_of_getElem? (i := 105) (by decide +kernel)) rfl
set_option maxRecDepth 20000 in
theorem lk_3_106 : (Jvm.Cond.code ({ cls := "java/lang/String", name := "charAt", desc := "(I)C" } : Jvm.MethodName) prog_17_method_56_code (2 : Nat) (Option.some Jvm.ClassFile.FieldType.char)) ∈ jw := jt3 (List.mem_of_getElem? (i := 106) (by exact rfl)) rfl
set_option maxRecDepth 20000 in
theorem lk_3_107 : (Jvm.Cond.methodLink "java/lang/String" (492 : Nat) ({ cls := "java/lang/String", name := "isLatin1", desc := "()Z" } : Jvm.MethodName)) ∈ jw := jt3 (List.mem_of_getElem? (i := 107) (by decide +kernel)) rfl
set_option maxRecDepth 20000 in
theorem lk_3_108 : (Jvm.Cond.instanceMethod ({ cls := "java/lang/String", name := "isLatin1", desc := "()Z" } : Jvm.MethodName)) ∈ jw := jt3 (List.mem_of_getElem? (i := 108) (by decide +kernel)) rfl
set_option maxRecDepth 20000 in
theorem lk_3_109 : (Jvm.Cond.selects "java/lang/String" ({ cls := "java/lang/String", name := "isLatin1", desc := "()Z" } : Jvm.MethodName) ({ cls := "java/lang/String", name := "isLatin1", desc := "()Z" } : Jvm.MethodName)) ∈ jw := jt3 (List.mem_of_getElem? (i := 109) (by decide +kernel)) rfl
set_option maxRecDepth 20000 in
theorem lk_3_110 : (Jvm.Cond.code ({ cls := "java/lang/String", name := "isLatin1", desc := "()Z" } : Jvm.MethodName) prog_17_method_154_code (1 : Nat) (Option.some Jvm.ClassFile.FieldType.boolean)) ∈ jw := jt3 (List.mem_of_getElem? (i := 110) (by exact rfl)) rfl
set_option maxRecDepth 20000 in
theorem lk_3_111 : (Jvm.Cond.methodLink "java/lang/String" (495 : Nat) ({ cls := "java/lang/StringLatin1", name := "charAt", desc := "([BI)C" } : Jvm.MethodName)) ∈ jw := jt3 (List.mem_of_getElem? (i := 111) (by decide +kernel)) rfl
set_option maxRecDepth 20000 in
theorem lk_3_112 : (Jvm.Cond.static ({ cls := "java/lang/StringLatin1", name := "charAt", desc := "([BI)C" } : Jvm.MethodName)) ∈ jw := jt3 (List.mem_of_getElem? (i := 112) (by decide +kernel)) rfl
set_option maxRecDepth 20000 in
theorem lk_3_113 : (Jvm.Cond.code ({ cls := "java/lang/StringLatin1", name := "charAt", desc := "([BI)C" } : Jvm.MethodName) prog_18_method_2_code (2 : Nat) (Option.some Jvm.ClassFile.FieldType.char)) ∈ jw := jt3 (List.mem_of_getElem? (i := 113) (by exact rfl)) rfl
set_option maxRecDepth 20000 in
theorem lk_3_114 : (Jvm.Cond.methodLink "java/lang/StringLatin1" (9 : Nat) ({ cls := "java/lang/String", name := "checkIndex", desc := "(II)V" } : Jvm.MethodName)) ∈ jw := jt3 (List.mem_of_getElem? (i := 114) (by decide +kernel)) rfl
set_option maxRecDepth 20000 in
theorem lk_3_115 : (Jvm.Cond.static ({ cls := "java/lang/String", name := "checkIndex", desc := "(II)V" } : Jvm.MethodName)) ∈ jw := jt3 (List.mem_of_getElem? (i := 115) (by decide +kernel)) rfl
set_option maxRecDepth 20000 in
theorem lk_3_116 : (Jvm.Cond.code ({ cls := "java/lang/String", name := "checkIndex", desc := "(II)V" } : Jvm.MethodName) prog_17_method_155_code (2 : Nat) (Option.none : Option Jvm.ClassFile.FieldType)) ∈ jw := jt3 (List.mem_of_getElem? (i := 116) (by exact rfl)) rfl
set_option maxRecDepth 20000 in
theorem lk_3_117 : (Jvm.Cond.fieldLink "java/lang/String" (1053 : Nat) "jdk/internal/util/Preconditions" "SIOOBE_FORMATTER" "Ljava/util/function/BiFunction;") ∈ jw := jt3 (List.mem_of_getElem? (i := 117) (by decide +kernel)) rfl
set_option maxRecDepth 20000 in
theorem lk_3_119 : (Jvm.Cond.methodLink "java/lang/String" (1059 : Nat) ({ cls := "jdk/internal/util/Preconditions", name := "checkIndex", desc := "(IILjava/util/function/BiFunction;)I" } : Jvm.MethodName)) ∈ jw := jt3 (List.mem_of_getElem? (i := 119) (by decide +kernel)) rfl
set_option maxRecDepth 20000 in
theorem lk_3_120 : (Jvm.Cond.static ({ cls := "jdk/internal/util/Preconditions", name := "checkIndex", desc := "(IILjava/util/function/BiFunction;)I" } : Jvm.MethodName)) ∈ jw := jt3 (List.mem_of_getElem? (i := 120) (by decide +kernel)) rfl
set_option maxRecDepth 20000 in
theorem lk_3_121 : (Jvm.Cond.code ({ cls := "jdk/internal/util/Preconditions", name := "checkIndex", desc := "(IILjava/util/function/BiFunction;)I" } : Jvm.MethodName) prog_22_method_11_code (3 : Nat) (Option.some Jvm.ClassFile.FieldType.int)) ∈ jw := jt3 (List.mem_of_getElem? (i := 121) (by exact rfl)) rfl
set_option maxRecDepth 20000 in
theorem lk_3_122 : (Jvm.Cond.methodLink "java/lang/String" (498 : Nat) ({ cls := "java/lang/StringUTF16", name := "charAt", desc := "([BI)C" } : Jvm.MethodName)) ∈ jw := jt3 (List.mem_of_getElem? (i := 122) (by decide +kernel)) rfl
set_option maxRecDepth 20000 in
theorem lk_3_123 : (Jvm.Cond.static ({ cls := "java/lang/StringUTF16", name := "charAt", desc := "([BI)C" } : Jvm.MethodName)) ∈ jw := jt3 (List.mem_of_getElem? (i := 123) (by decide +kernel)) rfl
set_option maxRecDepth 20000 in
theorem lk_3_124 : (Jvm.Cond.code ({ cls := "java/lang/StringUTF16", name := "charAt", desc := "([BI)C" } : Jvm.MethodName) prog_19_method_83_code (2 : Nat) (Option.some Jvm.ClassFile.FieldType.char)) ∈ jw := jt3 (List.mem_of_getElem? (i := 124) (by exact rfl)) rfl
set_option maxRecDepth 20000 in
theorem lk_3_125 : (Jvm.Cond.methodLink "java/lang/StringUTF16" (67 : Nat) ({ cls := "java/lang/StringUTF16", name := "checkIndex", desc := "(I[B)V" } : Jvm.MethodName)) ∈ jw := jt3 (List.mem_of_getElem? (i := 125) (by decide +kernel)) rfl
set_option maxRecDepth 20000 in
theorem lk_3_126 : (Jvm.Cond.static ({ cls := "java/lang/StringUTF16", name := "checkIndex", desc := "(I[B)V" } : Jvm.MethodName)) ∈ jw := jt3 (List.mem_of_getElem? (i := 126) (by decide +kernel)) rfl
set_option maxRecDepth 20000 in
theorem lk_3_127 : (Jvm.Cond.code ({ cls := "java/lang/StringUTF16", name := "checkIndex", desc := "(I[B)V" } : Jvm.MethodName) prog_19_method_91_code (2 : Nat) (Option.none : Option Jvm.ClassFile.FieldType)) ∈ jw := jt3 (List.mem_of_getElem? (i := 127) (by exact rfl)) rfl
set_option maxRecDepth 20000 in
theorem lk_3_128 : (Jvm.Cond.methodLink "java/lang/StringUTF16" (48 : Nat) ({ cls := "java/lang/StringUTF16", name := "length", desc := "([B)I" } : Jvm.MethodName)) ∈ jw := jt3 (List.mem_of_getElem? (i := 128) (by decide +kernel)) rfl
set_option maxRecDepth 20000 in
theorem lk_3_129 : (Jvm.Cond.static ({ cls := "java/lang/StringUTF16", name := "length", desc := "([B)I" } : Jvm.MethodName)) ∈ jw := jt3 (List.mem_of_getElem? (i := 129) (by decide +kernel)) rfl
set_option maxRecDepth 20000 in
theorem lk_3_130 : (Jvm.Cond.code ({ cls := "java/lang/StringUTF16", name := "length", desc := "([B)I" } : Jvm.MethodName) prog_19_method_6_code (1 : Nat) (Option.some Jvm.ClassFile.FieldType.int)) ∈ jw := jt3 (List.mem_of_getElem? (i := 130) (by exact rfl)) rfl
set_option maxRecDepth 20000 in
theorem lk_3_131 : (Jvm.Cond.methodLink "java/lang/StringUTF16" (414 : Nat) ({ cls := "java/lang/String", name := "checkIndex", desc := "(II)V" } : Jvm.MethodName)) ∈ jw := jt3 (List.mem_of_getElem? (i := 131) (by decide +kernel)) rfl
set_option maxRecDepth 20000 in
theorem lk_3_132 : (Jvm.Cond.methodLink "java/lang/StringUTF16" (71 : Nat) ({ cls := "java/lang/StringUTF16", name := "getChar", desc := "([BI)C" } : Jvm.MethodName)) ∈ jw := jt3 (List.mem_of_getElem? (i := 132) (by decide +kernel)) rfl
set_option maxRecDepth 20000 in
theorem lk_3_133 : (Jvm.Cond.static ({ cls := "java/lang/StringUTF16", name := "getChar", desc := "([BI)C" } : Jvm.MethodName)) ∈ jw := jt3 (List.mem_of_getElem? (i := 133) (by decide +kernel)) rfl
set_option maxRecDepth 20000 in
theorem lk_3_134 : (Jvm.Cond.code ({ cls := "java/lang/StringUTF16", name := "getChar", desc := "([BI)C" } : Jvm.MethodName) prog_19_method_5_code (2 : Nat) (Option.some Jvm.ClassFile.FieldType.char)) ∈ jw := jt3 (List.mem_of_getElem? (i := 134) (by exact rfl)) rfl
set_option maxRecDepth 20000 in
theorem lk_3_135 : (Jvm.Cond.fieldLink "java/lang/StringUTF16" (44 : Nat) "java/lang/StringUTF16" "$assertionsDisabled" "Z") ∈ jw := jt3 (List.mem_of_getElem? (i := 135) (by decide +kernel)) rfl
set_option maxRecDepth 20000 in
theorem lk_3_137 : (Jvm.Cond.fieldLink "java/lang/StringUTF16" (59 : Nat) "java/lang/StringUTF16" "HI_BYTE_SHIFT" "I") ∈ jw := jt3 (List.mem_of_getElem? (i := 137) (by decide +kernel)) rfl
set_option maxRecDepth 20000 in
theorem lk_3_139 : (Jvm.Cond.fieldLink "java/lang/StringUTF16" (63 : Nat) "java/lang/StringUTF16" "LO_BYTE_SHIFT" "I") ∈ jw := jt3 (List.mem_of_getElem? (i := 139) (by decide +kernel)) rfl
set_option maxRecDepth 20000 in
theorem lk_3_141 : (Jvm.Cond.methodLink "PensionHouse$Tape" (53 : Nat) ({ cls := "PensionHouse$Tape", name := "readDigits", desc := "()V" } : Jvm.MethodName)) ∈ jw := jt3 (List.mem_of_getElem? (i := 141) (by decide +kernel)) rfl
set_option maxRecDepth 20000 in
theorem lk_3_143 : (Jvm.Cond.instanceMethod ({ cls := "PensionHouse$Tape", name := "readDigits", desc := "()V" } : Jvm.MethodName)) ∈ jw := jt3 (List.mem_of_getElem? (i := 143) (by decide +kernel)) rfl
set_option maxRecDepth 20000 in
theorem lk_3_144 : (Jvm.Cond.code ({ cls := "PensionHouse$Tape", name := "readDigits", desc := "()V" } : Jvm.MethodName) prog_9_method_11_code (3 : Nat) (Option.none : Option Jvm.ClassFile.FieldType)) ∈ jw := jt3 (List.mem_of_getElem? (i := 144) (by exact rfl)) rfl
set_option maxRecDepth 20000 in
theorem lk_3_145 : (Jvm.Cond.constantLong "PensionHouse$Tape" (79 : Nat) (10 : Int64)) ∈ jw := jt3 (List.mem_of_getElem? (i := 145) (by decide +kernel)) rfl
set_option maxRecDepth 20000 in
theorem lk_3_146 : (Jvm.Cond.methodLink "PensionHouse$Tape" (56 : Nat) ({ cls := "PensionHouse$Tape", name := "readSign", desc := "(I)V" } : Jvm.MethodName)) ∈ jw := jt3 (List.mem_of_getElem? (i := 146) (by decide +kernel)) rfl
set_option maxRecDepth 20000 in
theorem lk_3_148 : (Jvm.Cond.instanceMethod ({ cls := "PensionHouse$Tape", name := "readSign", desc := "(I)V" } : Jvm.MethodName)) ∈ jw := jt3 (List.mem_of_getElem? (i := 148) (by decide +kernel)) rfl
set_option maxRecDepth 20000 in
theorem lk_3_149 : (Jvm.Cond.code ({ cls := "PensionHouse$Tape", name := "readSign", desc := "(I)V" } : Jvm.MethodName) prog_9_method_12_code (3 : Nat) (Option.none : Option Jvm.ClassFile.FieldType)) ∈ jw := jt3 (List.mem_of_getElem? (i := 149) (by exact rfl)) rfl
set_option maxRecDepth 20000 in
theorem lk_3_151 : (Jvm.Cond.methodLink "PensionHouse$Tape" (83 : Nat) ({ cls := "java/lang/String", name := "indexOf", desc := "(I)I" } : Jvm.MethodName)) ∈ jw := jt3 (List.mem_of_getElem? (i := 151) (by decide +kernel)) rfl
set_option maxRecDepth 20000 in
theorem lk_3_152 : (Jvm.Cond.instanceMethod ({ cls := "java/lang/String", name := "indexOf", desc := "(I)I" } : Jvm.MethodName)) ∈ jw := jt3 (List.mem_of_getElem? (i := 152) (by decide +kernel)) rfl
set_option maxRecDepth 20000 in
theorem lk_3_153 : (Jvm.Cond.selects "java/lang/String" ({ cls := "java/lang/String", name := "indexOf", desc := "(I)I" } : Jvm.MethodName) ({ cls := "java/lang/String", name := "indexOf", desc := "(I)I" } : Jvm.MethodName)) ∈ jw := jt3 (List.mem_of_getElem? (i := 153) (by decide +kernel)) rfl
set_option maxRecDepth 20000 in
theorem lk_3_154 : (Jvm.Cond.code ({ cls := "java/lang/String", name := "indexOf", desc := "(I)I" } : Jvm.MethodName) prog_17_method_79_code (2 : Nat) (Option.some Jvm.ClassFile.FieldType.int)) ∈ jw := jt3 (List.mem_of_getElem? (i := 154) (by exact rfl)) rfl
set_option maxRecDepth 20000 in
theorem lk_3_155 : (Jvm.Cond.methodLink "java/lang/String" (633 : Nat) ({ cls := "java/lang/String", name := "indexOf", desc := "(II)I" } : Jvm.MethodName)) ∈ jw := jt3 (List.mem_of_getElem? (i := 155) (by decide +kernel)) rfl
set_option maxRecDepth 20000 in
theorem lk_3_156 : (Jvm.Cond.instanceMethod ({ cls := "java/lang/String", name := "indexOf", desc := "(II)I" } : Jvm.MethodName)) ∈ jw := jt3 (List.mem_of_getElem? (i := 156) (by decide +kernel)) rfl
set_option maxRecDepth 20000 in
theorem lk_3_157 : (Jvm.Cond.selects "java/lang/String" ({ cls := "java/lang/String", name := "indexOf", desc := "(II)I" } : Jvm.MethodName) ({ cls := "java/lang/String", name := "indexOf", desc := "(II)I" } : Jvm.MethodName)) ∈ jw := jt3 (List.mem_of_getElem? (i := 157) (by decide +kernel)) rfl
set_option maxRecDepth 20000 in
theorem lk_3_158 : (Jvm.Cond.code ({ cls := "java/lang/String", name := "indexOf", desc := "(II)I" } : Jvm.MethodName) prog_17_method_80_code (3 : Nat) (Option.some Jvm.ClassFile.FieldType.int)) ∈ jw := jt3 (List.mem_of_getElem? (i := 158) (by exact rfl)) rfl
set_option maxRecDepth 20000 in
theorem lk_3_159 : (Jvm.Cond.methodLink "java/lang/String" (505 : Nat) ({ cls := "java/lang/String", name := "length", desc := "()I" } : Jvm.MethodName)) ∈ jw := jt3 (List.mem_of_getElem? (i := 159) (by decide +kernel)) rfl
set_option maxRecDepth 20000 in
theorem lk_3_160 : (Jvm.Cond.methodLink "java/lang/String" (637 : Nat) ({ cls := "java/lang/StringLatin1", name := "indexOf", desc := "([BIII)I" } : Jvm.MethodName)) ∈ jw := jt3 (List.mem_of_getElem? (i := 160) (by decide +kernel)) rfl
set_option maxRecDepth 20000 in
theorem lk_3_161 : (Jvm.Cond.static ({ cls := "java/lang/StringLatin1", name := "indexOf", desc := "([BIII)I" } : Jvm.MethodName)) ∈ jw := jt3 (List.mem_of_getElem? (i := 161) (by decide +kernel)) rfl
set_option maxRecDepth 20000 in
theorem lk_3_162 : (Jvm.Cond.code ({ cls := "java/lang/StringLatin1", name := "indexOf", desc := "([BIII)I" } : Jvm.MethodName) prog_18_method_22_code (4 : Nat) (Option.some Jvm.ClassFile.FieldType.int)) ∈ jw := jt3 (List.mem_of_getElem? (i := 162) (by exact rfl)) rfl
set_option maxRecDepth 20000 in
theorem lk_3_163 : (Jvm.Cond.methodLink "java/lang/StringLatin1" (88 : Nat) ({ cls := "java/lang/StringLatin1", name := "canEncode", desc := "(I)Z" } : Jvm.MethodName)) ∈ jw := jt3 (List.mem_of_getElem? (i := 163) (by decide +kernel)) rfl
set_option maxRecDepth 20000 in
theorem lk_3_164 : (Jvm.Cond.static ({ cls := "java/lang/StringLatin1", name := "canEncode", desc := "(I)Z" } : Jvm.MethodName)) ∈ jw := jt3 (List.mem_of_getElem? (i := 164) (by decide +kernel)) rfl
set_option maxRecDepth 20000 in
theorem lk_3_165 : (Jvm.Cond.code ({ cls := "java/lang/StringLatin1", name := "canEncode", desc := "(I)Z" } : Jvm.MethodName) prog_18_method_4_code (1 : Nat) (Option.some Jvm.ClassFile.FieldType.boolean)) ∈ jw := jt3 (List.mem_of_getElem? (i := 165) (by exact rfl)) rfl
set_option maxRecDepth 20000 in
theorem lk_3_166 : (Jvm.Cond.methodLink "java/lang/StringLatin1" (92 : Nat) ({ cls := "java/lang/Math", name := "max", desc := "(II)I" } : Jvm.MethodName)) ∈ jw := jt3 (List.mem_of_getElem? (i := 166) (by decide +kernel)) rfl
set_option maxRecDepth 20000 in
theorem lk_3_167 : (Jvm.Cond.static ({ cls := "java/lang/Math", name := "max", desc := "(II)I" } : Jvm.MethodName)) ∈ jw := jt3 (List.mem_of_getElem? (i := 167) (by decide +kernel)) rfl
set_option maxRecDepth 20000 in
theorem lk_3_168 : (Jvm.Cond.code ({ cls := "java/lang/Math", name := "max", desc := "(II)I" } : Jvm.MethodName) prog_16_method_65_code (2 : Nat) (Option.some Jvm.ClassFile.FieldType.int)) ∈ jw := jt3 (List.mem_of_getElem? (i := 168) (by exact rfl)) rfl
set_option maxRecDepth 20000 in
theorem lk_3_169 : (Jvm.Cond.methodLink "java/lang/StringLatin1" (38 : Nat) ({ cls := "java/lang/Math", name := "min", desc := "(II)I" } : Jvm.MethodName)) ∈ jw := jt3 (List.mem_of_getElem? (i := 169) (by decide +kernel)) rfl
set_option maxRecDepth 20000 in
theorem lk_3_170 : (Jvm.Cond.static ({ cls := "java/lang/Math", name := "min", desc := "(II)I" } : Jvm.MethodName)) ∈ jw := jt3 (List.mem_of_getElem? (i := 170) (by decide +kernel)) rfl
set_option maxRecDepth 20000 in
theorem lk_3_171 : (Jvm.Cond.code ({ cls := "java/lang/Math", name := "min", desc := "(II)I" } : Jvm.MethodName) prog_16_method_69_code (2 : Nat) (Option.some Jvm.ClassFile.FieldType.int)) ∈ jw := jt3 (List.mem_of_getElem? (i := 171) (by exact rfl)) rfl
set_option maxRecDepth 20000 in
theorem lk_3_172 : (Jvm.Cond.methodLink "java/lang/StringLatin1" (95 : Nat) ({ cls := "java/lang/StringLatin1", name := "indexOfChar", desc := "([BIII)I" } : Jvm.MethodName)) ∈ jw := jt3 (List.mem_of_getElem? (i := 172) (by decide +kernel)) rfl
set_option maxRecDepth 20000 in
theorem lk_3_173 : (Jvm.Cond.static ({ cls := "java/lang/StringLatin1", name := "indexOfChar", desc := "([BIII)I" } : Jvm.MethodName)) ∈ jw := jt3 (List.mem_of_getElem? (i := 173) (by decide +kernel)) rfl
set_option maxRecDepth 20000 in
theorem lk_3_174 : (Jvm.Cond.code ({ cls := "java/lang/StringLatin1", name := "indexOfChar", desc := "([BIII)I" } : Jvm.MethodName) prog_18_method_23_code (6 : Nat) (Option.some Jvm.ClassFile.FieldType.int)) ∈ jw := jt3 (List.mem_of_getElem? (i := 174) (by exact rfl)) rfl
set_option maxRecDepth 20000 in
theorem lk_3_175 : (Jvm.Cond.methodLink "java/lang/String" (640 : Nat) ({ cls := "java/lang/StringUTF16", name := "indexOf", desc := "([BIII)I" } : Jvm.MethodName)) ∈ jw := jt3 (List.mem_of_getElem? (i := 175) (by decide +kernel)) rfl
set_option maxRecDepth 20000 in
theorem lk_3_176 : (Jvm.Cond.static ({ cls := "java/lang/StringUTF16", name := "indexOf", desc := "([BIII)I" } : Jvm.MethodName)) ∈ jw := jt3 (List.mem_of_getElem? (i := 176) (by decide +kernel)) rfl
set_option maxRecDepth 20000 in
theorem lk_3_177 : (Jvm.Cond.code ({ cls := "java/lang/StringUTF16", name := "indexOf", desc := "([BIII)I" } : Jvm.MethodName) prog_19_method_40_code (4 : Nat) (Option.some Jvm.ClassFile.FieldType.int)) ∈ jw := jt3 (List.mem_of_getElem? (i := 177) (by exact rfl)) rfl
set_option maxRecDepth 20000 in
theorem lk_3_178 : (Jvm.Cond.methodLink "java/lang/StringUTF16" (224 : Nat) ({ cls := "java/lang/Math", name := "max", desc := "(II)I" } : Jvm.MethodName)) ∈ jw := jt3 (List.mem_of_getElem? (i := 178) (by decide +kernel)) rfl
set_option maxRecDepth 20000 in
theorem lk_3_179 : (Jvm.Cond.methodLink "java/lang/StringUTF16" (183 : Nat) ({ cls := "java/lang/Math", name := "min", desc := "(II)I" } : Jvm.MethodName)) ∈ jw := jt3 (List.mem_of_getElem? (i := 179) (by decide +kernel)) rfl
set_option maxRecDepth 20000 in
theorem lk_3_180 : (Jvm.Cond.constant "java/lang/StringUTF16" (227 : Nat) (65536 : Int32)) ∈ jw := jt3 (List.mem_of_getElem? (i := 180) (by decide +kernel)) rfl
set_option maxRecDepth 20000 in
theorem lk_3_181 : (Jvm.Cond.methodLink "java/lang/StringUTF16" (228 : Nat) ({ cls := "java/lang/StringUTF16", name := "indexOfChar", desc := "([BIII)I" } : Jvm.MethodName)) ∈ jw := jt3 (List.mem_of_getElem? (i := 181) (by decide +kernel)) rfl
set_option maxRecDepth 20000 in
theorem lk_3_182 : (Jvm.Cond.static ({ cls := "java/lang/StringUTF16", name := "indexOfChar", desc := "([BIII)I" } : Jvm.MethodName)) ∈ jw := jt3 (List.mem_of_getElem? (i := 182) (by decide +kernel)) rfl
set_option maxRecDepth 20000 in
theorem lk_3_183 : (Jvm.Cond.code ({ cls := "java/lang/StringUTF16", name := "indexOfChar", desc := "([BIII)I" } : Jvm.MethodName) prog_19_method_47_code (4 : Nat) (Option.some Jvm.ClassFile.FieldType.int)) ∈ jw := jt3 (List.mem_of_getElem? (i := 183) (by exact rfl)) rfl
set_option maxRecDepth 20000 in
theorem lk_3_184 : (Jvm.Cond.methodLink "java/lang/StringUTF16" (96 : Nat) ({ cls := "java/lang/StringUTF16", name := "checkBoundsBeginEnd", desc := "(II[B)V" } : Jvm.MethodName)) ∈ jw := jt3 (List.mem_of_getElem? (i := 184) (by decide +kernel)) rfl
set_option maxRecDepth 20000 in
theorem lk_3_185 : (Jvm.Cond.static ({ cls := "java/lang/StringUTF16", name := "checkBoundsBeginEnd", desc := "(II[B)V" } : Jvm.MethodName)) ∈ jw := jt3 (List.mem_of_getElem? (i := 185) (by decide +kernel)) rfl
set_option maxRecDepth 20000 in
theorem lk_3_186 : (Jvm.Cond.code ({ cls := "java/lang/StringUTF16", name := "checkBoundsBeginEnd", desc := "(II[B)V" } : Jvm.MethodName) prog_19_method_93_code (3 : Nat) (Option.none : Option Jvm.ClassFile.FieldType)) ∈ jw := jt3 (List.mem_of_getElem? (i := 186) (by exact rfl)) rfl
set_option maxRecDepth 20000 in
theorem lk_3_187 : (Jvm.Cond.methodLink "java/lang/StringUTF16" (241 : Nat) ({ cls := "java/lang/String", name := "checkBoundsBeginEnd", desc := "(III)V" } : Jvm.MethodName)) ∈ jw := jt3 (List.mem_of_getElem? (i := 187) (by decide +kernel)) rfl
set_option maxRecDepth 20000 in
theorem lk_3_188 : (Jvm.Cond.static ({ cls := "java/lang/String", name := "checkBoundsBeginEnd", desc := "(III)V" } : Jvm.MethodName)) ∈ jw := jt3 (List.mem_of_getElem? (i := 188) (by decide +kernel)) rfl
set_option maxRecDepth 20000 in
theorem lk_3_189 : (Jvm.Cond.code ({ cls := "java/lang/String", name := "checkBoundsBeginEnd", desc := "(III)V" } : Jvm.MethodName) prog_17_method_158_code (3 : Nat) (Option.none : Option Jvm.ClassFile.FieldType)) ∈ jw := jt3 (List.mem_of_getElem? (i := 189) (by exact rfl)) rfl
set_option maxRecDepth 20000 in
theorem lk_3_190 : (Jvm.Cond.methodLink "java/lang/String" (1062 : Nat) ({ cls := "jdk/internal/util/Preconditions", name := "checkFromToIndex", desc := "(IIILjava/util/function/BiFunction;)I" } : Jvm.MethodName)) ∈ jw := jt3 (List.mem_of_getElem? (i := 190) (by decide +kernel)) rfl
set_option maxRecDepth 20000 in
theorem lk_3_191 : (Jvm.Cond.static ({ cls := "jdk/internal/util/Preconditions", name := "checkFromToIndex", desc := "(IIILjava/util/function/BiFunction;)I" } : Jvm.MethodName)) ∈ jw := jt3 (List.mem_of_getElem? (i := 191) (by decide +kernel)) rfl
set_option maxRecDepth 20000 in
theorem lk_3_192 : (Jvm.Cond.code ({ cls := "jdk/internal/util/Preconditions", name := "checkFromToIndex", desc := "(IIILjava/util/function/BiFunction;)I" } : Jvm.MethodName) prog_22_method_12_code (4 : Nat) (Option.some Jvm.ClassFile.FieldType.int)) ∈ jw := jt3 (List.mem_of_getElem? (i := 192) (by exact rfl)) rfl
set_option maxRecDepth 20000 in
theorem lk_3_193 : (Jvm.Cond.methodLink "java/lang/StringUTF16" (244 : Nat) ({ cls := "java/lang/StringUTF16", name := "indexOfCharUnsafe", desc := "([BIII)I" } : Jvm.MethodName)) ∈ jw := jt3 (List.mem_of_getElem? (i := 193) (by decide +kernel)) rfl
set_option maxRecDepth 20000 in
theorem lk_3_194 : (Jvm.Cond.static ({ cls := "java/lang/StringUTF16", name := "indexOfCharUnsafe", desc := "([BIII)I" } : Jvm.MethodName)) ∈ jw := jt3 (List.mem_of_getElem? (i := 194) (by decide +kernel)) rfl
set_option maxRecDepth 20000 in
theorem lk_3_195 : (Jvm.Cond.code ({ cls := "java/lang/StringUTF16", name := "indexOfCharUnsafe", desc := "([BIII)I" } : Jvm.MethodName) prog_19_method_48_code (5 : Nat) (Option.some Jvm.ClassFile.FieldType.int)) ∈ jw := jt3 (List.mem_of_getElem? (i := 195) (by exact rfl)) rfl
set_option maxRecDepth 20000 in
theorem lk_3_196 : (Jvm.Cond.methodLink "java/lang/StringUTF16" (232 : Nat) ({ cls := "java/lang/StringUTF16", name := "indexOfSupplementary", desc := "([BIII)I" } : Jvm.MethodName)) ∈ jw := jt3 (List.mem_of_getElem? (i := 196) (by decide +kernel)) rfl
set_option maxRecDepth 20000 in
theorem lk_3_197 : (Jvm.Cond.static ({ cls := "java/lang/StringUTF16", name := "indexOfSupplementary", desc := "([BIII)I" } : Jvm.MethodName)) ∈ jw := jt3 (List.mem_of_getElem? (i := 197) (by decide +kernel)) rfl
set_option maxRecDepth 20000 in
theorem lk_3_198 : (Jvm.Cond.code ({ cls := "java/lang/StringUTF16", name := "indexOfSupplementary", desc := "([BIII)I" } : Jvm.MethodName) prog_19_method_49_code (7 : Nat) (Option.some Jvm.ClassFile.FieldType.int)) ∈ jw := jt3 (List.mem_of_getElem? (i := 198) (by exact rfl)) rfl
set_option maxRecDepth 20000 in
theorem lk_3_199 : (Jvm.Cond.methodLink "java/lang/StringUTF16" (164 : Nat) ({ cls := "java/lang/Character", name := "isValidCodePoint", desc := "(I)Z" } : Jvm.MethodName)) ∈ jw := jt3 (List.mem_of_getElem? (i := 199) (by decide +kernel)) rfl
set_option maxRecDepth 20000 in
theorem lk_3_200 : (Jvm.Cond.static ({ cls := "java/lang/Character", name := "isValidCodePoint", desc := "(I)Z" } : Jvm.MethodName)) ∈ jw := jt3 (List.mem_of_getElem? (i := 200) (by decide +kernel)) rfl
set_option maxRecDepth 20000 in
theorem lk_3_201 : (Jvm.Cond.code ({ cls := "java/lang/Character", name := "isValidCodePoint", desc := "(I)Z" } : Jvm.MethodName) prog_15_method_11_code (2 : Nat) (Option.some Jvm.ClassFile.FieldType.boolean)) ∈ jw := jt3 (List.mem_of_getElem? (i := 201) (by exact rfl)) rfl
set_option maxRecDepth 20000 in
theorem lk_3_202 : (Jvm.Cond.methodLink "java/lang/StringUTF16" (157 : Nat) ({ cls := "java/lang/Character", name := "highSurrogate", desc := "(I)C" } : Jvm.MethodName)) ∈ jw := jt3 (List.mem_of_getElem? (i := 202) (by decide +kernel)) rfl
set_option maxRecDepth 20000 in
theorem lk_3_203 : (Jvm.Cond.static ({ cls := "java/lang/Character", name := "highSurrogate", desc := "(I)C" } : Jvm.MethodName)) ∈ jw := jt3 (List.mem_of_getElem? (i := 203) (by decide +kernel)) rfl
set_option maxRecDepth 20000 in
theorem lk_3_204 : (Jvm.Cond.code ({ cls := "java/lang/Character", name := "highSurrogate", desc := "(I)C" } : Jvm.MethodName) prog_15_method_28_code (1 : Nat) (Option.some Jvm.ClassFile.FieldType.char)) ∈ jw := jt3 (List.mem_of_getElem? (i := 204) (by exact rfl)) rfl
set_option maxRecDepth 20000 in
theorem lk_3_205 : (Jvm.Cond.constant "java/lang/Character" (110 : Nat) (55232 : Int32)) ∈ jw := jt3 (List.mem_of_getElem? (i := 205) (by decide +kernel)) rfl
set_option maxRecDepth 20000 in
theorem lk_3_206 : (Jvm.Cond.methodLink "java/lang/StringUTF16" (161 : Nat) ({ cls := "java/lang/Character", name := "lowSurrogate", desc := "(I)C" } : Jvm.MethodName)) ∈ jw := jt3 (List.mem_of_getElem? (i := 206) (by decide +kernel)) rfl
set_option maxRecDepth 20000 in
theorem lk_3_207 : (Jvm.Cond.static ({ cls := "java/lang/Character", name := "lowSurrogate", desc := "(I)C" } : Jvm.MethodName)) ∈ jw := jt3 (List.mem_of_getElem? (i := 207) (by decide +kernel)) rfl
set_option maxRecDepth 20000 in
theorem lk_3_208 : (Jvm.Cond.code ({ cls := "java/lang/Character", name := "lowSurrogate", desc := "(I)C" } : Jvm.MethodName) prog_15_method_29_code (1 : Nat) (Option.some Jvm.ClassFile.FieldType.char)) ∈ jw := jt3 (List.mem_of_getElem? (i := 208) (by exact rfl)) rfl
set_option maxRecDepth 20000 in
theorem lk_3_209 : (Jvm.Cond.constant "java/lang/Character" (76 : Nat) (56320 : Int32)) ∈ jw := jt3 (List.mem_of_getElem? (i := 209) (by decide +kernel)) rfl
set_option maxRecDepth 20000 in
theorem lk_3_210 : (Jvm.Cond.methodLink "PensionHouse" (155 : Nat) ({ cls := "PensionHouse", name := "isMember", desc := "(I)Z" } : Jvm.MethodName)) ∈ jw := jt3 (List.mem_of_getElem? (i := 210) (by decide +kernel)) rfl
set_option maxRecDepth 20000 in
theorem lk_3_211 : (Jvm.Cond.static ({ cls := "PensionHouse", name := "isMember", desc := "(I)Z" } : Jvm.MethodName)) ∈ jw := jt3 (List.mem_of_getElem? (i := 211) (by decide +kernel)) rfl
set_option maxRecDepth 20000 in
theorem lk_3_212 : (Jvm.Cond.code ({ cls := "PensionHouse", name := "isMember", desc := "(I)Z" } : Jvm.MethodName) prog_1_method_36_code (1 : Nat) (Option.some Jvm.ClassFile.FieldType.boolean)) ∈ jw := jt3 (List.mem_of_getElem? (i := 212) (by exact rfl)) rfl
set_option maxRecDepth 20000 in
theorem lk_3_213 : (Jvm.Cond.methodLink "PensionHouse" (189 : Nat) ({ cls := "PensionHouse$Value", name := "setTo", desc := "(LPensionHouse$Value;)V" } : Jvm.MethodName)) ∈ jw := jt3 (List.mem_of_getElem? (i := 213) (by decide +kernel)) rfl
set_option maxRecDepth 20000 in
theorem lk_3_214 : (Jvm.Cond.instanceMethod ({ cls := "PensionHouse$Value", name := "setTo", desc := "(LPensionHouse$Value;)V" } : Jvm.MethodName)) ∈ jw := jt3 (List.mem_of_getElem? (i := 214) (by decide +kernel)) rfl
set_option maxRecDepth 20000 in
theorem lk_3_215 : (Jvm.Cond.selects "PensionHouse$Value" ({ cls := "PensionHouse$Value", name := "setTo", desc := "(LPensionHouse$Value;)V" } : Jvm.MethodName) ({ cls := "PensionHouse$Value", name := "setTo", desc := "(LPensionHouse$Value;)V" } : Jvm.MethodName)) ∈ jw := jt3 (List.mem_of_getElem? (i := 215) (by decide +kernel)) rfl
set_option maxRecDepth 20000 in
theorem lk_3_216 : (Jvm.Cond.code ({ cls := "PensionHouse$Value", name := "setTo", desc := "(LPensionHouse$Value;)V" } : Jvm.MethodName) prog_11_method_4_code (2 : Nat) (Option.none : Option Jvm.ClassFile.FieldType)) ∈ jw := jt3 (List.mem_of_getElem? (i := 216) (by exact rfl)) rfl
set_option maxRecDepth 20000 in
theorem lk_3_217 : (Jvm.Cond.methodLink "PensionHouse$Value" (30 : Nat) ({ cls := "java/lang/System", name := "arraycopy", desc := "(Ljava/lang/Object;ILjava/lang/Object;II)V" } : Jvm.MethodName)) ∈ jw := jt3 (List.mem_of_getElem? (i := 217) (by decide +kernel)) rfl
set_option maxRecDepth 20000 in
theorem lk_3_218 : (Jvm.Cond.static ({ cls := "java/lang/System", name := "arraycopy", desc := "(Ljava/lang/Object;ILjava/lang/Object;II)V" } : Jvm.MethodName)) ∈ jw := jt3 (List.mem_of_getElem? (i := 218) (by decide +kernel)) rfl
set_option maxRecDepth 20000 in
theorem lk_3_219 : (Jvm.Cond.native ({ cls := "java/lang/System", name := "arraycopy", desc := "(Ljava/lang/Object;ILjava/lang/Object;II)V" } : Jvm.MethodName)) ∈ jw := jt3 (List.mem_of_getElem? (i := 219) (by decide +kernel)) rfl
set_option maxRecDepth 20000 in
theorem lk_3_220 : (Jvm.Cond.methodLink "PensionHouseLaw" (67 : Nat) ({ cls := "PensionHouse", name := "annul", desc := "(I)I" } : Jvm.MethodName)) ∈ jw := jt3 (List.mem_of_getElem? (i := 220) (by decide +kernel)) rfl
set_option maxRecDepth 20000 in
theorem lk_3_221 : (Jvm.Cond.instanceMethod ({ cls := "PensionHouse", name := "annul", desc := "(I)I" } : Jvm.MethodName)) ∈ jw := jt3 (List.mem_of_getElem? (i := 221) (by decide +kernel)) rfl
set_option maxRecDepth 20000 in
theorem lk_3_222 : (Jvm.Cond.selects "PensionHouse" ({ cls := "PensionHouse", name := "annul", desc := "(I)I" } : Jvm.MethodName) ({ cls := "PensionHouse", name := "annul", desc := "(I)I" } : Jvm.MethodName)) ∈ jw := jt3 (List.mem_of_getElem? (i := 222) (by decide +kernel)) rfl
set_option maxRecDepth 20000 in
theorem lk_3_223 : (Jvm.Cond.code ({ cls := "PensionHouse", name := "annul", desc := "(I)I" } : Jvm.MethodName) prog_1_method_13_code (2 : Nat) (Option.some Jvm.ClassFile.FieldType.int)) ∈ jw := jt3 (List.mem_of_getElem? (i := 223) (by exact rfl)) rfl
set_option maxRecDepth 20000 in
theorem lk_3_224 : (Jvm.Cond.methodLink "PensionHouseLaw" (71 : Nat) ({ cls := "PensionHouse", name := "known", desc := "(III)I" } : Jvm.MethodName)) ∈ jw := jt3 (List.mem_of_getElem? (i := 224) (by decide +kernel)) rfl
set_option maxRecDepth 20000 in
theorem lk_3_225 : (Jvm.Cond.instanceMethod ({ cls := "PensionHouse", name := "known", desc := "(III)I" } : Jvm.MethodName)) ∈ jw := jt3 (List.mem_of_getElem? (i := 225) (by decide +kernel)) rfl
set_option maxRecDepth 20000 in
theorem lk_3_226 : (Jvm.Cond.selects "PensionHouse" ({ cls := "PensionHouse", name := "known", desc := "(III)I" } : Jvm.MethodName) ({ cls := "PensionHouse", name := "known", desc := "(III)I" } : Jvm.MethodName)) ∈ jw := jt3 (List.mem_of_getElem? (i := 226) (by decide +kernel)) rfl
set_option maxRecDepth 20000 in
theorem lk_3_227 : (Jvm.Cond.code ({ cls := "PensionHouse", name := "known", desc := "(III)I" } : Jvm.MethodName) prog_1_method_14_code (7 : Nat) (Option.some Jvm.ClassFile.FieldType.int)) ∈ jw := jt3 (List.mem_of_getElem? (i := 227) (by exact rfl)) rfl
set_option maxRecDepth 20000 in
theorem lk_3_228 : (Jvm.Cond.methodLink "PensionHouse" (193 : Nat) ({ cls := "PensionHouse", name := "isPast", desc := "(I)Z" } : Jvm.MethodName)) ∈ jw := jt3 (List.mem_of_getElem? (i := 228) (by decide +kernel)) rfl
set_option maxRecDepth 20000 in
theorem lk_3_230 : (Jvm.Cond.instanceMethod ({ cls := "PensionHouse", name := "isPast", desc := "(I)Z" } : Jvm.MethodName)) ∈ jw := jt3 (List.mem_of_getElem? (i := 230) (by decide +kernel)) rfl
set_option maxRecDepth 20000 in
theorem lk_3_231 : (Jvm.Cond.code ({ cls := "PensionHouse", name := "isPast", desc := "(I)Z" } : Jvm.MethodName) prog_1_method_34_code (2 : Nat) (Option.some Jvm.ClassFile.FieldType.boolean)) ∈ jw := jt3 (List.mem_of_getElem? (i := 231) (by exact rfl)) rfl
set_option maxRecDepth 20000 in
theorem lk_3_232 : (Jvm.Cond.methodLink "PensionHouse" (196 : Nat) ({ cls := "PensionHouse$Register", name := "latest", desc := "(IJII)I" } : Jvm.MethodName)) ∈ jw := jt3 (List.mem_of_getElem? (i := 232) (by decide +kernel)) rfl
set_option maxRecDepth 20000 in
theorem lk_3_233 : (Jvm.Cond.instanceMethod ({ cls := "PensionHouse$Register", name := "latest", desc := "(IJII)I" } : Jvm.MethodName)) ∈ jw := jt3 (List.mem_of_getElem? (i := 233) (by decide +kernel)) rfl
set_option maxRecDepth 20000 in
theorem lk_3_234 : (Jvm.Cond.selects "PensionHouse$Register" ({ cls := "PensionHouse$Register", name := "latest", desc := "(IJII)I" } : Jvm.MethodName) ({ cls := "PensionHouse$Register", name := "latest", desc := "(IJII)I" } : Jvm.MethodName)) ∈ jw := jt3 (List.mem_of_getElem? (i := 234) (by decide +kernel)) rfl
set_option maxRecDepth 20000 in
theorem lk_3_235 : (Jvm.Cond.code ({ cls := "PensionHouse$Register", name := "latest", desc := "(IJII)I" } : Jvm.MethodName) prog_8_method_5_code (8 : Nat) (Option.some Jvm.ClassFile.FieldType.int)) ∈ jw := jt3 (List.mem_of_getElem? (i := 235) (by exact rfl)) rfl
set_option maxRecDepth 20000 in
theorem lk_3_236 : (Jvm.Cond.methodLink "PensionHouse$Register" (46 : Nat) ({ cls := "PensionHouse$Fact", name := "isKnown", desc := "(II)Z" } : Jvm.MethodName)) ∈ jw := jt3 (List.mem_of_getElem? (i := 236) (by decide +kernel)) rfl
set_option maxRecDepth 20000 in
theorem lk_3_237 : (Jvm.Cond.instanceMethod ({ cls := "PensionHouse$Fact", name := "isKnown", desc := "(II)Z" } : Jvm.MethodName)) ∈ jw := jt3 (List.mem_of_getElem? (i := 237) (by decide +kernel)) rfl
set_option maxRecDepth 20000 in
theorem lk_3_238 : (Jvm.Cond.selects "PensionHouse$Fact" ({ cls := "PensionHouse$Fact", name := "isKnown", desc := "(II)Z" } : Jvm.MethodName) ({ cls := "PensionHouse$Fact", name := "isKnown", desc := "(II)Z" } : Jvm.MethodName)) ∈ jw := jt3 (List.mem_of_getElem? (i := 238) (by decide +kernel)) rfl
set_option maxRecDepth 20000 in
theorem lk_3_239 : (Jvm.Cond.code ({ cls := "PensionHouse$Fact", name := "isKnown", desc := "(II)Z" } : Jvm.MethodName) prog_4_method_2_code (4 : Nat) (Option.some Jvm.ClassFile.FieldType.boolean)) ∈ jw := jt3 (List.mem_of_getElem? (i := 239) (by exact rfl)) rfl
set_option maxRecDepth 20000 in
theorem lk_4_0 : (Jvm.Cond.methodLink "PensionHouseLaw" (75 : Nat) ({ cls := "PensionHouse", name := "edition", desc := "(II)I" } : Jvm.MethodName)) ∈ jw := jt4 (List.mem_of_getElem? (i := 0) (by decide +kernel)) rfl
set_option maxRecDepth 20000 in
theorem lk_4_1 : (Jvm.Cond.instanceMethod ({ cls := "PensionHouse", name := "edition", desc := "(II)I" } : Jvm.MethodName)) ∈ jw := jt4 (List.mem_of_getElem? (i := 1) (by decide +kernel)) rfl
set_option maxRecDepth 20000 in
theorem lk_4_2 : (Jvm.Cond.selects "PensionHouse" ({ cls := "PensionHouse", name := "edition", desc := "(II)I" } : Jvm.MethodName) ({ cls := "PensionHouse", name := "edition", desc := "(II)I" } : Jvm.MethodName)) ∈ jw := jt4 (List.mem_of_getElem? (i := 2) (by decide +kernel)) rfl
set_option maxRecDepth 20000 in
theorem lk_4_3 : (Jvm.Cond.code ({ cls := "PensionHouse", name := "edition", desc := "(II)I" } : Jvm.MethodName) prog_1_method_15_code (5 : Nat) (Option.some Jvm.ClassFile.FieldType.int)) ∈ jw := jt4 (List.mem_of_getElem? (i := 3) (by exact rfl)) rfl
set_option maxRecDepth 20000 in
theorem lk_4_4 : (Jvm.Cond.methodLink "PensionHouse" (200 : Nat) ({ cls := "PensionHouse$Tape", name := "open", desc := "()V" } : Jvm.MethodName)) ∈ jw := jt4 (List.mem_of_getElem? (i := 4) (by decide +kernel)) rfl
set_option maxRecDepth 20000 in
theorem lk_4_5 : (Jvm.Cond.methodLink "PensionHouse" (203 : Nat) ({ cls := "PensionHouse", name := "isScheme", desc := "(I)Z" } : Jvm.MethodName)) ∈ jw := jt4 (List.mem_of_getElem? (i := 5) (by decide +kernel)) rfl
set_option maxRecDepth 20000 in
theorem lk_4_6 : (Jvm.Cond.static ({ cls := "PensionHouse", name := "isScheme", desc := "(I)Z" } : Jvm.MethodName)) ∈ jw := jt4 (List.mem_of_getElem? (i := 6) (by decide +kernel)) rfl
set_option maxRecDepth 20000 in
theorem lk_4_7 : (Jvm.Cond.code ({ cls := "PensionHouse", name := "isScheme", desc := "(I)Z" } : Jvm.MethodName) prog_1_method_37_code (1 : Nat) (Option.some Jvm.ClassFile.FieldType.boolean)) ∈ jw := jt4 (List.mem_of_getElem? (i := 7) (by exact rfl)) rfl
set_option maxRecDepth 20000 in
theorem lk_4_8 : (Jvm.Cond.methodLink "PensionHouse" (206 : Nat) ({ cls := "PensionHouse", name := "placeForEdition", desc := "(II)I" } : Jvm.MethodName)) ∈ jw := jt4 (List.mem_of_getElem? (i := 8) (by decide +kernel)) rfl
set_option maxRecDepth 20000 in
theorem lk_4_10 : (Jvm.Cond.instanceMethod ({ cls := "PensionHouse", name := "placeForEdition", desc := "(II)I" } : Jvm.MethodName)) ∈ jw := jt4 (List.mem_of_getElem? (i := 10) (by decide +kernel)) rfl
set_option maxRecDepth 20000 in
theorem lk_4_11 : (Jvm.Cond.code ({ cls := "PensionHouse", name := "placeForEdition", desc := "(II)I" } : Jvm.MethodName) prog_1_method_39_code (5 : Nat) (Option.some Jvm.ClassFile.FieldType.int)) ∈ jw := jt4 (List.mem_of_getElem? (i := 11) (by exact rfl)) rfl
set_option maxRecDepth 20000 in
theorem lk_4_12 : (Jvm.Cond.methodLink "PensionHouse" (210 : Nat) ({ cls := "PensionHouse$Parser", name := "parse", desc := "()V" } : Jvm.MethodName)) ∈ jw := jt4 (List.mem_of_getElem? (i := 12) (by decide +kernel)) rfl
set_option maxRecDepth 20000 in
theorem lk_4_13 : (Jvm.Cond.instanceMethod ({ cls := "PensionHouse$Parser", name := "parse", desc := "()V" } : Jvm.MethodName)) ∈ jw := jt4 (List.mem_of_getElem? (i := 13) (by decide +kernel)) rfl
set_option maxRecDepth 20000 in
theorem lk_4_14 : (Jvm.Cond.selects "PensionHouse$Parser" ({ cls := "PensionHouse$Parser", name := "parse", desc := "()V" } : Jvm.MethodName) ({ cls := "PensionHouse$Parser", name := "parse", desc := "()V" } : Jvm.MethodName)) ∈ jw := jt4 (List.mem_of_getElem? (i := 14) (by decide +kernel)) rfl
set_option maxRecDepth 20000 in
theorem lk_4_15 : (Jvm.Cond.code ({ cls := "PensionHouse$Parser", name := "parse", desc := "()V" } : Jvm.MethodName) prog_6_method_2_code (5 : Nat) (Option.none : Option Jvm.ClassFile.FieldType)) ∈ jw := jt4 (List.mem_of_getElem? (i := 15) (by exact rfl)) rfl
set_option maxRecDepth 20000 in
theorem lk_4_16 : (Jvm.Cond.methodLink "PensionHouse$Parser" (33 : Nat) ({ cls := "PensionHouse$Text", name := "clear", desc := "()V" } : Jvm.MethodName)) ∈ jw := jt4 (List.mem_of_getElem? (i := 16) (by decide +kernel)) rfl
set_option maxRecDepth 20000 in
theorem lk_4_17 : (Jvm.Cond.instanceMethod ({ cls := "PensionHouse$Text", name := "clear", desc := "()V" } : Jvm.MethodName)) ∈ jw := jt4 (List.mem_of_getElem? (i := 17) (by decide +kernel)) rfl
set_option maxRecDepth 20000 in
theorem lk_4_18 : (Jvm.Cond.selects "PensionHouse$Text" ({ cls := "PensionHouse$Text", name := "clear", desc := "()V" } : Jvm.MethodName) ({ cls := "PensionHouse$Text", name := "clear", desc := "()V" } : Jvm.MethodName)) ∈ jw := jt4 (List.mem_of_getElem? (i := 18) (by decide +kernel)) rfl
set_option maxRecDepth 20000 in
theorem lk_4_19 : (Jvm.Cond.code ({ cls := "PensionHouse$Text", name := "clear", desc := "()V" } : Jvm.MethodName) prog_10_method_2_code (1 : Nat) (Option.none : Option Jvm.ClassFile.FieldType)) ∈ jw := jt4 (List.mem_of_getElem? (i := 19) (by exact rfl)) rfl
set_option maxRecDepth 20000 in
theorem lk_4_20 : (Jvm.Cond.methodLink "PensionHouse$Parser" (46 : Nat) ({ cls := "PensionHouse$Tape", name := "next", desc := "()V" } : Jvm.MethodName)) ∈ jw := jt4 (List.mem_of_getElem? (i := 20) (by decide +kernel)) rfl
set_option maxRecDepth 20000 in
theorem lk_4_21 : (Jvm.Cond.methodLink "PensionHouse$Parser" (55 : Nat) ({ cls := "PensionHouse$Parser", name := "refuse", desc := "(I)V" } : Jvm.MethodName)) ∈ jw := jt4 (List.mem_of_getElem? (i := 21) (by decide +kernel)) rfl
set_option maxRecDepth 20000 in
theorem lk_4_23 : (Jvm.Cond.instanceMethod ({ cls := "PensionHouse$Parser", name := "refuse", desc := "(I)V" } : Jvm.MethodName)) ∈ jw := jt4 (List.mem_of_getElem? (i := 23) (by decide +kernel)) rfl
set_option maxRecDepth 20000 in
theorem lk_4_24 : (Jvm.Cond.code ({ cls := "PensionHouse$Parser", name := "refuse", desc := "(I)V" } : Jvm.MethodName) prog_6_method_3_code (2 : Nat) (Option.none : Option Jvm.ClassFile.FieldType)) ∈ jw := jt4 (List.mem_of_getElem? (i := 24) (by exact rfl)) rfl
set_option maxRecDepth 20000 in
theorem lk_4_25 : (Jvm.Cond.methodLink "PensionHouse$Parser" (59 : Nat) ({ cls := "PensionHouse$Parser", name := "take", desc := "(I)V" } : Jvm.MethodName)) ∈ jw := jt4 (List.mem_of_getElem? (i := 25) (by decide +kernel)) rfl
set_option maxRecDepth 20000 in
theorem lk_4_27 : (Jvm.Cond.instanceMethod ({ cls := "PensionHouse$Parser", name := "take", desc := "(I)V" } : Jvm.MethodName)) ∈ jw := jt4 (List.mem_of_getElem? (i := 27) (by decide +kernel)) rfl
set_option maxRecDepth 20000 in
theorem lk_4_28 : (Jvm.Cond.code ({ cls := "PensionHouse$Parser", name := "take", desc := "(I)V" } : Jvm.MethodName) prog_6_method_5_code (2 : Nat) (Option.none : Option Jvm.ClassFile.FieldType)) ∈ jw := jt4 (List.mem_of_getElem? (i := 28) (by exact rfl)) rfl
set_option maxRecDepth 20000 in
theorem lk_4_29 : (Jvm.Cond.methodLink "PensionHouse$Parser" (81 : Nat) ({ cls := "PensionHouse$Parser", name := "refuseToken", desc := "()V" } : Jvm.MethodName)) ∈ jw := jt4 (List.mem_of_getElem? (i := 29) (by decide +kernel)) rfl
set_option maxRecDepth 20000 in
theorem lk_4_31 : (Jvm.Cond.instanceMethod ({ cls := "PensionHouse$Parser", name := "refuseToken", desc := "()V" } : Jvm.MethodName)) ∈ jw := jt4 (List.mem_of_getElem? (i := 31) (by decide +kernel)) rfl
set_option maxRecDepth 20000 in
theorem lk_4_32 : (Jvm.Cond.code ({ cls := "PensionHouse$Parser", name := "refuseToken", desc := "()V" } : Jvm.MethodName) prog_6_method_4_code (1 : Nat) (Option.none : Option Jvm.ClassFile.FieldType)) ∈ jw := jt4 (List.mem_of_getElem? (i := 32) (by exact rfl)) rfl
set_option maxRecDepth 20000 in
theorem lk_4_33 : (Jvm.Cond.methodLink "PensionHouse$Parser" (66 : Nat) ({ cls := "PensionHouse$Text", name := "ruleNamed", desc := "(J)I" } : Jvm.MethodName)) ∈ jw := jt4 (List.mem_of_getElem? (i := 33) (by decide +kernel)) rfl
set_option maxRecDepth 20000 in
theorem lk_4_34 : (Jvm.Cond.instanceMethod ({ cls := "PensionHouse$Text", name := "ruleNamed", desc := "(J)I" } : Jvm.MethodName)) ∈ jw := jt4 (List.mem_of_getElem? (i := 34) (by decide +kernel)) rfl
set_option maxRecDepth 20000 in
theorem lk_4_35 : (Jvm.Cond.selects "PensionHouse$Text" ({ cls := "PensionHouse$Text", name := "ruleNamed", desc := "(J)I" } : Jvm.MethodName) ({ cls := "PensionHouse$Text", name := "ruleNamed", desc := "(J)I" } : Jvm.MethodName)) ∈ jw := jt4 (List.mem_of_getElem? (i := 35) (by decide +kernel)) rfl
set_option maxRecDepth 20000 in
theorem lk_4_36 : (Jvm.Cond.code ({ cls := "PensionHouse$Text", name := "ruleNamed", desc := "(J)I" } : Jvm.MethodName) prog_10_method_7_code (4 : Nat) (Option.some Jvm.ClassFile.FieldType.int)) ∈ jw := jt4 (List.mem_of_getElem? (i := 36) (by exact rfl)) rfl
set_option maxRecDepth 20000 in
theorem lk_4_37 : (Jvm.Cond.methodLink "PensionHouse$Parser" (70 : Nat) ({ cls := "PensionHouse$Parser", name := "readE", desc := "(I)I" } : Jvm.MethodName)) ∈ jw := jt4 (List.mem_of_getElem? (i := 37) (by decide +kernel)) rfl
set_option maxRecDepth 20000 in
theorem lk_4_39 : (Jvm.Cond.instanceMethod ({ cls := "PensionHouse$Parser", name := "readE", desc := "(I)I" } : Jvm.MethodName)) ∈ jw := jt4 (List.mem_of_getElem? (i := 39) (by decide +kernel)) rfl
set_option maxRecDepth 20000 in
theorem lk_4_40 : (Jvm.Cond.code ({ cls := "PensionHouse$Parser", name := "readE", desc := "(I)I" } : Jvm.MethodName) prog_6_method_10_code (6 : Nat) (Option.some Jvm.ClassFile.FieldType.int)) ∈ jw := jt4 (List.mem_of_getElem? (i := 40) (by exact rfl)) rfl
set_option maxRecDepth 20000 in
theorem lk_4_41 : (Jvm.Cond.methodLink "PensionHouse$Parser" (91 : Nat) ({ cls := "PensionHouse$Parser", name := "beginsU", desc := "()Z" } : Jvm.MethodName)) ∈ jw := jt4 (List.mem_of_getElem? (i := 41) (by decide +kernel)) rfl
set_option maxRecDepth 20000 in
theorem lk_4_43 : (Jvm.Cond.instanceMethod ({ cls := "PensionHouse$Parser", name := "beginsU", desc := "()Z" } : Jvm.MethodName)) ∈ jw := jt4 (List.mem_of_getElem? (i := 43) (by decide +kernel)) rfl
set_option maxRecDepth 20000 in
theorem lk_4_44 : (Jvm.Cond.code ({ cls := "PensionHouse$Parser", name := "beginsU", desc := "()Z" } : Jvm.MethodName) prog_6_method_8_code (1 : Nat) (Option.some Jvm.ClassFile.FieldType.boolean)) ∈ jw := jt4 (List.mem_of_getElem? (i := 44) (by exact rfl)) rfl
set_option maxRecDepth 20000 in
theorem lk_4_45 : (Jvm.Cond.methodLink "PensionHouse$Parser" (88 : Nat) ({ cls := "PensionHouse$Tape", name := "arity", desc := "(I)I" } : Jvm.MethodName)) ∈ jw := jt4 (List.mem_of_getElem? (i := 45) (by decide +kernel)) rfl
set_option maxRecDepth 20000 in
theorem lk_4_46 : (Jvm.Cond.static ({ cls := "PensionHouse$Tape", name := "arity", desc := "(I)I" } : Jvm.MethodName)) ∈ jw := jt4 (List.mem_of_getElem? (i := 46) (by decide +kernel)) rfl
set_option maxRecDepth 20000 in
theorem lk_4_47 : (Jvm.Cond.code ({ cls := "PensionHouse$Tape", name := "arity", desc := "(I)I" } : Jvm.MethodName) prog_9_method_13_code (1 : Nat) (Option.some Jvm.ClassFile.FieldType.int)) ∈ jw := jt4 (List.mem_of_getElem? (i := 47) (by exact rfl)) rfl
set_option maxRecDepth 20000 in
theorem lk_4_48 : (Jvm.Cond.methodLink "PensionHouse$Parser" (95 : Nat) ({ cls := "PensionHouse$Parser", name := "mayBegin", desc := "(ZI)Z" } : Jvm.MethodName)) ∈ jw := jt4 (List.mem_of_getElem? (i := 48) (by decide +kernel)) rfl
set_option maxRecDepth 20000 in
theorem lk_4_50 : (Jvm.Cond.instanceMethod ({ cls := "PensionHouse$Parser", name := "mayBegin", desc := "(ZI)Z" } : Jvm.MethodName)) ∈ jw := jt4 (List.mem_of_getElem? (i := 50) (by decide +kernel)) rfl
set_option maxRecDepth 20000 in
theorem lk_4_51 : (Jvm.Cond.code ({ cls := "PensionHouse$Parser", name := "mayBegin", desc := "(ZI)Z" } : Jvm.MethodName) prog_6_method_9_code (3 : Nat) (Option.some Jvm.ClassFile.FieldType.boolean)) ∈ jw := jt4 (List.mem_of_getElem? (i := 51) (by exact rfl)) rfl
set_option maxRecDepth 20000 in
theorem lk_4_52 : (Jvm.Cond.methodLink "PensionHouse$Parser" (99 : Nat) ({ cls := "PensionHouse$Parser", name := "readC", desc := "(I)I" } : Jvm.MethodName)) ∈ jw := jt4 (List.mem_of_getElem? (i := 52) (by decide +kernel)) rfl
set_option maxRecDepth 20000 in
theorem lk_4_54 : (Jvm.Cond.instanceMethod ({ cls := "PensionHouse$Parser", name := "readC", desc := "(I)I" } : Jvm.MethodName)) ∈ jw := jt4 (List.mem_of_getElem? (i := 54) (by decide +kernel)) rfl
set_option maxRecDepth 20000 in
theorem lk_4_55 : (Jvm.Cond.code ({ cls := "PensionHouse$Parser", name := "readC", desc := "(I)I" } : Jvm.MethodName) prog_6_method_11_code (4 : Nat) (Option.some Jvm.ClassFile.FieldType.int)) ∈ jw := jt4 (List.mem_of_getElem? (i := 55) (by exact rfl)) rfl
set_option maxRecDepth 20000 in
theorem lk_4_56 : (Jvm.Cond.methodLink "PensionHouse$Parser" (109 : Nat) ({ cls := "PensionHouse$Parser", name := "readA", desc := "(I)I" } : Jvm.MethodName)) ∈ jw := jt4 (List.mem_of_getElem? (i := 56) (by decide +kernel)) rfl
set_option maxRecDepth 20000 in
theorem lk_4_58 : (Jvm.Cond.instanceMethod ({ cls := "PensionHouse$Parser", name := "readA", desc := "(I)I" } : Jvm.MethodName)) ∈ jw := jt4 (List.mem_of_getElem? (i := 58) (by decide +kernel)) rfl
set_option maxRecDepth 20000 in
theorem lk_4_59 : (Jvm.Cond.code ({ cls := "PensionHouse$Parser", name := "readA", desc := "(I)I" } : Jvm.MethodName) prog_6_method_12_code (5 : Nat) (Option.some Jvm.ClassFile.FieldType.int)) ∈ jw := jt4 (List.mem_of_getElem? (i := 59) (by exact rfl)) rfl
set_option maxRecDepth 20000 in
theorem lk_4_60 : (Jvm.Cond.methodLink "PensionHouse$Parser" (116 : Nat) ({ cls := "PensionHouse$Parser", name := "readM", desc := "(I)I" } : Jvm.MethodName)) ∈ jw := jt4 (List.mem_of_getElem? (i := 60) (by decide +kernel)) rfl
set_option maxRecDepth 20000 in
theorem lk_4_62 : (Jvm.Cond.instanceMethod ({ cls := "PensionHouse$Parser", name := "readM", desc := "(I)I" } : Jvm.MethodName)) ∈ jw := jt4 (List.mem_of_getElem? (i := 62) (by decide +kernel)) rfl
set_option maxRecDepth 20000 in
theorem lk_4_63 : (Jvm.Cond.code ({ cls := "PensionHouse$Parser", name := "readM", desc := "(I)I" } : Jvm.MethodName) prog_6_method_13_code (5 : Nat) (Option.some Jvm.ClassFile.FieldType.int)) ∈ jw := jt4 (List.mem_of_getElem? (i := 63) (by exact rfl)) rfl
set_option maxRecDepth 20000 in
theorem lk_4_64 : (Jvm.Cond.methodLink "PensionHouse$Parser" (119 : Nat) ({ cls := "PensionHouse$Parser", name := "readU", desc := "(I)I" } : Jvm.MethodName)) ∈ jw := jt4 (List.mem_of_getElem? (i := 64) (by decide +kernel)) rfl
set_option maxRecDepth 20000 in
theorem lk_4_66 : (Jvm.Cond.instanceMethod ({ cls := "PensionHouse$Parser", name := "readU", desc := "(I)I" } : Jvm.MethodName)) ∈ jw := jt4 (List.mem_of_getElem? (i := 66) (by decide +kernel)) rfl
set_option maxRecDepth 20000 in
theorem lk_4_67 : (Jvm.Cond.code ({ cls := "PensionHouse$Parser", name := "readU", desc := "(I)I" } : Jvm.MethodName) prog_6_method_14_code (5 : Nat) (Option.some Jvm.ClassFile.FieldType.int)) ∈ jw := jt4 (List.mem_of_getElem? (i := 67) (by exact rfl)) rfl
set_option maxRecDepth 20000 in
theorem lk_4_68 : (Jvm.Cond.methodLink "PensionHouse$Parser" (102 : Nat) ({ cls := "PensionHouse$Parser", name := "part", desc := "(IJ)I" } : Jvm.MethodName)) ∈ jw := jt4 (List.mem_of_getElem? (i := 68) (by decide +kernel)) rfl
set_option maxRecDepth 20000 in
theorem lk_4_70 : (Jvm.Cond.instanceMethod ({ cls := "PensionHouse$Parser", name := "part", desc := "(IJ)I" } : Jvm.MethodName)) ∈ jw := jt4 (List.mem_of_getElem? (i := 70) (by decide +kernel)) rfl
set_option maxRecDepth 20000 in
theorem lk_4_71 : (Jvm.Cond.code ({ cls := "PensionHouse$Parser", name := "part", desc := "(IJ)I" } : Jvm.MethodName) prog_6_method_6_code (5 : Nat) (Option.some Jvm.ClassFile.FieldType.int)) ∈ jw := jt4 (List.mem_of_getElem? (i := 71) (by exact rfl)) rfl
set_option maxRecDepth 20000 in
theorem lk_4_72 : (Jvm.Cond.methodLink "PensionHouse$Parser" (84 : Nat) ({ cls := "PensionHouse$Text", name := "addPart", desc := "(IJ)I" } : Jvm.MethodName)) ∈ jw := jt4 (List.mem_of_getElem? (i := 72) (by decide +kernel)) rfl
set_option maxRecDepth 20000 in
theorem lk_4_73 : (Jvm.Cond.instanceMethod ({ cls := "PensionHouse$Text", name := "addPart", desc := "(IJ)I" } : Jvm.MethodName)) ∈ jw := jt4 (List.mem_of_getElem? (i := 73) (by decide +kernel)) rfl
set_option maxRecDepth 20000 in
theorem lk_4_74 : (Jvm.Cond.selects "PensionHouse$Text" ({ cls := "PensionHouse$Text", name := "addPart", desc := "(IJ)I" } : Jvm.MethodName) ({ cls := "PensionHouse$Text", name := "addPart", desc := "(IJ)I" } : Jvm.MethodName)) ∈ jw := jt4 (List.mem_of_getElem? (i := 74) (by decide +kernel)) rfl
set_option maxRecDepth 20000 in
theorem lk_4_75 : (Jvm.Cond.code ({ cls := "PensionHouse$Text", name := "addPart", desc := "(IJ)I" } : Jvm.MethodName) prog_10_method_3_code (4 : Nat) (Option.some Jvm.ClassFile.FieldType.int)) ∈ jw := jt4 (List.mem_of_getElem? (i := 75) (by exact rfl)) rfl
set_option maxRecDepth 20000 in
theorem lk_4_76 : (Jvm.Cond.methodLink "PensionHouse$Parser" (105 : Nat) ({ cls := "PensionHouse$Text", name := "setInner", desc := "(III)V" } : Jvm.MethodName)) ∈ jw := jt4 (List.mem_of_getElem? (i := 76) (by decide +kernel)) rfl
set_option maxRecDepth 20000 in
theorem lk_4_77 : (Jvm.Cond.instanceMethod ({ cls := "PensionHouse$Text", name := "setInner", desc := "(III)V" } : Jvm.MethodName)) ∈ jw := jt4 (List.mem_of_getElem? (i := 77) (by decide +kernel)) rfl
set_option maxRecDepth 20000 in
theorem lk_4_78 : (Jvm.Cond.selects "PensionHouse$Text" ({ cls := "PensionHouse$Text", name := "setInner", desc := "(III)V" } : Jvm.MethodName) ({ cls := "PensionHouse$Text", name := "setInner", desc := "(III)V" } : Jvm.MethodName)) ∈ jw := jt4 (List.mem_of_getElem? (i := 78) (by decide +kernel)) rfl
set_option maxRecDepth 20000 in
theorem lk_4_79 : (Jvm.Cond.code ({ cls := "PensionHouse$Text", name := "setInner", desc := "(III)V" } : Jvm.MethodName) prog_10_method_4_code (4 : Nat) (Option.none : Option Jvm.ClassFile.FieldType)) ∈ jw := jt4 (List.mem_of_getElem? (i := 79) (by exact rfl)) rfl
set_option maxRecDepth 20000 in
theorem lk_4_80 : (Jvm.Cond.methodLink "PensionHouse$Parser" (122 : Nat) ({ cls := "PensionHouse$Parser", name := "readP", desc := "(I)I" } : Jvm.MethodName)) ∈ jw := jt4 (List.mem_of_getElem? (i := 80) (by decide +kernel)) rfl
set_option maxRecDepth 20000 in
theorem lk_4_82 : (Jvm.Cond.instanceMethod ({ cls := "PensionHouse$Parser", name := "readP", desc := "(I)I" } : Jvm.MethodName)) ∈ jw := jt4 (List.mem_of_getElem? (i := 82) (by decide +kernel)) rfl
set_option maxRecDepth 20000 in
theorem lk_4_83 : (Jvm.Cond.code ({ cls := "PensionHouse$Parser", name := "readP", desc := "(I)I" } : Jvm.MethodName) prog_6_method_15_code (5 : Nat) (Option.some Jvm.ClassFile.FieldType.int)) ∈ jw := jt4 (List.mem_of_getElem? (i := 83) (by exact rfl)) rfl
set_option maxRecDepth 20000 in
theorem lk_4_84 : (Jvm.Cond.methodLink "PensionHouse$Parser" (128 : Nat) ({ cls := "PensionHouse$Real", name := "decimal", desc := "(JI)J" } : Jvm.MethodName)) ∈ jw := jt4 (List.mem_of_getElem? (i := 84) (by decide +kernel)) rfl
set_option maxRecDepth 20000 in
theorem lk_4_85 : (Jvm.Cond.static ({ cls := "PensionHouse$Real", name := "decimal", desc := "(JI)J" } : Jvm.MethodName)) ∈ jw := jt4 (List.mem_of_getElem? (i := 85) (by decide +kernel)) rfl
set_option maxRecDepth 20000 in
theorem lk_4_86 : (Jvm.Cond.code ({ cls := "PensionHouse$Real", name := "decimal", desc := "(JI)J" } : Jvm.MethodName) prog_7_method_9_code (6 : Nat) (Option.some Jvm.ClassFile.FieldType.long)) ∈ jw := jt4 (List.mem_of_getElem? (i := 86) (by exact rfl)) rfl
set_option maxRecDepth 20000 in
theorem lk_4_87 : (Jvm.Cond.constantLong "PensionHouse$Real" (29 : Nat) (10 : Int64)) ∈ jw := jt4 (List.mem_of_getElem? (i := 87) (by decide +kernel)) rfl
set_option maxRecDepth 20000 in
theorem lk_4_88 : (Jvm.Cond.methodLink "PensionHouse$Real" (31 : Nat) ({ cls := "PensionHouse$Real", name := "nearest", desc := "(J)J" } : Jvm.MethodName)) ∈ jw := jt4 (List.mem_of_getElem? (i := 88) (by decide +kernel)) rfl
set_option maxRecDepth 20000 in
theorem lk_4_89 : (Jvm.Cond.static ({ cls := "PensionHouse$Real", name := "nearest", desc := "(J)J" } : Jvm.MethodName)) ∈ jw := jt4 (List.mem_of_getElem? (i := 89) (by decide +kernel)) rfl
set_option maxRecDepth 20000 in
theorem lk_4_90 : (Jvm.Cond.code ({ cls := "PensionHouse$Real", name := "nearest", desc := "(J)J" } : Jvm.MethodName) prog_7_method_8_code (2 : Nat) (Option.some Jvm.ClassFile.FieldType.long)) ∈ jw := jt4 (List.mem_of_getElem? (i := 90) (by exact rfl)) rfl
set_option maxRecDepth 20000 in
theorem lk_4_91 : (Jvm.Cond.constantLong "PensionHouse$Real" (13 : Nat) (-9223372036854775808 : Int64)) ∈ jw := jt4 (List.mem_of_getElem? (i := 91) (by decide +kernel)) rfl
set_option maxRecDepth 20000 in
theorem lk_4_92 : (Jvm.Cond.constantLong "PensionHouse$Real" (23 : Nat) (-4332462841530417152 : Int64)) ∈ jw := jt4 (List.mem_of_getElem? (i := 92) (by decide +kernel)) rfl
set_option maxRecDepth 20000 in
theorem lk_4_93 : (Jvm.Cond.methodLink "PensionHouse$Real" (25 : Nat) ({ cls := "PensionHouse$Real", name := "rounded", desc := "(JIJ)J" } : Jvm.MethodName)) ∈ jw := jt4 (List.mem_of_getElem? (i := 93) (by decide +kernel)) rfl
set_option maxRecDepth 20000 in
theorem lk_4_94 : (Jvm.Cond.static ({ cls := "PensionHouse$Real", name := "rounded", desc := "(JIJ)J" } : Jvm.MethodName)) ∈ jw := jt4 (List.mem_of_getElem? (i := 94) (by decide +kernel)) rfl
set_option maxRecDepth 20000 in
theorem lk_4_95 : (Jvm.Cond.code ({ cls := "PensionHouse$Real", name := "rounded", desc := "(JIJ)J" } : Jvm.MethodName) prog_7_method_7_code (16 : Nat) (Option.some Jvm.ClassFile.FieldType.long)) ∈ jw := jt4 (List.mem_of_getElem? (i := 95) (by exact rfl)) rfl
set_option maxRecDepth 20000 in
theorem lk_4_96 : (Jvm.Cond.methodLink "PensionHouse$Real" (34 : Nat) ({ cls := "PensionHouse$Real", name := "over", desc := "(JJ)J" } : Jvm.MethodName)) ∈ jw := jt4 (List.mem_of_getElem? (i := 96) (by decide +kernel)) rfl
set_option maxRecDepth 20000 in
theorem lk_4_97 : (Jvm.Cond.static ({ cls := "PensionHouse$Real", name := "over", desc := "(JJ)J" } : Jvm.MethodName)) ∈ jw := jt4 (List.mem_of_getElem? (i := 97) (by decide +kernel)) rfl
set_option maxRecDepth 20000 in
theorem lk_4_98 : (Jvm.Cond.code ({ cls := "PensionHouse$Real", name := "over", desc := "(JJ)J" } : Jvm.MethodName) prog_7_method_12_code (17 : Nat) (Option.some Jvm.ClassFile.FieldType.long)) ∈ jw := jt4 (List.mem_of_getElem? (i := 98) (by exact rfl)) rfl
set_option maxRecDepth 20000 in
theorem lk_4_99 : (Jvm.Cond.methodLink "PensionHouse$Real" (38 : Nat) ({ cls := "PensionHouse$Real", name := "isNot", desc := "(J)Z" } : Jvm.MethodName)) ∈ jw := jt4 (List.mem_of_getElem? (i := 99) (by decide +kernel)) rfl
set_option maxRecDepth 20000 in
theorem lk_4_100 : (Jvm.Cond.constantLong "PensionHouse$Real" (42 : Nat) (9221120237041090560 : Int64)) ∈ jw := jt4 (List.mem_of_getElem? (i := 100) (by decide +kernel)) rfl
set_option maxRecDepth 20000 in
theorem lk_4_101 : (Jvm.Cond.methodLink "PensionHouse$Real" (48 : Nat) ({ cls := "PensionHouse$Real", name := "mantissa", desc := "(J)J" } : Jvm.MethodName)) ∈ jw := jt4 (List.mem_of_getElem? (i := 101) (by decide +kernel)) rfl
set_option maxRecDepth 20000 in
theorem lk_4_102 : (Jvm.Cond.static ({ cls := "PensionHouse$Real", name := "mantissa", desc := "(J)J" } : Jvm.MethodName)) ∈ jw := jt4 (List.mem_of_getElem? (i := 102) (by decide +kernel)) rfl
set_option maxRecDepth 20000 in
theorem lk_4_103 : (Jvm.Cond.code ({ cls := "PensionHouse$Real", name := "mantissa", desc := "(J)J" } : Jvm.MethodName) prog_7_method_5_code (5 : Nat) (Option.some Jvm.ClassFile.FieldType.long)) ∈ jw := jt4 (List.mem_of_getElem? (i := 103) (by exact rfl)) rfl
set_option maxRecDepth 20000 in
theorem lk_4_104 : (Jvm.Cond.constantLong "PensionHouse$Real" (19 : Nat) (4503599627370495 : Int64)) ∈ jw := jt4 (List.mem_of_getElem? (i := 104) (by decide +kernel)) rfl
set_option maxRecDepth 20000 in
theorem lk_4_105 : (Jvm.Cond.constantLong "PensionHouse$Real" (21 : Nat) (4503599627370496 : Int64)) ∈ jw := jt4 (List.mem_of_getElem? (i := 105) (by decide +kernel)) rfl
set_option maxRecDepth 20000 in
theorem lk_4_106 : (Jvm.Cond.methodLink "PensionHouse$Real" (44 : Nat) ({ cls := "PensionHouse$Real", name := "exponent", desc := "(J)I" } : Jvm.MethodName)) ∈ jw := jt4 (List.mem_of_getElem? (i := 106) (by decide +kernel)) rfl
set_option maxRecDepth 20000 in
theorem lk_4_107 : (Jvm.Cond.static ({ cls := "PensionHouse$Real", name := "exponent", desc := "(J)I" } : Jvm.MethodName)) ∈ jw := jt4 (List.mem_of_getElem? (i := 107) (by decide +kernel)) rfl
set_option maxRecDepth 20000 in
theorem lk_4_108 : (Jvm.Cond.code ({ cls := "PensionHouse$Real", name := "exponent", desc := "(J)I" } : Jvm.MethodName) prog_7_method_6_code (6 : Nat) (Option.some Jvm.ClassFile.FieldType.int)) ∈ jw := jt4 (List.mem_of_getElem? (i := 108) (by exact rfl)) rfl
set_option maxRecDepth 20000 in
theorem lk_4_109 : (Jvm.Cond.methodLink "PensionHouse$Parser" (134 : Nat) ({ cls := "PensionHouse$Parser", name := "sumOf", desc := "(J)I" } : Jvm.MethodName)) ∈ jw := jt4 (List.mem_of_getElem? (i := 109) (by decide +kernel)) rfl
set_option maxRecDepth 20000 in
theorem lk_4_111 : (Jvm.Cond.instanceMethod ({ cls := "PensionHouse$Parser", name := "sumOf", desc := "(J)I" } : Jvm.MethodName)) ∈ jw := jt4 (List.mem_of_getElem? (i := 111) (by decide +kernel)) rfl
set_option maxRecDepth 20000 in
theorem lk_4_112 : (Jvm.Cond.code ({ cls := "PensionHouse$Parser", name := "sumOf", desc := "(J)I" } : Jvm.MethodName) prog_6_method_16_code (4 : Nat) (Option.some Jvm.ClassFile.FieldType.int)) ∈ jw := jt4 (List.mem_of_getElem? (i := 112) (by exact rfl)) rfl
set_option maxRecDepth 20000 in
theorem lk_4_113 : (Jvm.Cond.methodLink "PensionHouse$Parser" (137 : Nat) ({ cls := "PensionHouse$Parser", name := "readSum", desc := "(I)I" } : Jvm.MethodName)) ∈ jw := jt4 (List.mem_of_getElem? (i := 113) (by decide +kernel)) rfl
set_option maxRecDepth 20000 in
theorem lk_4_115 : (Jvm.Cond.instanceMethod ({ cls := "PensionHouse$Parser", name := "readSum", desc := "(I)I" } : Jvm.MethodName)) ∈ jw := jt4 (List.mem_of_getElem? (i := 115) (by decide +kernel)) rfl
set_option maxRecDepth 20000 in
theorem lk_4_116 : (Jvm.Cond.code ({ cls := "PensionHouse$Parser", name := "readSum", desc := "(I)I" } : Jvm.MethodName) prog_6_method_17_code (5 : Nat) (Option.some Jvm.ClassFile.FieldType.int)) ∈ jw := jt4 (List.mem_of_getElem? (i := 116) (by exact rfl)) rfl
set_option maxRecDepth 20000 in
theorem lk_4_117 : (Jvm.Cond.methodLink "PensionHouse$Parser" (140 : Nat) ({ cls := "PensionHouse$Parser", name := "readFunction", desc := "(I)I" } : Jvm.MethodName)) ∈ jw := jt4 (List.mem_of_getElem? (i := 117) (by decide +kernel)) rfl
set_option maxRecDepth 20000 in
theorem lk_4_119 : (Jvm.Cond.instanceMethod ({ cls := "PensionHouse$Parser", name := "readFunction", desc := "(I)I" } : Jvm.MethodName)) ∈ jw := jt4 (List.mem_of_getElem? (i := 119) (by decide +kernel)) rfl
set_option maxRecDepth 20000 in
theorem lk_4_120 : (Jvm.Cond.code ({ cls := "PensionHouse$Parser", name := "readFunction", desc := "(I)I" } : Jvm.MethodName) prog_6_method_18_code (5 : Nat) (Option.some Jvm.ClassFile.FieldType.int)) ∈ jw := jt4 (List.mem_of_getElem? (i := 120) (by exact rfl)) rfl
set_option maxRecDepth 20000 in
theorem lk_4_121 : (Jvm.Cond.methodLink "PensionHouse$Parser" (112 : Nat) ({ cls := "PensionHouse$Parser", name := "isNext", desc := "(I)Z" } : Jvm.MethodName)) ∈ jw := jt4 (List.mem_of_getElem? (i := 121) (by decide +kernel)) rfl
set_option maxRecDepth 20000 in
theorem lk_4_123 : (Jvm.Cond.instanceMethod ({ cls := "PensionHouse$Parser", name := "isNext", desc := "(I)Z" } : Jvm.MethodName)) ∈ jw := jt4 (List.mem_of_getElem? (i := 123) (by decide +kernel)) rfl
set_option maxRecDepth 20000 in
theorem lk_4_124 : (Jvm.Cond.code ({ cls := "PensionHouse$Parser", name := "isNext", desc := "(I)Z" } : Jvm.MethodName) prog_6_method_7_code (2 : Nat) (Option.some Jvm.ClassFile.FieldType.boolean)) ∈ jw := jt4 (List.mem_of_getElem? (i := 124) (by exact rfl)) rfl
set_option maxRecDepth 20000 in
theorem lk_4_125 : (Jvm.Cond.methodLink "PensionHouse$Parser" (74 : Nat) ({ cls := "PensionHouse$Text", name := "addRule", desc := "(JI)V" } : Jvm.MethodName)) ∈ jw := jt4 (List.mem_of_getElem? (i := 125) (by decide +kernel)) rfl
set_option maxRecDepth 20000 in
theorem lk_4_126 : (Jvm.Cond.instanceMethod ({ cls := "PensionHouse$Text", name := "addRule", desc := "(JI)V" } : Jvm.MethodName)) ∈ jw := jt4 (List.mem_of_getElem? (i := 126) (by decide +kernel)) rfl
set_option maxRecDepth 20000 in
theorem lk_4_127 : (Jvm.Cond.selects "PensionHouse$Text" ({ cls := "PensionHouse$Text", name := "addRule", desc := "(JI)V" } : Jvm.MethodName) ({ cls := "PensionHouse$Text", name := "addRule", desc := "(JI)V" } : Jvm.MethodName)) ∈ jw := jt4 (List.mem_of_getElem? (i := 127) (by decide +kernel)) rfl
set_option maxRecDepth 20000 in
theorem lk_4_128 : (Jvm.Cond.code ({ cls := "PensionHouse$Text", name := "addRule", desc := "(JI)V" } : Jvm.MethodName) prog_10_method_6_code (4 : Nat) (Option.none : Option Jvm.ClassFile.FieldType)) ∈ jw := jt4 (List.mem_of_getElem? (i := 128) (by exact rfl)) rfl
set_option maxRecDepth 20000 in
theorem lk_4_129 : (Jvm.Cond.methodLink "PensionHouseLaw" (79 : Nat) ({ cls := "PensionHouse", name := "fault", desc := "()I" } : Jvm.MethodName)) ∈ jw := jt4 (List.mem_of_getElem? (i := 129) (by decide +kernel)) rfl
set_option maxRecDepth 20000 in
theorem lk_4_130 : (Jvm.Cond.instanceMethod ({ cls := "PensionHouse", name := "fault", desc := "()I" } : Jvm.MethodName)) ∈ jw := jt4 (List.mem_of_getElem? (i := 130) (by decide +kernel)) rfl
set_option maxRecDepth 20000 in
theorem lk_4_131 : (Jvm.Cond.selects "PensionHouse" ({ cls := "PensionHouse", name := "fault", desc := "()I" } : Jvm.MethodName) ({ cls := "PensionHouse", name := "fault", desc := "()I" } : Jvm.MethodName)) ∈ jw := jt4 (List.mem_of_getElem? (i := 131) (by decide +kernel)) rfl
set_option maxRecDepth 20000 in
theorem lk_4_132 : (Jvm.Cond.code ({ cls := "PensionHouse", name := "fault", desc := "()I" } : Jvm.MethodName) prog_1_method_16_code (1 : Nat) (Option.some Jvm.ClassFile.FieldType.int)) ∈ jw := jt4 (List.mem_of_getElem? (i := 132) (by exact rfl)) rfl
set_option maxRecDepth 20000 in
theorem lk_4_133 : (Jvm.Cond.methodLink "PensionHouseLaw" (83 : Nat) ({ cls := "PensionHouse", name := "inForce", desc := "(II)I" } : Jvm.MethodName)) ∈ jw := jt4 (List.mem_of_getElem? (i := 133) (by decide +kernel)) rfl
set_option maxRecDepth 20000 in
theorem lk_4_134 : (Jvm.Cond.instanceMethod ({ cls := "PensionHouse", name := "inForce", desc := "(II)I" } : Jvm.MethodName)) ∈ jw := jt4 (List.mem_of_getElem? (i := 134) (by decide +kernel)) rfl
set_option maxRecDepth 20000 in
theorem lk_4_135 : (Jvm.Cond.selects "PensionHouse" ({ cls := "PensionHouse", name := "inForce", desc := "(II)I" } : Jvm.MethodName) ({ cls := "PensionHouse", name := "inForce", desc := "(II)I" } : Jvm.MethodName)) ∈ jw := jt4 (List.mem_of_getElem? (i := 135) (by decide +kernel)) rfl
set_option maxRecDepth 20000 in
theorem lk_4_136 : (Jvm.Cond.code ({ cls := "PensionHouse", name := "inForce", desc := "(II)I" } : Jvm.MethodName) prog_1_method_17_code (4 : Nat) (Option.some Jvm.ClassFile.FieldType.int)) ∈ jw := jt4 (List.mem_of_getElem? (i := 136) (by exact rfl)) rfl
set_option maxRecDepth 20000 in
theorem lk_4_137 : (Jvm.Cond.methodLink "PensionHouse" (229 : Nat) ({ cls := "PensionHouse", name := "textInForce", desc := "(II)LPensionHouse$Text;" } : Jvm.MethodName)) ∈ jw := jt4 (List.mem_of_getElem? (i := 137) (by decide +kernel)) rfl
set_option maxRecDepth 20000 in
theorem lk_4_139 : (Jvm.Cond.instanceMethod ({ cls := "PensionHouse", name := "textInForce", desc := "(II)LPensionHouse$Text;" } : Jvm.MethodName)) ∈ jw := jt4 (List.mem_of_getElem? (i := 139) (by decide +kernel)) rfl
set_option maxRecDepth 20000 in
theorem lk_4_140 : (Jvm.Cond.code ({ cls := "PensionHouse", name := "textInForce", desc := "(II)LPensionHouse$Text;" } : Jvm.MethodName) prog_1_method_40_code (6 : Nat) (Option.some (Jvm.ClassFile.FieldType.object "PensionHouse$Text"))) ∈ jw := jt4 (List.mem_of_getElem? (i := 140) (by exact rfl)) rfl
set_option maxRecDepth 20000 in
theorem lk_4_141 : (Jvm.Cond.methodLink "PensionHouseLaw" (87 : Nat) ({ cls := "PensionHouse", name := "figure", desc := "(IIII)I" } : Jvm.MethodName)) ∈ jw := jt4 (List.mem_of_getElem? (i := 141) (by decide +kernel)) rfl
set_option maxRecDepth 20000 in
theorem lk_4_142 : (Jvm.Cond.instanceMethod ({ cls := "PensionHouse", name := "figure", desc := "(IIII)I" } : Jvm.MethodName)) ∈ jw := jt4 (List.mem_of_getElem? (i := 142) (by decide +kernel)) rfl
set_option maxRecDepth 20000 in
theorem lk_4_143 : (Jvm.Cond.selects "PensionHouse" ({ cls := "PensionHouse", name := "figure", desc := "(IIII)I" } : Jvm.MethodName) ({ cls := "PensionHouse", name := "figure", desc := "(IIII)I" } : Jvm.MethodName)) ∈ jw := jt4 (List.mem_of_getElem? (i := 143) (by decide +kernel)) rfl
set_option maxRecDepth 20000 in
theorem lk_4_144 : (Jvm.Cond.code ({ cls := "PensionHouse", name := "figure", desc := "(IIII)I" } : Jvm.MethodName) prog_1_method_18_code (8 : Nat) (Option.some Jvm.ClassFile.FieldType.int)) ∈ jw := jt4 (List.mem_of_getElem? (i := 144) (by exact rfl)) rfl
set_option maxRecDepth 20000 in
theorem lk_4_145 : (Jvm.Cond.methodLink "PensionHouse" (233 : Nat) ({ cls := "PensionHouse$Text", name := "ruleNamed", desc := "(J)I" } : Jvm.MethodName)) ∈ jw := jt4 (List.mem_of_getElem? (i := 145) (by decide +kernel)) rfl
set_option maxRecDepth 20000 in
theorem lk_4_146 : (Jvm.Cond.methodLink "PensionHouse" (237 : Nat) ({ cls := "PensionHouse$Worker", name := "work", desc := "(LPensionHouse$Case;LPensionHouse$Text;JIII)V" } : Jvm.MethodName)) ∈ jw := jt4 (List.mem_of_getElem? (i := 146) (by decide +kernel)) rfl
set_option maxRecDepth 20000 in
theorem lk_4_147 : (Jvm.Cond.instanceMethod ({ cls := "PensionHouse$Worker", name := "work", desc := "(LPensionHouse$Case;LPensionHouse$Text;JIII)V" } : Jvm.MethodName)) ∈ jw := jt4 (List.mem_of_getElem? (i := 147) (by decide +kernel)) rfl
set_option maxRecDepth 20000 in
theorem lk_4_148 : (Jvm.Cond.selects "PensionHouse$Worker" ({ cls := "PensionHouse$Worker", name := "work", desc := "(LPensionHouse$Case;LPensionHouse$Text;JIII)V" } : Jvm.MethodName) ({ cls := "PensionHouse$Worker", name := "work", desc := "(LPensionHouse$Case;LPensionHouse$Text;JIII)V" } : Jvm.MethodName)) ∈ jw := jt4 (List.mem_of_getElem? (i := 148) (by decide +kernel)) rfl
set_option maxRecDepth 20000 in
theorem lk_4_149 : (Jvm.Cond.code ({ cls := "PensionHouse$Worker", name := "work", desc := "(LPensionHouse$Case;LPensionHouse$Text;JIII)V" } : Jvm.MethodName) prog_12_method_2_code (10 : Nat) (Option.none : Option Jvm.ClassFile.FieldType)) ∈ jw := jt4 (List.mem_of_getElem? (i := 149) (by exact rfl)) rfl
set_option maxRecDepth 20000 in
theorem lk_4_150 : (Jvm.Cond.methodLink "PensionHouse$Worker" (59 : Nat) ({ cls := "PensionHouse$Case", name := "clear", desc := "()V" } : Jvm.MethodName)) ∈ jw := jt4 (List.mem_of_getElem? (i := 150) (by decide +kernel)) rfl
set_option maxRecDepth 20000 in
theorem lk_4_151 : (Jvm.Cond.instanceMethod ({ cls := "PensionHouse$Case", name := "clear", desc := "()V" } : Jvm.MethodName)) ∈ jw := jt4 (List.mem_of_getElem? (i := 151) (by decide +kernel)) rfl
set_option maxRecDepth 20000 in
theorem lk_4_152 : (Jvm.Cond.selects "PensionHouse$Case" ({ cls := "PensionHouse$Case", name := "clear", desc := "()V" } : Jvm.MethodName) ({ cls := "PensionHouse$Case", name := "clear", desc := "()V" } : Jvm.MethodName)) ∈ jw := jt4 (List.mem_of_getElem? (i := 152) (by decide +kernel)) rfl
set_option maxRecDepth 20000 in
theorem lk_4_153 : (Jvm.Cond.code ({ cls := "PensionHouse$Case", name := "clear", desc := "()V" } : Jvm.MethodName) prog_3_method_2_code (1 : Nat) (Option.none : Option Jvm.ClassFile.FieldType)) ∈ jw := jt4 (List.mem_of_getElem? (i := 153) (by exact rfl)) rfl
set_option maxRecDepth 20000 in
theorem lk_4_154 : (Jvm.Cond.methodLink "PensionHouse$Case" (52 : Nat) ({ cls := "java/util/Arrays", name := "fill", desc := "([II)V" } : Jvm.MethodName)) ∈ jw := jt4 (List.mem_of_getElem? (i := 154) (by decide +kernel)) rfl
set_option maxRecDepth 20000 in
theorem lk_4_155 : (Jvm.Cond.static ({ cls := "java/util/Arrays", name := "fill", desc := "([II)V" } : Jvm.MethodName)) ∈ jw := jt4 (List.mem_of_getElem? (i := 155) (by decide +kernel)) rfl
set_option maxRecDepth 20000 in
theorem lk_4_156 : (Jvm.Cond.code ({ cls := "java/util/Arrays", name := "fill", desc := "([II)V" } : Jvm.MethodName) prog_21_method_103_code (4 : Nat) (Option.none : Option Jvm.ClassFile.FieldType)) ∈ jw := jt4 (List.mem_of_getElem? (i := 156) (by exact rfl)) rfl
set_option maxRecDepth 20000 in
theorem lk_4_157 : (Jvm.Cond.methodLink "PensionHouse$Worker" (64 : Nat) ({ cls := "PensionHouse$Text", name := "ruleNamed", desc := "(J)I" } : Jvm.MethodName)) ∈ jw := jt4 (List.mem_of_getElem? (i := 157) (by decide +kernel)) rfl
set_option maxRecDepth 20000 in
theorem lk_4_158 : (Jvm.Cond.methodLink "PensionHouse$Worker" (83 : Nat) ({ cls := "PensionHouse$Worker", name := "enter", desc := "(II)V" } : Jvm.MethodName)) ∈ jw := jt4 (List.mem_of_getElem? (i := 158) (by decide +kernel)) rfl
set_option maxRecDepth 20000 in
theorem lk_4_160 : (Jvm.Cond.instanceMethod ({ cls := "PensionHouse$Worker", name := "enter", desc := "(II)V" } : Jvm.MethodName)) ∈ jw := jt4 (List.mem_of_getElem? (i := 160) (by decide +kernel)) rfl
set_option maxRecDepth 20000 in
theorem lk_4_161 : (Jvm.Cond.code ({ cls := "PensionHouse$Worker", name := "enter", desc := "(II)V" } : Jvm.MethodName) prog_12_method_7_code (3 : Nat) (Option.none : Option Jvm.ClassFile.FieldType)) ∈ jw := jt4 (List.mem_of_getElem? (i := 161) (by exact rfl)) rfl
set_option maxRecDepth 20000 in
theorem lk_4_162 : (Jvm.Cond.constant "PensionHouse$Worker" (87 : Nat) (1000000 : Int32)) ∈ jw := jt4 (List.mem_of_getElem? (i := 162) (by decide +kernel)) rfl
set_option maxRecDepth 20000 in
theorem lk_4_163 : (Jvm.Cond.methodLink "PensionHouse$Worker" (88 : Nat) ({ cls := "PensionHouse$Worker", name := "turn", desc := "()V" } : Jvm.MethodName)) ∈ jw := jt4 (List.mem_of_getElem? (i := 163) (by decide +kernel)) rfl
set_option maxRecDepth 20000 in
theorem lk_4_165 : (Jvm.Cond.instanceMethod ({ cls := "PensionHouse$Worker", name := "turn", desc := "()V" } : Jvm.MethodName)) ∈ jw := jt4 (List.mem_of_getElem? (i := 165) (by decide +kernel)) rfl
set_option maxRecDepth 20000 in
theorem lk_4_166 : (Jvm.Cond.code ({ cls := "PensionHouse$Worker", name := "turn", desc := "()V" } : Jvm.MethodName) prog_12_method_3_code (4 : Nat) (Option.none : Option Jvm.ClassFile.FieldType)) ∈ jw := jt4 (List.mem_of_getElem? (i := 166) (by exact rfl)) rfl
set_option maxRecDepth 20000 in
theorem lk_4_167 : (Jvm.Cond.methodLink "PensionHouse$Worker" (101 : Nat) ({ cls := "PensionHouse$Worker", name := "workOf", desc := "(I)I" } : Jvm.MethodName)) ∈ jw := jt4 (List.mem_of_getElem? (i := 167) (by decide +kernel)) rfl
set_option maxRecDepth 20000 in
theorem lk_4_168 : (Jvm.Cond.static ({ cls := "PensionHouse$Worker", name := "workOf", desc := "(I)I" } : Jvm.MethodName)) ∈ jw := jt4 (List.mem_of_getElem? (i := 168) (by decide +kernel)) rfl
set_option maxRecDepth 20000 in
theorem lk_4_169 : (Jvm.Cond.code ({ cls := "PensionHouse$Worker", name := "workOf", desc := "(I)I" } : Jvm.MethodName) prog_12_method_4_code (1 : Nat) (Option.some Jvm.ClassFile.FieldType.int)) ∈ jw := jt4 (List.mem_of_getElem? (i := 169) (by exact rfl)) rfl
set_option maxRecDepth 20000 in
theorem lk_4_170 : (Jvm.Cond.methodLink "PensionHouse$Worker" (105 : Nat) ({ cls := "PensionHouse$Worker", name := "spend", desc := "(I)Z" } : Jvm.MethodName)) ∈ jw := jt4 (List.mem_of_getElem? (i := 170) (by decide +kernel)) rfl
set_option maxRecDepth 20000 in
theorem lk_4_172 : (Jvm.Cond.instanceMethod ({ cls := "PensionHouse$Worker", name := "spend", desc := "(I)Z" } : Jvm.MethodName)) ∈ jw := jt4 (List.mem_of_getElem? (i := 172) (by decide +kernel)) rfl
set_option maxRecDepth 20000 in
theorem lk_4_173 : (Jvm.Cond.code ({ cls := "PensionHouse$Worker", name := "spend", desc := "(I)Z" } : Jvm.MethodName) prog_12_method_5_code (2 : Nat) (Option.some Jvm.ClassFile.FieldType.boolean)) ∈ jw := jt4 (List.mem_of_getElem? (i := 173) (by exact rfl)) rfl
set_option maxRecDepth 20000 in
theorem lk_4_174 : (Jvm.Cond.methodLink "PensionHouse$Worker" (148 : Nat) ({ cls := "PensionHouse$Worker", name := "fail", desc := "(I)V" } : Jvm.MethodName)) ∈ jw := jt4 (List.mem_of_getElem? (i := 174) (by decide +kernel)) rfl
set_option maxRecDepth 20000 in
theorem lk_4_176 : (Jvm.Cond.instanceMethod ({ cls := "PensionHouse$Worker", name := "fail", desc := "(I)V" } : Jvm.MethodName)) ∈ jw := jt4 (List.mem_of_getElem? (i := 176) (by decide +kernel)) rfl
set_option maxRecDepth 20000 in
theorem lk_4_177 : (Jvm.Cond.code ({ cls := "PensionHouse$Worker", name := "fail", desc := "(I)V" } : Jvm.MethodName) prog_12_method_6_code (2 : Nat) (Option.none : Option Jvm.ClassFile.FieldType)) ∈ jw := jt4 (List.mem_of_getElem? (i := 177) (by exact rfl)) rfl
set_option maxRecDepth 20000 in
theorem lk_4_178 : (Jvm.Cond.methodLink "PensionHouse$Worker" (112 : Nat) ({ cls := "PensionHouse$Worker", name := "pushNumber", desc := "(IJ)V" } : Jvm.MethodName)) ∈ jw := jt4 (List.mem_of_getElem? (i := 178) (by decide +kernel)) rfl
set_option maxRecDepth 20000 in
theorem lk_4_180 : (Jvm.Cond.instanceMethod ({ cls := "PensionHouse$Worker", name := "pushNumber", desc := "(IJ)V" } : Jvm.MethodName)) ∈ jw := jt4 (List.mem_of_getElem? (i := 180) (by decide +kernel)) rfl
set_option maxRecDepth 20000 in
theorem lk_4_181 : (Jvm.Cond.code ({ cls := "PensionHouse$Worker", name := "pushNumber", desc := "(IJ)V" } : Jvm.MethodName) prog_12_method_12_code (4 : Nat) (Option.none : Option Jvm.ClassFile.FieldType)) ∈ jw := jt4 (List.mem_of_getElem? (i := 181) (by exact rfl)) rfl
set_option maxRecDepth 20000 in
theorem lk_4_182 : (Jvm.Cond.methodLink "PensionHouse$Worker" (170 : Nat) ({ cls := "PensionHouse$Worker", name := "pushed", desc := "()LPensionHouse$Value;" } : Jvm.MethodName)) ∈ jw := jt4 (List.mem_of_getElem? (i := 182) (by decide +kernel)) rfl
set_option maxRecDepth 20000 in
theorem lk_4_184 : (Jvm.Cond.instanceMethod ({ cls := "PensionHouse$Worker", name := "pushed", desc := "()LPensionHouse$Value;" } : Jvm.MethodName)) ∈ jw := jt4 (List.mem_of_getElem? (i := 184) (by decide +kernel)) rfl
set_option maxRecDepth 20000 in
theorem lk_4_185 : (Jvm.Cond.code ({ cls := "PensionHouse$Worker", name := "pushed", desc := "()LPensionHouse$Value;" } : Jvm.MethodName) prog_12_method_11_code (1 : Nat) (Option.some (Jvm.ClassFile.FieldType.object "PensionHouse$Value"))) ∈ jw := jt4 (List.mem_of_getElem? (i := 185) (by exact rfl)) rfl
set_option maxRecDepth 20000 in
theorem lk_4_186 : (Jvm.Cond.methodLink "PensionHouse$Worker" (174 : Nat) ({ cls := "PensionHouse$Value", name := "setNumber", desc := "(IJ)V" } : Jvm.MethodName)) ∈ jw := jt4 (List.mem_of_getElem? (i := 186) (by decide +kernel)) rfl
set_option maxRecDepth 20000 in
theorem lk_4_187 : (Jvm.Cond.methodLink "PensionHouse$Worker" (167 : Nat) ({ cls := "PensionHouse$Worker", name := "leave", desc := "()V" } : Jvm.MethodName)) ∈ jw := jt4 (List.mem_of_getElem? (i := 187) (by decide +kernel)) rfl
set_option maxRecDepth 20000 in
theorem lk_4_189 : (Jvm.Cond.instanceMethod ({ cls := "PensionHouse$Worker", name := "leave", desc := "()V" } : Jvm.MethodName)) ∈ jw := jt4 (List.mem_of_getElem? (i := 189) (by decide +kernel)) rfl
set_option maxRecDepth 20000 in
theorem lk_4_190 : (Jvm.Cond.code ({ cls := "PensionHouse$Worker", name := "leave", desc := "()V" } : Jvm.MethodName) prog_12_method_9_code (1 : Nat) (Option.none : Option Jvm.ClassFile.FieldType)) ∈ jw := jt4 (List.mem_of_getElem? (i := 190) (by exact rfl)) rfl
set_option maxRecDepth 20000 in
theorem lk_4_191 : (Jvm.Cond.methodLink "PensionHouse$Worker" (116 : Nat) ({ cls := "PensionHouse$Worker", name := "counterOf", desc := "(J)J" } : Jvm.MethodName)) ∈ jw := jt4 (List.mem_of_getElem? (i := 191) (by decide +kernel)) rfl
set_option maxRecDepth 20000 in
theorem lk_4_193 : (Jvm.Cond.instanceMethod ({ cls := "PensionHouse$Worker", name := "counterOf", desc := "(J)J" } : Jvm.MethodName)) ∈ jw := jt4 (List.mem_of_getElem? (i := 193) (by decide +kernel)) rfl
set_option maxRecDepth 20000 in
theorem lk_4_194 : (Jvm.Cond.code ({ cls := "PensionHouse$Worker", name := "counterOf", desc := "(J)J" } : Jvm.MethodName) prog_12_method_13_code (3 : Nat) (Option.some Jvm.ClassFile.FieldType.long)) ∈ jw := jt4 (List.mem_of_getElem? (i := 194) (by exact rfl)) rfl
set_option maxRecDepth 20000 in
theorem lk_4_195 : (Jvm.Cond.methodLink "PensionHouse$Worker" (120 : Nat) ({ cls := "PensionHouse$Worker", name := "askFact", desc := "(J)V" } : Jvm.MethodName)) ∈ jw := jt4 (List.mem_of_getElem? (i := 195) (by decide +kernel)) rfl
set_option maxRecDepth 20000 in
theorem lk_4_197 : (Jvm.Cond.instanceMethod ({ cls := "PensionHouse$Worker", name := "askFact", desc := "(J)V" } : Jvm.MethodName)) ∈ jw := jt4 (List.mem_of_getElem? (i := 197) (by decide +kernel)) rfl
set_option maxRecDepth 20000 in
theorem lk_4_198 : (Jvm.Cond.code ({ cls := "PensionHouse$Worker", name := "askFact", desc := "(J)V" } : Jvm.MethodName) prog_12_method_14_code (4 : Nat) (Option.none : Option Jvm.ClassFile.FieldType)) ∈ jw := jt4 (List.mem_of_getElem? (i := 198) (by exact rfl)) rfl
set_option maxRecDepth 20000 in
theorem lk_4_199 : (Jvm.Cond.methodLink "PensionHouse$Worker" (180 : Nat) ({ cls := "PensionHouse$Register", name := "latest", desc := "(IJII)I" } : Jvm.MethodName)) ∈ jw := jt4 (List.mem_of_getElem? (i := 199) (by decide +kernel)) rfl
set_option maxRecDepth 20000 in
theorem lk_4_200 : (Jvm.Cond.methodLink "PensionHouse$Worker" (196 : Nat) ({ cls := "PensionHouse$Value", name := "setTo", desc := "(LPensionHouse$Value;)V" } : Jvm.MethodName)) ∈ jw := jt4 (List.mem_of_getElem? (i := 200) (by decide +kernel)) rfl
set_option maxRecDepth 20000 in
theorem lk_4_201 : (Jvm.Cond.methodLink "PensionHouse$Worker" (124 : Nat) ({ cls := "PensionHouse$Worker", name := "wantRule", desc := "(II)V" } : Jvm.MethodName)) ∈ jw := jt4 (List.mem_of_getElem? (i := 201) (by decide +kernel)) rfl
set_option maxRecDepth 20000 in
theorem lk_4_203 : (Jvm.Cond.instanceMethod ({ cls := "PensionHouse$Worker", name := "wantRule", desc := "(II)V" } : Jvm.MethodName)) ∈ jw := jt4 (List.mem_of_getElem? (i := 203) (by decide +kernel)) rfl
set_option maxRecDepth 20000 in
theorem lk_4_204 : (Jvm.Cond.code ({ cls := "PensionHouse$Worker", name := "wantRule", desc := "(II)V" } : Jvm.MethodName) prog_12_method_15_code (3 : Nat) (Option.none : Option Jvm.ClassFile.FieldType)) ∈ jw := jt4 (List.mem_of_getElem? (i := 204) (by exact rfl)) rfl
set_option maxRecDepth 20000 in
theorem lk_4_205 : (Jvm.Cond.methodLink "PensionHouse$Worker" (203 : Nat) ({ cls := "java/lang/Math", name := "max", desc := "(II)I" } : Jvm.MethodName)) ∈ jw := jt4 (List.mem_of_getElem? (i := 205) (by decide +kernel)) rfl
set_option maxRecDepth 20000 in
theorem lk_4_206 : (Jvm.Cond.methodLink "PensionHouse$Worker" (94 : Nat) ({ cls := "PensionHouse$Case", name := "endRule", desc := "(ILPensionHouse$Value;)V" } : Jvm.MethodName)) ∈ jw := jt4 (List.mem_of_getElem? (i := 206) (by decide +kernel)) rfl
set_option maxRecDepth 20000 in
theorem lk_4_207 : (Jvm.Cond.instanceMethod ({ cls := "PensionHouse$Case", name := "endRule", desc := "(ILPensionHouse$Value;)V" } : Jvm.MethodName)) ∈ jw := jt4 (List.mem_of_getElem? (i := 207) (by decide +kernel)) rfl
set_option maxRecDepth 20000 in
theorem lk_4_208 : (Jvm.Cond.selects "PensionHouse$Case" ({ cls := "PensionHouse$Case", name := "endRule", desc := "(ILPensionHouse$Value;)V" } : Jvm.MethodName) ({ cls := "PensionHouse$Case", name := "endRule", desc := "(ILPensionHouse$Value;)V" } : Jvm.MethodName)) ∈ jw := jt4 (List.mem_of_getElem? (i := 208) (by decide +kernel)) rfl
set_option maxRecDepth 20000 in
theorem lk_4_209 : (Jvm.Cond.code ({ cls := "PensionHouse$Case", name := "endRule", desc := "(ILPensionHouse$Value;)V" } : Jvm.MethodName) prog_3_method_4_code (3 : Nat) (Option.none : Option Jvm.ClassFile.FieldType)) ∈ jw := jt4 (List.mem_of_getElem? (i := 209) (by exact rfl)) rfl
set_option maxRecDepth 20000 in
theorem lk_4_210 : (Jvm.Cond.methodLink "PensionHouse$Case" (58 : Nat) ({ cls := "PensionHouse$Case", name := "isWorked", desc := "(I)Z" } : Jvm.MethodName)) ∈ jw := jt4 (List.mem_of_getElem? (i := 210) (by decide +kernel)) rfl
set_option maxRecDepth 20000 in
theorem lk_4_211 : (Jvm.Cond.instanceMethod ({ cls := "PensionHouse$Case", name := "isWorked", desc := "(I)Z" } : Jvm.MethodName)) ∈ jw := jt4 (List.mem_of_getElem? (i := 211) (by decide +kernel)) rfl
set_option maxRecDepth 20000 in
theorem lk_4_212 : (Jvm.Cond.selects "PensionHouse$Case" ({ cls := "PensionHouse$Case", name := "isWorked", desc := "(I)Z" } : Jvm.MethodName) ({ cls := "PensionHouse$Case", name := "isWorked", desc := "(I)Z" } : Jvm.MethodName)) ∈ jw := jt4 (List.mem_of_getElem? (i := 212) (by decide +kernel)) rfl
set_option maxRecDepth 20000 in
theorem lk_4_213 : (Jvm.Cond.code ({ cls := "PensionHouse$Case", name := "isWorked", desc := "(I)Z" } : Jvm.MethodName) prog_3_method_3_code (2 : Nat) (Option.some Jvm.ClassFile.FieldType.boolean)) ∈ jw := jt4 (List.mem_of_getElem? (i := 213) (by exact rfl)) rfl
set_option maxRecDepth 20000 in
theorem lk_4_214 : (Jvm.Cond.methodLink "PensionHouse$Case" (62 : Nat) ({ cls := "PensionHouse$Value", name := "setTo", desc := "(LPensionHouse$Value;)V" } : Jvm.MethodName)) ∈ jw := jt4 (List.mem_of_getElem? (i := 214) (by decide +kernel)) rfl
set_option maxRecDepth 20000 in
theorem lk_4_215 : (Jvm.Cond.methodLink "PensionHouse$Worker" (208 : Nat) ({ cls := "PensionHouse$Case", name := "isWorked", desc := "(I)Z" } : Jvm.MethodName)) ∈ jw := jt4 (List.mem_of_getElem? (i := 215) (by decide +kernel)) rfl
set_option maxRecDepth 20000 in
theorem lk_4_216 : (Jvm.Cond.methodLink "PensionHouse$Worker" (127 : Nat) ({ cls := "PensionHouse$Worker", name := "decide", desc := "(II)V" } : Jvm.MethodName)) ∈ jw := jt4 (List.mem_of_getElem? (i := 216) (by decide +kernel)) rfl
set_option maxRecDepth 20000 in
theorem lk_4_218 : (Jvm.Cond.instanceMethod ({ cls := "PensionHouse$Worker", name := "decide", desc := "(II)V" } : Jvm.MethodName)) ∈ jw := jt4 (List.mem_of_getElem? (i := 218) (by decide +kernel)) rfl
set_option maxRecDepth 20000 in
theorem lk_4_219 : (Jvm.Cond.code ({ cls := "PensionHouse$Worker", name := "decide", desc := "(II)V" } : Jvm.MethodName) prog_12_method_16_code (4 : Nat) (Option.none : Option Jvm.ClassFile.FieldType)) ∈ jw := jt4 (List.mem_of_getElem? (i := 219) (by exact rfl)) rfl
set_option maxRecDepth 20000 in
theorem lk_4_220 : (Jvm.Cond.methodLink "PensionHouse$Worker" (139 : Nat) ({ cls := "PensionHouse$Worker", name := "enterInner", desc := "(II)V" } : Jvm.MethodName)) ∈ jw := jt4 (List.mem_of_getElem? (i := 220) (by decide +kernel)) rfl
set_option maxRecDepth 20000 in
theorem lk_4_222 : (Jvm.Cond.instanceMethod ({ cls := "PensionHouse$Worker", name := "enterInner", desc := "(II)V" } : Jvm.MethodName)) ∈ jw := jt4 (List.mem_of_getElem? (i := 222) (by decide +kernel)) rfl
set_option maxRecDepth 20000 in
theorem lk_4_223 : (Jvm.Cond.code ({ cls := "PensionHouse$Worker", name := "enterInner", desc := "(II)V" } : Jvm.MethodName) prog_12_method_8_code (3 : Nat) (Option.none : Option Jvm.ClassFile.FieldType)) ∈ jw := jt4 (List.mem_of_getElem? (i := 223) (by exact rfl)) rfl
set_option maxRecDepth 20000 in
theorem lk_4_224 : (Jvm.Cond.methodLink "PensionHouse$Worker" (158 : Nat) ({ cls := "PensionHouse$Text", name := "inner", desc := "(II)I" } : Jvm.MethodName)) ∈ jw := jt4 (List.mem_of_getElem? (i := 224) (by decide +kernel)) rfl
set_option maxRecDepth 20000 in
theorem lk_4_225 : (Jvm.Cond.instanceMethod ({ cls := "PensionHouse$Text", name := "inner", desc := "(II)I" } : Jvm.MethodName)) ∈ jw := jt4 (List.mem_of_getElem? (i := 225) (by decide +kernel)) rfl
set_option maxRecDepth 20000 in
theorem lk_4_226 : (Jvm.Cond.selects "PensionHouse$Text" ({ cls := "PensionHouse$Text", name := "inner", desc := "(II)I" } : Jvm.MethodName) ({ cls := "PensionHouse$Text", name := "inner", desc := "(II)I" } : Jvm.MethodName)) ∈ jw := jt4 (List.mem_of_getElem? (i := 226) (by decide +kernel)) rfl
set_option maxRecDepth 20000 in
theorem lk_4_227 : (Jvm.Cond.code ({ cls := "PensionHouse$Text", name := "inner", desc := "(II)I" } : Jvm.MethodName) prog_10_method_5_code (3 : Nat) (Option.some Jvm.ClassFile.FieldType.int)) ∈ jw := jt4 (List.mem_of_getElem? (i := 227) (by exact rfl)) rfl
set_option maxRecDepth 20000 in
theorem lk_4_228 : (Jvm.Cond.methodLink "PensionHouse$Worker" (130 : Nat) ({ cls := "PensionHouse$Worker", name := "attempt", desc := "(II)V" } : Jvm.MethodName)) ∈ jw := jt4 (List.mem_of_getElem? (i := 228) (by decide +kernel)) rfl
set_option maxRecDepth 20000 in
theorem lk_4_230 : (Jvm.Cond.instanceMethod ({ cls := "PensionHouse$Worker", name := "attempt", desc := "(II)V" } : Jvm.MethodName)) ∈ jw := jt4 (List.mem_of_getElem? (i := 230) (by decide +kernel)) rfl
set_option maxRecDepth 20000 in
theorem lk_4_231 : (Jvm.Cond.code ({ cls := "PensionHouse$Worker", name := "attempt", desc := "(II)V" } : Jvm.MethodName) prog_12_method_17_code (3 : Nat) (Option.none : Option Jvm.ClassFile.FieldType)) ∈ jw := jt4 (List.mem_of_getElem? (i := 231) (by exact rfl)) rfl
set_option maxRecDepth 20000 in
theorem lk_4_232 : (Jvm.Cond.methodLink "PensionHouse$Worker" (133 : Nat) ({ cls := "PensionHouse$Worker", name := "addUp", desc := "(II)V" } : Jvm.MethodName)) ∈ jw := jt4 (List.mem_of_getElem? (i := 232) (by decide +kernel)) rfl
set_option maxRecDepth 20000 in
theorem lk_4_234 : (Jvm.Cond.instanceMethod ({ cls := "PensionHouse$Worker", name := "addUp", desc := "(II)V" } : Jvm.MethodName)) ∈ jw := jt4 (List.mem_of_getElem? (i := 234) (by decide +kernel)) rfl
set_option maxRecDepth 20000 in
theorem lk_4_235 : (Jvm.Cond.code ({ cls := "PensionHouse$Worker", name := "addUp", desc := "(II)V" } : Jvm.MethodName) prog_12_method_18_code (9 : Nat) (Option.none : Option Jvm.ClassFile.FieldType)) ∈ jw := jt4 (List.mem_of_getElem? (i := 235) (by exact rfl)) rfl
set_option maxRecDepth 20000 in
theorem lk_4_236 : (Jvm.Cond.methodLink "PensionHouse$Worker" (226 : Nat) ({ cls := "PensionHouse$Ops", name := "arithmetic", desc := "(ILPensionHouse$Value;LPensionHouse$Value;)I" } : Jvm.MethodName)) ∈ jw := jt4 (List.mem_of_getElem? (i := 236) (by decide +kernel)) rfl
set_option maxRecDepth 20000 in
theorem lk_4_237 : (Jvm.Cond.static ({ cls := "PensionHouse$Ops", name := "arithmetic", desc := "(ILPensionHouse$Value;LPensionHouse$Value;)I" } : Jvm.MethodName)) ∈ jw := jt4 (List.mem_of_getElem? (i := 237) (by decide +kernel)) rfl
set_option maxRecDepth 20000 in
theorem lk_4_238 : (Jvm.Cond.code ({ cls := "PensionHouse$Ops", name := "arithmetic", desc := "(ILPensionHouse$Value;LPensionHouse$Value;)I" } : Jvm.MethodName) prog_5_method_2_code (7 : Nat) (Option.some Jvm.ClassFile.FieldType.int)) ∈ jw := jt4 (List.mem_of_getElem? (i := 238) (by exact rfl)) rfl
set_option maxRecDepth 20000 in
theorem lk_4_239 : (Jvm.Cond.methodLink "PensionHouse$Ops" (9 : Nat) ({ cls := "PensionHouse$Value", name := "isNumber", desc := "()Z" } : Jvm.MethodName)) ∈ jw := jt4 (List.mem_of_getElem? (i := 239) (by decide +kernel)) rfl
set_option maxRecDepth 20000 in
theorem lk_5_0 : (Jvm.Cond.methodLink "PensionHouse$Ops" (25 : Nat) ({ cls := "PensionHouse$Ops", name := "isBeyond", desc := "(IJJ)Z" } : Jvm.MethodName)) ∈ jw := jt5 (List.mem_of_getElem? (i := 0) (by decide +kernel)) rfl
set_option maxRecDepth 20000 in
theorem lk_5_1 : (Jvm.Cond.static ({ cls := "PensionHouse$Ops", name := "isBeyond", desc := "(IJJ)Z" } : Jvm.MethodName)) ∈ jw := jt5 (List.mem_of_getElem? (i := 1) (by decide +kernel)) rfl
set_option maxRecDepth 20000 in
theorem lk_5_2 : (Jvm.Cond.code ({ cls := "PensionHouse$Ops", name := "isBeyond", desc := "(IJJ)Z" } : Jvm.MethodName) prog_5_method_3_code (5 : Nat) (Option.some Jvm.ClassFile.FieldType.boolean)) ∈ jw := jt5 (List.mem_of_getElem? (i := 2) (by exact rfl)) rfl
set_option maxRecDepth 20000 in
theorem lk_5_3 : (Jvm.Cond.constantLong "PensionHouse$Ops" (49 : Nat) (-9223372036854775808 : Int64)) ∈ jw := jt5 (List.mem_of_getElem? (i := 3) (by decide +kernel)) rfl
set_option maxRecDepth 20000 in
theorem lk_5_4 : (Jvm.Cond.constantLong "PensionHouse$Ops" (60 : Nat) (-1 : Int64)) ∈ jw := jt5 (List.mem_of_getElem? (i := 4) (by decide +kernel)) rfl
set_option maxRecDepth 20000 in
theorem lk_5_5 : (Jvm.Cond.methodLink "PensionHouse$Ops" (31 : Nat) ({ cls := "PensionHouse$Ops", name := "wholeArithmetic", desc := "(IJJ)J" } : Jvm.MethodName)) ∈ jw := jt5 (List.mem_of_getElem? (i := 5) (by decide +kernel)) rfl
set_option maxRecDepth 20000 in
theorem lk_5_6 : (Jvm.Cond.static ({ cls := "PensionHouse$Ops", name := "wholeArithmetic", desc := "(IJJ)J" } : Jvm.MethodName)) ∈ jw := jt5 (List.mem_of_getElem? (i := 6) (by decide +kernel)) rfl
set_option maxRecDepth 20000 in
theorem lk_5_7 : (Jvm.Cond.code ({ cls := "PensionHouse$Ops", name := "wholeArithmetic", desc := "(IJJ)J" } : Jvm.MethodName) prog_5_method_4_code (5 : Nat) (Option.some Jvm.ClassFile.FieldType.long)) ∈ jw := jt5 (List.mem_of_getElem? (i := 7) (by exact rfl)) rfl
set_option maxRecDepth 20000 in
theorem lk_5_8 : (Jvm.Cond.methodLink "PensionHouse$Ops" (35 : Nat) ({ cls := "PensionHouse$Real", name := "nearest", desc := "(J)J" } : Jvm.MethodName)) ∈ jw := jt5 (List.mem_of_getElem? (i := 8) (by decide +kernel)) rfl
set_option maxRecDepth 20000 in
theorem lk_5_9 : (Jvm.Cond.methodLink "PensionHouse$Ops" (41 : Nat) ({ cls := "PensionHouse$Real", name := "plus", desc := "(JJ)J" } : Jvm.MethodName)) ∈ jw := jt5 (List.mem_of_getElem? (i := 9) (by decide +kernel)) rfl
set_option maxRecDepth 20000 in
theorem lk_5_10 : (Jvm.Cond.static ({ cls := "PensionHouse$Real", name := "plus", desc := "(JJ)J" } : Jvm.MethodName)) ∈ jw := jt5 (List.mem_of_getElem? (i := 10) (by decide +kernel)) rfl
set_option maxRecDepth 20000 in
theorem lk_5_11 : (Jvm.Cond.code ({ cls := "PensionHouse$Real", name := "plus", desc := "(JJ)J" } : Jvm.MethodName) prog_7_method_10_code (17 : Nat) (Option.some Jvm.ClassFile.FieldType.long)) ∈ jw := jt5 (List.mem_of_getElem? (i := 11) (by exact rfl)) rfl
set_option maxRecDepth 20000 in
theorem lk_5_12 : (Jvm.Cond.methodLink "PensionHouse$Ops" (45 : Nat) ({ cls := "PensionHouse$Value", name := "setNumber", desc := "(IJ)V" } : Jvm.MethodName)) ∈ jw := jt5 (List.mem_of_getElem? (i := 12) (by decide +kernel)) rfl
set_option maxRecDepth 20000 in
theorem lk_5_13 : (Jvm.Cond.methodLink "PensionHouse$Ops" (51 : Nat) ({ cls := "PensionHouse$Real", name := "times", desc := "(JJ)J" } : Jvm.MethodName)) ∈ jw := jt5 (List.mem_of_getElem? (i := 13) (by decide +kernel)) rfl
set_option maxRecDepth 20000 in
theorem lk_5_14 : (Jvm.Cond.static ({ cls := "PensionHouse$Real", name := "times", desc := "(JJ)J" } : Jvm.MethodName)) ∈ jw := jt5 (List.mem_of_getElem? (i := 14) (by decide +kernel)) rfl
set_option maxRecDepth 20000 in
theorem lk_5_15 : (Jvm.Cond.code ({ cls := "PensionHouse$Real", name := "times", desc := "(JJ)J" } : Jvm.MethodName) prog_7_method_11_code (26 : Nat) (Option.some Jvm.ClassFile.FieldType.long)) ∈ jw := jt5 (List.mem_of_getElem? (i := 15) (by exact rfl)) rfl
set_option maxRecDepth 20000 in
theorem lk_5_16 : (Jvm.Cond.constantLong "PensionHouse$Real" (51 : Nat) (67108863 : Int64)) ∈ jw := jt5 (List.mem_of_getElem? (i := 16) (by decide +kernel)) rfl
set_option maxRecDepth 20000 in
theorem lk_5_17 : (Jvm.Cond.constantLong "PensionHouse$Real" (53 : Nat) (17592186044415 : Int64)) ∈ jw := jt5 (List.mem_of_getElem? (i := 17) (by decide +kernel)) rfl
set_option maxRecDepth 20000 in
theorem lk_5_18 : (Jvm.Cond.methodLink "PensionHouse$Ops" (54 : Nat) ({ cls := "PensionHouse$Real", name := "over", desc := "(JJ)J" } : Jvm.MethodName)) ∈ jw := jt5 (List.mem_of_getElem? (i := 18) (by decide +kernel)) rfl
set_option maxRecDepth 20000 in
theorem lk_5_19 : (Jvm.Cond.methodLink "PensionHouse$Ops" (57 : Nat) ({ cls := "PensionHouse$Real", name := "remainder", desc := "(JJ)J" } : Jvm.MethodName)) ∈ jw := jt5 (List.mem_of_getElem? (i := 19) (by decide +kernel)) rfl
set_option maxRecDepth 20000 in
theorem lk_5_20 : (Jvm.Cond.static ({ cls := "PensionHouse$Real", name := "remainder", desc := "(JJ)J" } : Jvm.MethodName)) ∈ jw := jt5 (List.mem_of_getElem? (i := 20) (by decide +kernel)) rfl
set_option maxRecDepth 20000 in
theorem lk_5_21 : (Jvm.Cond.code ({ cls := "PensionHouse$Real", name := "remainder", desc := "(JJ)J" } : Jvm.MethodName) prog_7_method_13_code (9 : Nat) (Option.some Jvm.ClassFile.FieldType.long)) ∈ jw := jt5 (List.mem_of_getElem? (i := 21) (by exact rfl)) rfl
set_option maxRecDepth 20000 in
theorem lk_5_22 : (Jvm.Cond.methodLink "PensionHouse$Real" (55 : Nat) ({ cls := "java/lang/Math", name := "min", desc := "(II)I" } : Jvm.MethodName)) ∈ jw := jt5 (List.mem_of_getElem? (i := 22) (by decide +kernel)) rfl
set_option maxRecDepth 20000 in
theorem lk_5_23 : (Jvm.Cond.methodLink "PensionHouse$Worker" (136 : Nat) ({ cls := "PensionHouse$Worker", name := "arityOf", desc := "(I)I" } : Jvm.MethodName)) ∈ jw := jt5 (List.mem_of_getElem? (i := 23) (by decide +kernel)) rfl
set_option maxRecDepth 20000 in
theorem lk_5_24 : (Jvm.Cond.static ({ cls := "PensionHouse$Worker", name := "arityOf", desc := "(I)I" } : Jvm.MethodName)) ∈ jw := jt5 (List.mem_of_getElem? (i := 24) (by decide +kernel)) rfl
set_option maxRecDepth 20000 in
theorem lk_5_25 : (Jvm.Cond.code ({ cls := "PensionHouse$Worker", name := "arityOf", desc := "(I)I" } : Jvm.MethodName) prog_12_method_19_code (1 : Nat) (Option.some Jvm.ClassFile.FieldType.int)) ∈ jw := jt5 (List.mem_of_getElem? (i := 25) (by exact rfl)) rfl
set_option maxRecDepth 20000 in
theorem lk_5_26 : (Jvm.Cond.methodLink "PensionHouse$Worker" (232 : Nat) ({ cls := "PensionHouse$Tape", name := "arity", desc := "(I)I" } : Jvm.MethodName)) ∈ jw := jt5 (List.mem_of_getElem? (i := 26) (by decide +kernel)) rfl
set_option maxRecDepth 20000 in
theorem lk_5_27 : (Jvm.Cond.methodLink "PensionHouse$Worker" (142 : Nat) ({ cls := "PensionHouse$Worker", name := "finish", desc := "(II)V" } : Jvm.MethodName)) ∈ jw := jt5 (List.mem_of_getElem? (i := 27) (by decide +kernel)) rfl
set_option maxRecDepth 20000 in
theorem lk_5_29 : (Jvm.Cond.instanceMethod ({ cls := "PensionHouse$Worker", name := "finish", desc := "(II)V" } : Jvm.MethodName)) ∈ jw := jt5 (List.mem_of_getElem? (i := 29) (by decide +kernel)) rfl
set_option maxRecDepth 20000 in
theorem lk_5_30 : (Jvm.Cond.code ({ cls := "PensionHouse$Worker", name := "finish", desc := "(II)V" } : Jvm.MethodName) prog_12_method_20_code (6 : Nat) (Option.none : Option Jvm.ClassFile.FieldType)) ∈ jw := jt5 (List.mem_of_getElem? (i := 30) (by exact rfl)) rfl
set_option maxRecDepth 20000 in
theorem lk_5_31 : (Jvm.Cond.methodLink "PensionHouse$Worker" (235 : Nat) ({ cls := "PensionHouse$Ops", name := "item", desc := "(LPensionHouse$Value;LPensionHouse$Value;)I" } : Jvm.MethodName)) ∈ jw := jt5 (List.mem_of_getElem? (i := 31) (by decide +kernel)) rfl
set_option maxRecDepth 20000 in
theorem lk_5_32 : (Jvm.Cond.static ({ cls := "PensionHouse$Ops", name := "item", desc := "(LPensionHouse$Value;LPensionHouse$Value;)I" } : Jvm.MethodName)) ∈ jw := jt5 (List.mem_of_getElem? (i := 32) (by decide +kernel)) rfl
set_option maxRecDepth 20000 in
theorem lk_5_33 : (Jvm.Cond.code ({ cls := "PensionHouse$Ops", name := "item", desc := "(LPensionHouse$Value;LPensionHouse$Value;)I" } : Jvm.MethodName) prog_5_method_9_code (5 : Nat) (Option.some Jvm.ClassFile.FieldType.int)) ∈ jw := jt5 (List.mem_of_getElem? (i := 33) (by exact rfl)) rfl
set_option maxRecDepth 20000 in
theorem lk_5_34 : (Jvm.Cond.methodLink "PensionHouse$Ops" (88 : Nat) ({ cls := "PensionHouse$Value", name := "isRow", desc := "()Z" } : Jvm.MethodName)) ∈ jw := jt5 (List.mem_of_getElem? (i := 34) (by decide +kernel)) rfl
set_option maxRecDepth 20000 in
theorem lk_5_35 : (Jvm.Cond.methodLink "PensionHouse$Ops" (91 : Nat) ({ cls := "PensionHouse$Value", name := "hasItem", desc := "(J)Z" } : Jvm.MethodName)) ∈ jw := jt5 (List.mem_of_getElem? (i := 35) (by decide +kernel)) rfl
set_option maxRecDepth 20000 in
theorem lk_5_36 : (Jvm.Cond.methodLink "PensionHouse$Ops" (94 : Nat) ({ cls := "PensionHouse$Value", name := "isKin", desc := "()Z" } : Jvm.MethodName)) ∈ jw := jt5 (List.mem_of_getElem? (i := 36) (by decide +kernel)) rfl
set_option maxRecDepth 20000 in
theorem lk_5_37 : (Jvm.Cond.methodLink "PensionHouse$Worker" (239 : Nat) ({ cls := "PensionHouse$Ops", name := "negative", desc := "(LPensionHouse$Value;)I" } : Jvm.MethodName)) ∈ jw := jt5 (List.mem_of_getElem? (i := 37) (by decide +kernel)) rfl
set_option maxRecDepth 20000 in
theorem lk_5_38 : (Jvm.Cond.static ({ cls := "PensionHouse$Ops", name := "negative", desc := "(LPensionHouse$Value;)I" } : Jvm.MethodName)) ∈ jw := jt5 (List.mem_of_getElem? (i := 38) (by decide +kernel)) rfl
set_option maxRecDepth 20000 in
theorem lk_5_39 : (Jvm.Cond.code ({ cls := "PensionHouse$Ops", name := "negative", desc := "(LPensionHouse$Value;)I" } : Jvm.MethodName) prog_5_method_8_code (1 : Nat) (Option.some Jvm.ClassFile.FieldType.int)) ∈ jw := jt5 (List.mem_of_getElem? (i := 39) (by exact rfl)) rfl
set_option maxRecDepth 20000 in
theorem lk_5_40 : (Jvm.Cond.methodLink "PensionHouse$Ops" (85 : Nat) ({ cls := "PensionHouse$Value", name := "setBits", desc := "(IJ)V" } : Jvm.MethodName)) ∈ jw := jt5 (List.mem_of_getElem? (i := 40) (by decide +kernel)) rfl
set_option maxRecDepth 20000 in
theorem lk_5_41 : (Jvm.Cond.methodLink "PensionHouse$Worker" (243 : Nat) ({ cls := "PensionHouse$Ops", name := "born", desc := "(LPensionHouse$Register;LPensionHouse$Value;)I" } : Jvm.MethodName)) ∈ jw := jt5 (List.mem_of_getElem? (i := 41) (by decide +kernel)) rfl
set_option maxRecDepth 20000 in
theorem lk_5_42 : (Jvm.Cond.static ({ cls := "PensionHouse$Ops", name := "born", desc := "(LPensionHouse$Register;LPensionHouse$Value;)I" } : Jvm.MethodName)) ∈ jw := jt5 (List.mem_of_getElem? (i := 42) (by decide +kernel)) rfl
set_option maxRecDepth 20000 in
theorem lk_5_43 : (Jvm.Cond.code ({ cls := "PensionHouse$Ops", name := "born", desc := "(LPensionHouse$Register;LPensionHouse$Value;)I" } : Jvm.MethodName) prog_5_method_10_code (2 : Nat) (Option.some Jvm.ClassFile.FieldType.int)) ∈ jw := jt5 (List.mem_of_getElem? (i := 43) (by exact rfl)) rfl
set_option maxRecDepth 20000 in
theorem lk_5_44 : (Jvm.Cond.methodLink "PensionHouse$Ops" (97 : Nat) ({ cls := "PensionHouse$Register", name := "hasPerson", desc := "(J)Z" } : Jvm.MethodName)) ∈ jw := jt5 (List.mem_of_getElem? (i := 44) (by decide +kernel)) rfl
set_option maxRecDepth 20000 in
theorem lk_5_45 : (Jvm.Cond.methodLink "PensionHouse$Worker" (247 : Nat) ({ cls := "PensionHouse$Ops", name := "len", desc := "(LPensionHouse$Value;)I" } : Jvm.MethodName)) ∈ jw := jt5 (List.mem_of_getElem? (i := 45) (by decide +kernel)) rfl
set_option maxRecDepth 20000 in
theorem lk_5_46 : (Jvm.Cond.static ({ cls := "PensionHouse$Ops", name := "len", desc := "(LPensionHouse$Value;)I" } : Jvm.MethodName)) ∈ jw := jt5 (List.mem_of_getElem? (i := 46) (by decide +kernel)) rfl
set_option maxRecDepth 20000 in
theorem lk_5_47 : (Jvm.Cond.code ({ cls := "PensionHouse$Ops", name := "len", desc := "(LPensionHouse$Value;)I" } : Jvm.MethodName) prog_5_method_11_code (1 : Nat) (Option.some Jvm.ClassFile.FieldType.int)) ∈ jw := jt5 (List.mem_of_getElem? (i := 47) (by exact rfl)) rfl
set_option maxRecDepth 20000 in
theorem lk_5_48 : (Jvm.Cond.methodLink "PensionHouse$Worker" (250 : Nat) ({ cls := "PensionHouse$Ops", name := "whole", desc := "(LPensionHouse$Value;)I" } : Jvm.MethodName)) ∈ jw := jt5 (List.mem_of_getElem? (i := 48) (by decide +kernel)) rfl
set_option maxRecDepth 20000 in
theorem lk_5_49 : (Jvm.Cond.static ({ cls := "PensionHouse$Ops", name := "whole", desc := "(LPensionHouse$Value;)I" } : Jvm.MethodName)) ∈ jw := jt5 (List.mem_of_getElem? (i := 49) (by decide +kernel)) rfl
set_option maxRecDepth 20000 in
theorem lk_5_50 : (Jvm.Cond.code ({ cls := "PensionHouse$Ops", name := "whole", desc := "(LPensionHouse$Value;)I" } : Jvm.MethodName) prog_5_method_12_code (1 : Nat) (Option.some Jvm.ClassFile.FieldType.int)) ∈ jw := jt5 (List.mem_of_getElem? (i := 50) (by exact rfl)) rfl
set_option maxRecDepth 20000 in
theorem lk_5_51 : (Jvm.Cond.methodLink "PensionHouse$Ops" (109 : Nat) ({ cls := "PensionHouse$Real", name := "cutOff", desc := "(J)J" } : Jvm.MethodName)) ∈ jw := jt5 (List.mem_of_getElem? (i := 51) (by decide +kernel)) rfl
set_option maxRecDepth 20000 in
theorem lk_5_52 : (Jvm.Cond.static ({ cls := "PensionHouse$Real", name := "cutOff", desc := "(J)J" } : Jvm.MethodName)) ∈ jw := jt5 (List.mem_of_getElem? (i := 52) (by decide +kernel)) rfl
set_option maxRecDepth 20000 in
theorem lk_5_53 : (Jvm.Cond.code ({ cls := "PensionHouse$Real", name := "cutOff", desc := "(J)J" } : Jvm.MethodName) prog_7_method_18_code (7 : Nat) (Option.some Jvm.ClassFile.FieldType.long)) ∈ jw := jt5 (List.mem_of_getElem? (i := 53) (by exact rfl)) rfl
set_option maxRecDepth 20000 in
theorem lk_5_54 : (Jvm.Cond.methodLink "PensionHouse$Real" (63 : Nat) ({ cls := "PensionHouse$Real", name := "power", desc := "(J)I" } : Jvm.MethodName)) ∈ jw := jt5 (List.mem_of_getElem? (i := 54) (by decide +kernel)) rfl
set_option maxRecDepth 20000 in
theorem lk_5_55 : (Jvm.Cond.static ({ cls := "PensionHouse$Real", name := "power", desc := "(J)I" } : Jvm.MethodName)) ∈ jw := jt5 (List.mem_of_getElem? (i := 55) (by decide +kernel)) rfl
set_option maxRecDepth 20000 in
theorem lk_5_56 : (Jvm.Cond.code ({ cls := "PensionHouse$Real", name := "power", desc := "(J)I" } : Jvm.MethodName) prog_7_method_15_code (2 : Nat) (Option.some Jvm.ClassFile.FieldType.int)) ∈ jw := jt5 (List.mem_of_getElem? (i := 56) (by exact rfl)) rfl
set_option maxRecDepth 20000 in
theorem lk_5_57 : (Jvm.Cond.methodLink "PensionHouse$Worker" (253 : Nat) ({ cls := "PensionHouse$Ops", name := "real", desc := "(ILPensionHouse$Value;)I" } : Jvm.MethodName)) ∈ jw := jt5 (List.mem_of_getElem? (i := 57) (by decide +kernel)) rfl
set_option maxRecDepth 20000 in
theorem lk_5_58 : (Jvm.Cond.static ({ cls := "PensionHouse$Ops", name := "real", desc := "(ILPensionHouse$Value;)I" } : Jvm.MethodName)) ∈ jw := jt5 (List.mem_of_getElem? (i := 58) (by decide +kernel)) rfl
set_option maxRecDepth 20000 in
theorem lk_5_59 : (Jvm.Cond.code ({ cls := "PensionHouse$Ops", name := "real", desc := "(ILPensionHouse$Value;)I" } : Jvm.MethodName) prog_5_method_13_code (4 : Nat) (Option.some Jvm.ClassFile.FieldType.int)) ∈ jw := jt5 (List.mem_of_getElem? (i := 59) (by exact rfl)) rfl
set_option maxRecDepth 20000 in
theorem lk_5_60 : (Jvm.Cond.methodLink "PensionHouse$Ops" (112 : Nat) ({ cls := "PensionHouse$Real", name := "below", desc := "(J)J" } : Jvm.MethodName)) ∈ jw := jt5 (List.mem_of_getElem? (i := 60) (by decide +kernel)) rfl
set_option maxRecDepth 20000 in
theorem lk_5_61 : (Jvm.Cond.static ({ cls := "PensionHouse$Real", name := "below", desc := "(J)J" } : Jvm.MethodName)) ∈ jw := jt5 (List.mem_of_getElem? (i := 61) (by decide +kernel)) rfl
set_option maxRecDepth 20000 in
theorem lk_5_62 : (Jvm.Cond.code ({ cls := "PensionHouse$Real", name := "below", desc := "(J)J" } : Jvm.MethodName) prog_7_method_16_code (5 : Nat) (Option.some Jvm.ClassFile.FieldType.long)) ∈ jw := jt5 (List.mem_of_getElem? (i := 62) (by exact rfl)) rfl
set_option maxRecDepth 20000 in
theorem lk_5_63 : (Jvm.Cond.constantLong "PensionHouse$Real" (66 : Nat) (-4616189618054758400 : Int64)) ∈ jw := jt5 (List.mem_of_getElem? (i := 63) (by decide +kernel)) rfl
set_option maxRecDepth 20000 in
theorem lk_5_64 : (Jvm.Cond.constantLong "PensionHouse$Real" (68 : Nat) (-1 : Int64)) ∈ jw := jt5 (List.mem_of_getElem? (i := 64) (by decide +kernel)) rfl
set_option maxRecDepth 20000 in
theorem lk_5_65 : (Jvm.Cond.methodLink "PensionHouse$Ops" (115 : Nat) ({ cls := "PensionHouse$Real", name := "near", desc := "(J)J" } : Jvm.MethodName)) ∈ jw := jt5 (List.mem_of_getElem? (i := 65) (by decide +kernel)) rfl
set_option maxRecDepth 20000 in
theorem lk_5_66 : (Jvm.Cond.static ({ cls := "PensionHouse$Real", name := "near", desc := "(J)J" } : Jvm.MethodName)) ∈ jw := jt5 (List.mem_of_getElem? (i := 66) (by decide +kernel)) rfl
set_option maxRecDepth 20000 in
theorem lk_5_67 : (Jvm.Cond.code ({ cls := "PensionHouse$Real", name := "near", desc := "(J)J" } : Jvm.MethodName) prog_7_method_17_code (12 : Nat) (Option.some Jvm.ClassFile.FieldType.long)) ∈ jw := jt5 (List.mem_of_getElem? (i := 67) (by exact rfl)) rfl
set_option maxRecDepth 20000 in
theorem lk_5_68 : (Jvm.Cond.constantLong "PensionHouse$Real" (70 : Nat) (4602678819172646912 : Int64)) ∈ jw := jt5 (List.mem_of_getElem? (i := 68) (by decide +kernel)) rfl
set_option maxRecDepth 20000 in
theorem lk_5_69 : (Jvm.Cond.constantLong "PensionHouse$Real" (72 : Nat) (4607182418800017408 : Int64)) ∈ jw := jt5 (List.mem_of_getElem? (i := 69) (by decide +kernel)) rfl
set_option maxRecDepth 20000 in
theorem lk_5_70 : (Jvm.Cond.methodLink "PensionHouse$Ops" (118 : Nat) ({ cls := "PensionHouse$Real", name := "root", desc := "(J)J" } : Jvm.MethodName)) ∈ jw := jt5 (List.mem_of_getElem? (i := 70) (by decide +kernel)) rfl
set_option maxRecDepth 20000 in
theorem lk_5_71 : (Jvm.Cond.static ({ cls := "PensionHouse$Real", name := "root", desc := "(J)J" } : Jvm.MethodName)) ∈ jw := jt5 (List.mem_of_getElem? (i := 71) (by decide +kernel)) rfl
set_option maxRecDepth 20000 in
theorem lk_5_72 : (Jvm.Cond.code ({ cls := "PensionHouse$Real", name := "root", desc := "(J)J" } : Jvm.MethodName) prog_7_method_14_code (15 : Nat) (Option.some Jvm.ClassFile.FieldType.long)) ∈ jw := jt5 (List.mem_of_getElem? (i := 72) (by exact rfl)) rfl
set_option maxRecDepth 20000 in
theorem lk_5_73 : (Jvm.Cond.constantLong "PensionHouse$Real" (61 : Nat) (3 : Int64)) ∈ jw := jt5 (List.mem_of_getElem? (i := 73) (by decide +kernel)) rfl
set_option maxRecDepth 20000 in
theorem lk_5_74 : (Jvm.Cond.methodLink "PensionHouse$Worker" (257 : Nat) ({ cls := "PensionHouse$Ops", name := "zeros", desc := "(LPensionHouse$Value;)I" } : Jvm.MethodName)) ∈ jw := jt5 (List.mem_of_getElem? (i := 74) (by decide +kernel)) rfl
set_option maxRecDepth 20000 in
theorem lk_5_75 : (Jvm.Cond.static ({ cls := "PensionHouse$Ops", name := "zeros", desc := "(LPensionHouse$Value;)I" } : Jvm.MethodName)) ∈ jw := jt5 (List.mem_of_getElem? (i := 75) (by decide +kernel)) rfl
set_option maxRecDepth 20000 in
theorem lk_5_76 : (Jvm.Cond.code ({ cls := "PensionHouse$Ops", name := "zeros", desc := "(LPensionHouse$Value;)I" } : Jvm.MethodName) prog_5_method_14_code (1 : Nat) (Option.some Jvm.ClassFile.FieldType.int)) ∈ jw := jt5 (List.mem_of_getElem? (i := 76) (by exact rfl)) rfl
set_option maxRecDepth 20000 in
theorem lk_5_77 : (Jvm.Cond.constantLong "PensionHouse$Ops" (121 : Nat) (12 : Int64)) ∈ jw := jt5 (List.mem_of_getElem? (i := 77) (by decide +kernel)) rfl
set_option maxRecDepth 20000 in
theorem lk_5_78 : (Jvm.Cond.methodLink "PensionHouse$Ops" (123 : Nat) ({ cls := "PensionHouse$Value", name := "setRow", desc := "(II)V" } : Jvm.MethodName)) ∈ jw := jt5 (List.mem_of_getElem? (i := 78) (by decide +kernel)) rfl
set_option maxRecDepth 20000 in
theorem lk_5_79 : (Jvm.Cond.methodLink "PensionHouse$Worker" (260 : Nat) ({ cls := "PensionHouse$Ops", name := "best", desc := "(LPensionHouse$Value;LPensionHouse$Value;)I" } : Jvm.MethodName)) ∈ jw := jt5 (List.mem_of_getElem? (i := 79) (by decide +kernel)) rfl
set_option maxRecDepth 20000 in
theorem lk_5_80 : (Jvm.Cond.static ({ cls := "PensionHouse$Ops", name := "best", desc := "(LPensionHouse$Value;LPensionHouse$Value;)I" } : Jvm.MethodName)) ∈ jw := jt5 (List.mem_of_getElem? (i := 80) (by decide +kernel)) rfl
set_option maxRecDepth 20000 in
theorem lk_5_81 : (Jvm.Cond.code ({ cls := "PensionHouse$Ops", name := "best", desc := "(LPensionHouse$Value;LPensionHouse$Value;)I" } : Jvm.MethodName) prog_5_method_19_code (8 : Nat) (Option.some Jvm.ClassFile.FieldType.int)) ∈ jw := jt5 (List.mem_of_getElem? (i := 81) (by exact rfl)) rfl
set_option maxRecDepth 20000 in
theorem lk_5_82 : (Jvm.Cond.methodLink "PensionHouse$Ops" (141 : Nat) ({ cls := "PensionHouse$Value", name := "isRowOfNumbers", desc := "()Z" } : Jvm.MethodName)) ∈ jw := jt5 (List.mem_of_getElem? (i := 82) (by decide +kernel)) rfl
set_option maxRecDepth 20000 in
theorem lk_5_83 : (Jvm.Cond.methodLink "PensionHouse$Ops" (144 : Nat) ({ cls := "PensionHouse$Ops", name := "takeGreatest", desc := "(LPensionHouse$Value;I)J" } : Jvm.MethodName)) ∈ jw := jt5 (List.mem_of_getElem? (i := 83) (by decide +kernel)) rfl
set_option maxRecDepth 20000 in
theorem lk_5_84 : (Jvm.Cond.static ({ cls := "PensionHouse$Ops", name := "takeGreatest", desc := "(LPensionHouse$Value;I)J" } : Jvm.MethodName)) ∈ jw := jt5 (List.mem_of_getElem? (i := 84) (by decide +kernel)) rfl
set_option maxRecDepth 20000 in
theorem lk_5_85 : (Jvm.Cond.code ({ cls := "PensionHouse$Ops", name := "takeGreatest", desc := "(LPensionHouse$Value;I)J" } : Jvm.MethodName) prog_5_method_20_code (9 : Nat) (Option.some Jvm.ClassFile.FieldType.long)) ∈ jw := jt5 (List.mem_of_getElem? (i := 85) (by exact rfl)) rfl
set_option maxRecDepth 20000 in
theorem lk_5_86 : (Jvm.Cond.methodLink "PensionHouse$Ops" (82 : Nat) ({ cls := "PensionHouse$Real", name := "order", desc := "(J)J" } : Jvm.MethodName)) ∈ jw := jt5 (List.mem_of_getElem? (i := 86) (by decide +kernel)) rfl
set_option maxRecDepth 20000 in
theorem lk_5_87 : (Jvm.Cond.static ({ cls := "PensionHouse$Real", name := "order", desc := "(J)J" } : Jvm.MethodName)) ∈ jw := jt5 (List.mem_of_getElem? (i := 87) (by decide +kernel)) rfl
set_option maxRecDepth 20000 in
theorem lk_5_88 : (Jvm.Cond.code ({ cls := "PensionHouse$Real", name := "order", desc := "(J)J" } : Jvm.MethodName) prog_7_method_3_code (2 : Nat) (Option.some Jvm.ClassFile.FieldType.long)) ∈ jw := jt5 (List.mem_of_getElem? (i := 88) (by exact rfl)) rfl
set_option maxRecDepth 20000 in
theorem lk_5_89 : (Jvm.Cond.methodLink "PensionHouse$Worker" (263 : Nat) ({ cls := "PensionHouse$Ops", name := "join", desc := "(LPensionHouse$Register;LPensionHouse$Value;LPensionHouse$Value;)I" } : Jvm.MethodName)) ∈ jw := jt5 (List.mem_of_getElem? (i := 89) (by decide +kernel)) rfl
set_option maxRecDepth 20000 in
theorem lk_5_90 : (Jvm.Cond.static ({ cls := "PensionHouse$Ops", name := "join", desc := "(LPensionHouse$Register;LPensionHouse$Value;LPensionHouse$Value;)I" } : Jvm.MethodName)) ∈ jw := jt5 (List.mem_of_getElem? (i := 90) (by decide +kernel)) rfl
set_option maxRecDepth 20000 in
theorem lk_5_91 : (Jvm.Cond.code ({ cls := "PensionHouse$Ops", name := "join", desc := "(LPensionHouse$Register;LPensionHouse$Value;LPensionHouse$Value;)I" } : Jvm.MethodName) prog_5_method_16_code (4 : Nat) (Option.some Jvm.ClassFile.FieldType.int)) ∈ jw := jt5 (List.mem_of_getElem? (i := 91) (by exact rfl)) rfl
set_option maxRecDepth 20000 in
theorem lk_5_92 : (Jvm.Cond.methodLink "PensionHouse$Ops" (127 : Nat) ({ cls := "PensionHouse$Register", name := "belongs", desc := "(IJ)Z" } : Jvm.MethodName)) ∈ jw := jt5 (List.mem_of_getElem? (i := 92) (by decide +kernel)) rfl
set_option maxRecDepth 20000 in
theorem lk_5_93 : (Jvm.Cond.methodLink "PensionHouse$Ops" (131 : Nat) ({ cls := "java/lang/System", name := "arraycopy", desc := "(Ljava/lang/Object;ILjava/lang/Object;II)V" } : Jvm.MethodName)) ∈ jw := jt5 (List.mem_of_getElem? (i := 93) (by decide +kernel)) rfl
set_option maxRecDepth 20000 in
theorem lk_5_94 : (Jvm.Cond.methodLink "PensionHouse$Worker" (267 : Nat) ({ cls := "PensionHouse$Ops", name := "last", desc := "(LPensionHouse$Value;LPensionHouse$Value;)I" } : Jvm.MethodName)) ∈ jw := jt5 (List.mem_of_getElem? (i := 94) (by decide +kernel)) rfl
set_option maxRecDepth 20000 in
theorem lk_5_95 : (Jvm.Cond.static ({ cls := "PensionHouse$Ops", name := "last", desc := "(LPensionHouse$Value;LPensionHouse$Value;)I" } : Jvm.MethodName)) ∈ jw := jt5 (List.mem_of_getElem? (i := 95) (by decide +kernel)) rfl
set_option maxRecDepth 20000 in
theorem lk_5_96 : (Jvm.Cond.code ({ cls := "PensionHouse$Ops", name := "last", desc := "(LPensionHouse$Value;LPensionHouse$Value;)I" } : Jvm.MethodName) prog_5_method_15_code (4 : Nat) (Option.some Jvm.ClassFile.FieldType.int)) ∈ jw := jt5 (List.mem_of_getElem? (i := 96) (by exact rfl)) rfl
set_option maxRecDepth 20000 in
theorem lk_5_97 : (Jvm.Cond.methodLink "PensionHouse$Worker" (270 : Nat) ({ cls := "PensionHouse$Ops", name := "with", desc := "(LPensionHouse$Register;LPensionHouse$Value;LPensionHouse$Value;LPensionHouse$Value;)I" } : Jvm.MethodName)) ∈ jw := jt5 (List.mem_of_getElem? (i := 97) (by decide +kernel)) rfl
set_option maxRecDepth 20000 in
theorem lk_5_98 : (Jvm.Cond.static ({ cls := "PensionHouse$Ops", name := "with", desc := "(LPensionHouse$Register;LPensionHouse$Value;LPensionHouse$Value;LPensionHouse$Value;)I" } : Jvm.MethodName)) ∈ jw := jt5 (List.mem_of_getElem? (i := 98) (by decide +kernel)) rfl
set_option maxRecDepth 20000 in
theorem lk_5_99 : (Jvm.Cond.code ({ cls := "PensionHouse$Ops", name := "with", desc := "(LPensionHouse$Register;LPensionHouse$Value;LPensionHouse$Value;LPensionHouse$Value;)I" } : Jvm.MethodName) prog_5_method_17_code (7 : Nat) (Option.some Jvm.ClassFile.FieldType.int)) ∈ jw := jt5 (List.mem_of_getElem? (i := 99) (by exact rfl)) rfl
set_option maxRecDepth 20000 in
theorem lk_5_100 : (Jvm.Cond.methodLink "PensionHouse$Ops" (137 : Nat) ({ cls := "PensionHouse$Ops", name := "fitsSort", desc := "(LPensionHouse$Value;LPensionHouse$Value;)Z" } : Jvm.MethodName)) ∈ jw := jt5 (List.mem_of_getElem? (i := 100) (by decide +kernel)) rfl
set_option maxRecDepth 20000 in
theorem lk_5_101 : (Jvm.Cond.static ({ cls := "PensionHouse$Ops", name := "fitsSort", desc := "(LPensionHouse$Value;LPensionHouse$Value;)Z" } : Jvm.MethodName)) ∈ jw := jt5 (List.mem_of_getElem? (i := 101) (by decide +kernel)) rfl
set_option maxRecDepth 20000 in
theorem lk_5_102 : (Jvm.Cond.code ({ cls := "PensionHouse$Ops", name := "fitsSort", desc := "(LPensionHouse$Value;LPensionHouse$Value;)Z" } : Jvm.MethodName) prog_5_method_18_code (2 : Nat) (Option.some Jvm.ClassFile.FieldType.boolean)) ∈ jw := jt5 (List.mem_of_getElem? (i := 102) (by exact rfl)) rfl
set_option maxRecDepth 20000 in
theorem lk_5_103 : (Jvm.Cond.methodLink "PensionHouse$Worker" (274 : Nat) ({ cls := "PensionHouse$Ops", name := "extreme", desc := "(ZLPensionHouse$Value;LPensionHouse$Value;)I" } : Jvm.MethodName)) ∈ jw := jt5 (List.mem_of_getElem? (i := 103) (by decide +kernel)) rfl
set_option maxRecDepth 20000 in
theorem lk_5_104 : (Jvm.Cond.static ({ cls := "PensionHouse$Ops", name := "extreme", desc := "(ZLPensionHouse$Value;LPensionHouse$Value;)I" } : Jvm.MethodName)) ∈ jw := jt5 (List.mem_of_getElem? (i := 104) (by decide +kernel)) rfl
set_option maxRecDepth 20000 in
theorem lk_5_105 : (Jvm.Cond.code ({ cls := "PensionHouse$Ops", name := "extreme", desc := "(ZLPensionHouse$Value;LPensionHouse$Value;)I" } : Jvm.MethodName) prog_5_method_7_code (8 : Nat) (Option.some Jvm.ClassFile.FieldType.int)) ∈ jw := jt5 (List.mem_of_getElem? (i := 105) (by exact rfl)) rfl
set_option maxRecDepth 20000 in
theorem lk_5_106 : (Jvm.Cond.methodLink "PensionHouse$Ops" (74 : Nat) ({ cls := "java/lang/Math", name := "min", desc := "(JJ)J" } : Jvm.MethodName)) ∈ jw := jt5 (List.mem_of_getElem? (i := 106) (by decide +kernel)) rfl
set_option maxRecDepth 20000 in
theorem lk_5_107 : (Jvm.Cond.static ({ cls := "java/lang/Math", name := "min", desc := "(JJ)J" } : Jvm.MethodName)) ∈ jw := jt5 (List.mem_of_getElem? (i := 107) (by decide +kernel)) rfl
set_option maxRecDepth 20000 in
theorem lk_5_108 : (Jvm.Cond.code ({ cls := "java/lang/Math", name := "min", desc := "(JJ)J" } : Jvm.MethodName) prog_16_method_70_code (4 : Nat) (Option.some Jvm.ClassFile.FieldType.long)) ∈ jw := jt5 (List.mem_of_getElem? (i := 108) (by exact rfl)) rfl
set_option maxRecDepth 20000 in
theorem lk_5_109 : (Jvm.Cond.methodLink "PensionHouse$Ops" (79 : Nat) ({ cls := "java/lang/Math", name := "max", desc := "(JJ)J" } : Jvm.MethodName)) ∈ jw := jt5 (List.mem_of_getElem? (i := 109) (by decide +kernel)) rfl
set_option maxRecDepth 20000 in
theorem lk_5_110 : (Jvm.Cond.static ({ cls := "java/lang/Math", name := "max", desc := "(JJ)J" } : Jvm.MethodName)) ∈ jw := jt5 (List.mem_of_getElem? (i := 110) (by decide +kernel)) rfl
set_option maxRecDepth 20000 in
theorem lk_5_111 : (Jvm.Cond.code ({ cls := "java/lang/Math", name := "max", desc := "(JJ)J" } : Jvm.MethodName) prog_16_method_66_code (4 : Nat) (Option.some Jvm.ClassFile.FieldType.long)) ∈ jw := jt5 (List.mem_of_getElem? (i := 111) (by exact rfl)) rfl
set_option maxRecDepth 20000 in
theorem lk_5_112 : (Jvm.Cond.methodLink "PensionHouse$Ops" (67 : Nat) ({ cls := "PensionHouse$Real", name := "isNot", desc := "(J)Z" } : Jvm.MethodName)) ∈ jw := jt5 (List.mem_of_getElem? (i := 112) (by decide +kernel)) rfl
set_option maxRecDepth 20000 in
theorem lk_5_113 : (Jvm.Cond.methodLink "PensionHouse$Worker" (278 : Nat) ({ cls := "PensionHouse$Ops", name := "compare", desc := "(ILPensionHouse$Value;LPensionHouse$Value;)I" } : Jvm.MethodName)) ∈ jw := jt5 (List.mem_of_getElem? (i := 113) (by decide +kernel)) rfl
set_option maxRecDepth 20000 in
theorem lk_5_114 : (Jvm.Cond.static ({ cls := "PensionHouse$Ops", name := "compare", desc := "(ILPensionHouse$Value;LPensionHouse$Value;)I" } : Jvm.MethodName)) ∈ jw := jt5 (List.mem_of_getElem? (i := 114) (by decide +kernel)) rfl
set_option maxRecDepth 20000 in
theorem lk_5_115 : (Jvm.Cond.code ({ cls := "PensionHouse$Ops", name := "compare", desc := "(ILPensionHouse$Value;LPensionHouse$Value;)I" } : Jvm.MethodName) prog_5_method_5_code (8 : Nat) (Option.some Jvm.ClassFile.FieldType.int)) ∈ jw := jt5 (List.mem_of_getElem? (i := 115) (by exact rfl)) rfl
set_option maxRecDepth 20000 in
theorem lk_5_116 : (Jvm.Cond.methodLink "PensionHouse$Ops" (64 : Nat) ({ cls := "PensionHouse$Ops", name := "tells", desc := "(IJJ)Z" } : Jvm.MethodName)) ∈ jw := jt5 (List.mem_of_getElem? (i := 116) (by decide +kernel)) rfl
set_option maxRecDepth 20000 in
theorem lk_5_117 : (Jvm.Cond.static ({ cls := "PensionHouse$Ops", name := "tells", desc := "(IJJ)Z" } : Jvm.MethodName)) ∈ jw := jt5 (List.mem_of_getElem? (i := 117) (by decide +kernel)) rfl
set_option maxRecDepth 20000 in
theorem lk_5_118 : (Jvm.Cond.code ({ cls := "PensionHouse$Ops", name := "tells", desc := "(IJJ)Z" } : Jvm.MethodName) prog_5_method_6_code (5 : Nat) (Option.some Jvm.ClassFile.FieldType.boolean)) ∈ jw := jt5 (List.mem_of_getElem? (i := 118) (by exact rfl)) rfl
set_option maxRecDepth 20000 in
theorem lk_5_119 : (Jvm.Cond.methodLink "PensionHouse$Ops" (71 : Nat) ({ cls := "PensionHouse$Real", name := "orderWithoutSignOfZero", desc := "(J)J" } : Jvm.MethodName)) ∈ jw := jt5 (List.mem_of_getElem? (i := 119) (by decide +kernel)) rfl
set_option maxRecDepth 20000 in
theorem lk_5_120 : (Jvm.Cond.static ({ cls := "PensionHouse$Real", name := "orderWithoutSignOfZero", desc := "(J)J" } : Jvm.MethodName)) ∈ jw := jt5 (List.mem_of_getElem? (i := 120) (by decide +kernel)) rfl
set_option maxRecDepth 20000 in
theorem lk_5_121 : (Jvm.Cond.code ({ cls := "PensionHouse$Real", name := "orderWithoutSignOfZero", desc := "(J)J" } : Jvm.MethodName) prog_7_method_4_code (2 : Nat) (Option.some Jvm.ClassFile.FieldType.long)) ∈ jw := jt5 (List.mem_of_getElem? (i := 121) (by exact rfl)) rfl
set_option maxRecDepth 20000 in
theorem lk_5_122 : (Jvm.Cond.methodLink "PensionHouse$Real" (15 : Nat) ({ cls := "PensionHouse$Real", name := "order", desc := "(J)J" } : Jvm.MethodName)) ∈ jw := jt5 (List.mem_of_getElem? (i := 122) (by decide +kernel)) rfl
set_option maxRecDepth 20000 in
theorem lk_5_123 : (Jvm.Cond.methodLink "PensionHouse$Worker" (91 : Nat) ({ cls := "PensionHouse$Worker", name := "leaveFailed", desc := "()V" } : Jvm.MethodName)) ∈ jw := jt5 (List.mem_of_getElem? (i := 123) (by decide +kernel)) rfl
set_option maxRecDepth 20000 in
theorem lk_5_125 : (Jvm.Cond.instanceMethod ({ cls := "PensionHouse$Worker", name := "leaveFailed", desc := "()V" } : Jvm.MethodName)) ∈ jw := jt5 (List.mem_of_getElem? (i := 125) (by decide +kernel)) rfl
set_option maxRecDepth 20000 in
theorem lk_5_126 : (Jvm.Cond.code ({ cls := "PensionHouse$Worker", name := "leaveFailed", desc := "()V" } : Jvm.MethodName) prog_12_method_10_code (3 : Nat) (Option.none : Option Jvm.ClassFile.FieldType)) ∈ jw := jt5 (List.mem_of_getElem? (i := 126) (by exact rfl)) rfl
set_option maxRecDepth 20000 in
theorem lk_5_127 : (Jvm.Cond.methodLink "PensionHouseLaw" (92 : Nat) ({ cls := "PensionHouse", name := "told", desc := "(I)I" } : Jvm.MethodName)) ∈ jw := jt5 (List.mem_of_getElem? (i := 127) (by decide +kernel)) rfl
set_option maxRecDepth 20000 in
theorem lk_5_128 : (Jvm.Cond.instanceMethod ({ cls := "PensionHouse", name := "told", desc := "(I)I" } : Jvm.MethodName)) ∈ jw := jt5 (List.mem_of_getElem? (i := 128) (by decide +kernel)) rfl
set_option maxRecDepth 20000 in
theorem lk_5_129 : (Jvm.Cond.selects "PensionHouse" ({ cls := "PensionHouse", name := "told", desc := "(I)I" } : Jvm.MethodName) ({ cls := "PensionHouse", name := "told", desc := "(I)I" } : Jvm.MethodName)) ∈ jw := jt5 (List.mem_of_getElem? (i := 129) (by decide +kernel)) rfl
set_option maxRecDepth 20000 in
theorem lk_5_130 : (Jvm.Cond.code ({ cls := "PensionHouse", name := "told", desc := "(I)I" } : Jvm.MethodName) prog_1_method_19_code (2 : Nat) (Option.some Jvm.ClassFile.FieldType.int)) ∈ jw := jt5 (List.mem_of_getElem? (i := 130) (by exact rfl)) rfl
set_option maxRecDepth 20000 in
theorem lk_5_131 : (Jvm.Cond.methodLink "PensionHouseLaw" (96 : Nat) ({ cls := "PensionHouse", name := "step", desc := "(I)I" } : Jvm.MethodName)) ∈ jw := jt5 (List.mem_of_getElem? (i := 131) (by decide +kernel)) rfl
set_option maxRecDepth 20000 in
theorem lk_5_132 : (Jvm.Cond.instanceMethod ({ cls := "PensionHouse", name := "step", desc := "(I)I" } : Jvm.MethodName)) ∈ jw := jt5 (List.mem_of_getElem? (i := 132) (by decide +kernel)) rfl
set_option maxRecDepth 20000 in
theorem lk_5_133 : (Jvm.Cond.selects "PensionHouse" ({ cls := "PensionHouse", name := "step", desc := "(I)I" } : Jvm.MethodName) ({ cls := "PensionHouse", name := "step", desc := "(I)I" } : Jvm.MethodName)) ∈ jw := jt5 (List.mem_of_getElem? (i := 133) (by decide +kernel)) rfl
set_option maxRecDepth 20000 in
theorem lk_5_134 : (Jvm.Cond.code ({ cls := "PensionHouse", name := "step", desc := "(I)I" } : Jvm.MethodName) prog_1_method_20_code (4 : Nat) (Option.some Jvm.ClassFile.FieldType.int)) ∈ jw := jt5 (List.mem_of_getElem? (i := 134) (by exact rfl)) rfl
set_option maxRecDepth 20000 in
theorem lk_5_135 : (Jvm.Cond.methodLink "PensionHouseLaw" (100 : Nat) ({ cls := "PensionHouse", name := "trial", desc := "(III)I" } : Jvm.MethodName)) ∈ jw := jt5 (List.mem_of_getElem? (i := 135) (by decide +kernel)) rfl
set_option maxRecDepth 20000 in
theorem lk_5_136 : (Jvm.Cond.instanceMethod ({ cls := "PensionHouse", name := "trial", desc := "(III)I" } : Jvm.MethodName)) ∈ jw := jt5 (List.mem_of_getElem? (i := 136) (by decide +kernel)) rfl
set_option maxRecDepth 20000 in
theorem lk_5_137 : (Jvm.Cond.selects "PensionHouse" ({ cls := "PensionHouse", name := "trial", desc := "(III)I" } : Jvm.MethodName) ({ cls := "PensionHouse", name := "trial", desc := "(III)I" } : Jvm.MethodName)) ∈ jw := jt5 (List.mem_of_getElem? (i := 137) (by decide +kernel)) rfl
set_option maxRecDepth 20000 in
theorem lk_5_138 : (Jvm.Cond.code ({ cls := "PensionHouse", name := "trial", desc := "(III)I" } : Jvm.MethodName) prog_1_method_21_code (7 : Nat) (Option.some Jvm.ClassFile.FieldType.int)) ∈ jw := jt5 (List.mem_of_getElem? (i := 138) (by exact rfl)) rfl
set_option maxRecDepth 20000 in
theorem lk_5_139 : (Jvm.Cond.constantLong "PensionHouse" (271 : Nat) (6583653 : Int64)) ∈ jw := jt5 (List.mem_of_getElem? (i := 139) (by decide +kernel)) rfl
set_option maxRecDepth 20000 in
theorem lk_5_140 : (Jvm.Cond.methodLink "PensionHouse" (273 : Nat) ({ cls := "PensionHouse$Case", name := "endsLike", desc := "(LPensionHouse$Case;)Z" } : Jvm.MethodName)) ∈ jw := jt5 (List.mem_of_getElem? (i := 140) (by decide +kernel)) rfl
set_option maxRecDepth 20000 in
theorem lk_5_141 : (Jvm.Cond.instanceMethod ({ cls := "PensionHouse$Case", name := "endsLike", desc := "(LPensionHouse$Case;)Z" } : Jvm.MethodName)) ∈ jw := jt5 (List.mem_of_getElem? (i := 141) (by decide +kernel)) rfl
set_option maxRecDepth 20000 in
theorem lk_5_142 : (Jvm.Cond.selects "PensionHouse$Case" ({ cls := "PensionHouse$Case", name := "endsLike", desc := "(LPensionHouse$Case;)Z" } : Jvm.MethodName) ({ cls := "PensionHouse$Case", name := "endsLike", desc := "(LPensionHouse$Case;)Z" } : Jvm.MethodName)) ∈ jw := jt5 (List.mem_of_getElem? (i := 142) (by decide +kernel)) rfl
set_option maxRecDepth 20000 in
theorem lk_5_143 : (Jvm.Cond.code ({ cls := "PensionHouse$Case", name := "endsLike", desc := "(LPensionHouse$Case;)Z" } : Jvm.MethodName) prog_3_method_5_code (2 : Nat) (Option.some Jvm.ClassFile.FieldType.boolean)) ∈ jw := jt5 (List.mem_of_getElem? (i := 143) (by exact rfl)) rfl
set_option maxRecDepth 20000 in
theorem lk_5_144 : (Jvm.Cond.methodLink "PensionHouse$Case" (66 : Nat) ({ cls := "PensionHouse$Value", name := "isLike", desc := "(LPensionHouse$Value;)Z" } : Jvm.MethodName)) ∈ jw := jt5 (List.mem_of_getElem? (i := 144) (by decide +kernel)) rfl
set_option maxRecDepth 20000 in
theorem lk_5_145 : (Jvm.Cond.instanceMethod ({ cls := "PensionHouse$Value", name := "isLike", desc := "(LPensionHouse$Value;)Z" } : Jvm.MethodName)) ∈ jw := jt5 (List.mem_of_getElem? (i := 145) (by decide +kernel)) rfl
set_option maxRecDepth 20000 in
theorem lk_5_146 : (Jvm.Cond.selects "PensionHouse$Value" ({ cls := "PensionHouse$Value", name := "isLike", desc := "(LPensionHouse$Value;)Z" } : Jvm.MethodName) ({ cls := "PensionHouse$Value", name := "isLike", desc := "(LPensionHouse$Value;)Z" } : Jvm.MethodName)) ∈ jw := jt5 (List.mem_of_getElem? (i := 146) (by decide +kernel)) rfl
set_option maxRecDepth 20000 in
theorem lk_5_147 : (Jvm.Cond.code ({ cls := "PensionHouse$Value", name := "isLike", desc := "(LPensionHouse$Value;)Z" } : Jvm.MethodName) prog_11_method_11_code (4 : Nat) (Option.some Jvm.ClassFile.FieldType.boolean)) ∈ jw := jt5 (List.mem_of_getElem? (i := 147) (by exact rfl)) rfl
set_option maxRecDepth 20000 in
theorem lk_5_148 : (Jvm.Cond.methodLink "PensionHouse$Value" (46 : Nat) ({ cls := "PensionHouse$Value", name := "isRow", desc := "()Z" } : Jvm.MethodName)) ∈ jw := jt5 (List.mem_of_getElem? (i := 148) (by decide +kernel)) rfl
set_option maxRecDepth 20000 in
theorem lk_5_149 : (Jvm.Cond.methodLink "PensionHouseLaw" (104 : Nat) ({ cls := "PensionHouse", name := "award", desc := "(III)I" } : Jvm.MethodName)) ∈ jw := jt5 (List.mem_of_getElem? (i := 149) (by decide +kernel)) rfl
set_option maxRecDepth 20000 in
theorem lk_5_150 : (Jvm.Cond.instanceMethod ({ cls := "PensionHouse", name := "award", desc := "(III)I" } : Jvm.MethodName)) ∈ jw := jt5 (List.mem_of_getElem? (i := 150) (by decide +kernel)) rfl
set_option maxRecDepth 20000 in
theorem lk_5_151 : (Jvm.Cond.selects "PensionHouse" ({ cls := "PensionHouse", name := "award", desc := "(III)I" } : Jvm.MethodName) ({ cls := "PensionHouse", name := "award", desc := "(III)I" } : Jvm.MethodName)) ∈ jw := jt5 (List.mem_of_getElem? (i := 151) (by decide +kernel)) rfl
set_option maxRecDepth 20000 in
theorem lk_5_152 : (Jvm.Cond.code ({ cls := "PensionHouse", name := "award", desc := "(III)I" } : Jvm.MethodName) prog_1_method_22_code (5 : Nat) (Option.some Jvm.ClassFile.FieldType.int)) ∈ jw := jt5 (List.mem_of_getElem? (i := 152) (by exact rfl)) rfl
set_option maxRecDepth 20000 in
theorem lk_5_153 : (Jvm.Cond.methodLink "PensionHouse" (277 : Nat) ({ cls := "PensionHouse", name := "isMonth", desc := "(I)Z" } : Jvm.MethodName)) ∈ jw := jt5 (List.mem_of_getElem? (i := 153) (by decide +kernel)) rfl
set_option maxRecDepth 20000 in
theorem lk_5_154 : (Jvm.Cond.static ({ cls := "PensionHouse", name := "isMonth", desc := "(I)Z" } : Jvm.MethodName)) ∈ jw := jt5 (List.mem_of_getElem? (i := 154) (by decide +kernel)) rfl
set_option maxRecDepth 20000 in
theorem lk_5_155 : (Jvm.Cond.code ({ cls := "PensionHouse", name := "isMonth", desc := "(I)Z" } : Jvm.MethodName) prog_1_method_35_code (1 : Nat) (Option.some Jvm.ClassFile.FieldType.boolean)) ∈ jw := jt5 (List.mem_of_getElem? (i := 155) (by exact rfl)) rfl
set_option maxRecDepth 20000 in
theorem lk_5_156 : (Jvm.Cond.methodLink "PensionHouseLaw" (108 : Nat) ({ cls := "PensionHouse", name := "due", desc := "(III)I" } : Jvm.MethodName)) ∈ jw := jt5 (List.mem_of_getElem? (i := 156) (by decide +kernel)) rfl
set_option maxRecDepth 20000 in
theorem lk_5_157 : (Jvm.Cond.instanceMethod ({ cls := "PensionHouse", name := "due", desc := "(III)I" } : Jvm.MethodName)) ∈ jw := jt5 (List.mem_of_getElem? (i := 157) (by decide +kernel)) rfl
set_option maxRecDepth 20000 in
theorem lk_5_158 : (Jvm.Cond.selects "PensionHouse" ({ cls := "PensionHouse", name := "due", desc := "(III)I" } : Jvm.MethodName) ({ cls := "PensionHouse", name := "due", desc := "(III)I" } : Jvm.MethodName)) ∈ jw := jt5 (List.mem_of_getElem? (i := 158) (by decide +kernel)) rfl
set_option maxRecDepth 20000 in
theorem lk_5_159 : (Jvm.Cond.code ({ cls := "PensionHouse", name := "due", desc := "(III)I" } : Jvm.MethodName) prog_1_method_23_code (4 : Nat) (Option.some Jvm.ClassFile.FieldType.int)) ∈ jw := jt5 (List.mem_of_getElem? (i := 159) (by exact rfl)) rfl
set_option maxRecDepth 20000 in
theorem lk_5_160 : (Jvm.Cond.methodLink "PensionHouse" (288 : Nat) ({ cls := "PensionHouse", name := "isAward", desc := "(I)Z" } : Jvm.MethodName)) ∈ jw := jt5 (List.mem_of_getElem? (i := 160) (by decide +kernel)) rfl
set_option maxRecDepth 20000 in
theorem lk_5_162 : (Jvm.Cond.instanceMethod ({ cls := "PensionHouse", name := "isAward", desc := "(I)Z" } : Jvm.MethodName)) ∈ jw := jt5 (List.mem_of_getElem? (i := 162) (by decide +kernel)) rfl
set_option maxRecDepth 20000 in
theorem lk_5_163 : (Jvm.Cond.code ({ cls := "PensionHouse", name := "isAward", desc := "(I)Z" } : Jvm.MethodName) prog_1_method_38_code (2 : Nat) (Option.some Jvm.ClassFile.FieldType.boolean)) ∈ jw := jt5 (List.mem_of_getElem? (i := 163) (by exact rfl)) rfl
set_option maxRecDepth 20000 in
theorem lk_5_164 : (Jvm.Cond.methodLink "PensionHouse" (291 : Nat) ({ cls := "PensionHouse", name := "dues", desc := "(LPensionHouse$Award;III)J" } : Jvm.MethodName)) ∈ jw := jt5 (List.mem_of_getElem? (i := 164) (by decide +kernel)) rfl
set_option maxRecDepth 20000 in
theorem lk_5_166 : (Jvm.Cond.instanceMethod ({ cls := "PensionHouse", name := "dues", desc := "(LPensionHouse$Award;III)J" } : Jvm.MethodName)) ∈ jw := jt5 (List.mem_of_getElem? (i := 166) (by decide +kernel)) rfl
set_option maxRecDepth 20000 in
theorem lk_5_167 : (Jvm.Cond.code ({ cls := "PensionHouse", name := "dues", desc := "(LPensionHouse$Award;III)J" } : Jvm.MethodName) prog_1_method_41_code (9 : Nat) (Option.some Jvm.ClassFile.FieldType.long)) ∈ jw := jt5 (List.mem_of_getElem? (i := 167) (by exact rfl)) rfl
set_option maxRecDepth 20000 in
theorem lk_5_168 : (Jvm.Cond.methodLink "PensionHouse" (295 : Nat) ({ cls := "PensionHouse$Case", name := "cents", desc := "()I" } : Jvm.MethodName)) ∈ jw := jt5 (List.mem_of_getElem? (i := 168) (by decide +kernel)) rfl
set_option maxRecDepth 20000 in
theorem lk_5_169 : (Jvm.Cond.instanceMethod ({ cls := "PensionHouse$Case", name := "cents", desc := "()I" } : Jvm.MethodName)) ∈ jw := jt5 (List.mem_of_getElem? (i := 169) (by decide +kernel)) rfl
set_option maxRecDepth 20000 in
theorem lk_5_170 : (Jvm.Cond.selects "PensionHouse$Case" ({ cls := "PensionHouse$Case", name := "cents", desc := "()I" } : Jvm.MethodName) ({ cls := "PensionHouse$Case", name := "cents", desc := "()I" } : Jvm.MethodName)) ∈ jw := jt5 (List.mem_of_getElem? (i := 170) (by decide +kernel)) rfl
set_option maxRecDepth 20000 in
theorem lk_5_171 : (Jvm.Cond.code ({ cls := "PensionHouse$Case", name := "cents", desc := "()I" } : Jvm.MethodName) prog_3_method_6_code (1 : Nat) (Option.some Jvm.ClassFile.FieldType.int)) ∈ jw := jt5 (List.mem_of_getElem? (i := 171) (by exact rfl)) rfl
set_option maxRecDepth 20000 in
theorem lk_5_172 : (Jvm.Cond.constantLong "PensionHouse$Case" (73 : Nat) (1000000000 : Int64)) ∈ jw := jt5 (List.mem_of_getElem? (i := 172) (by decide +kernel)) rfl
set_option maxRecDepth 20000 in
theorem lk_5_173 : (Jvm.Cond.methodLink "PensionHouse$Case" (79 : Nat) ({ cls := "java/lang/Math", name := "max", desc := "(JJ)J" } : Jvm.MethodName)) ∈ jw := jt5 (List.mem_of_getElem? (i := 173) (by decide +kernel)) rfl
set_option maxRecDepth 20000 in
theorem lk_5_174 : (Jvm.Cond.methodLink "PensionHouse$Case" (85 : Nat) ({ cls := "java/lang/Math", name := "min", desc := "(JJ)J" } : Jvm.MethodName)) ∈ jw := jt5 (List.mem_of_getElem? (i := 174) (by decide +kernel)) rfl
set_option maxRecDepth 20000 in
theorem lk_5_175 : (Jvm.Cond.methodLink "PensionHouse" (327 : Nat) ({ cls := "java/lang/Math", name := "max", desc := "(II)I" } : Jvm.MethodName)) ∈ jw := jt5 (List.mem_of_getElem? (i := 175) (by decide +kernel)) rfl
set_option maxRecDepth 20000 in
theorem lk_5_176 : (Jvm.Cond.methodLink "PensionHouseLaw" (112 : Nat) ({ cls := "PensionHouse", name := "deduct", desc := "(III)I" } : Jvm.MethodName)) ∈ jw := jt5 (List.mem_of_getElem? (i := 176) (by decide +kernel)) rfl
set_option maxRecDepth 20000 in
theorem lk_5_177 : (Jvm.Cond.instanceMethod ({ cls := "PensionHouse", name := "deduct", desc := "(III)I" } : Jvm.MethodName)) ∈ jw := jt5 (List.mem_of_getElem? (i := 177) (by decide +kernel)) rfl
set_option maxRecDepth 20000 in
theorem lk_5_178 : (Jvm.Cond.selects "PensionHouse" ({ cls := "PensionHouse", name := "deduct", desc := "(III)I" } : Jvm.MethodName) ({ cls := "PensionHouse", name := "deduct", desc := "(III)I" } : Jvm.MethodName)) ∈ jw := jt5 (List.mem_of_getElem? (i := 178) (by decide +kernel)) rfl
set_option maxRecDepth 20000 in
theorem lk_5_179 : (Jvm.Cond.code ({ cls := "PensionHouse", name := "deduct", desc := "(III)I" } : Jvm.MethodName) prog_1_method_24_code (4 : Nat) (Option.some Jvm.ClassFile.FieldType.int)) ∈ jw := jt5 (List.mem_of_getElem? (i := 179) (by exact rfl)) rfl
set_option maxRecDepth 20000 in
theorem lk_5_180 : (Jvm.Cond.constant "PensionHouse" (299 : Nat) (1000000 : Int32)) ∈ jw := jt5 (List.mem_of_getElem? (i := 180) (by decide +kernel)) rfl
set_option maxRecDepth 20000 in
theorem lk_5_181 : (Jvm.Cond.methodLink "PensionHouse" (300 : Nat) ({ cls := "PensionHouse$Award", name := "addDeduction", desc := "(II)I" } : Jvm.MethodName)) ∈ jw := jt5 (List.mem_of_getElem? (i := 181) (by decide +kernel)) rfl
set_option maxRecDepth 20000 in
theorem lk_5_182 : (Jvm.Cond.instanceMethod ({ cls := "PensionHouse$Award", name := "addDeduction", desc := "(II)I" } : Jvm.MethodName)) ∈ jw := jt5 (List.mem_of_getElem? (i := 182) (by decide +kernel)) rfl
set_option maxRecDepth 20000 in
theorem lk_5_183 : (Jvm.Cond.selects "PensionHouse$Award" ({ cls := "PensionHouse$Award", name := "addDeduction", desc := "(II)I" } : Jvm.MethodName) ({ cls := "PensionHouse$Award", name := "addDeduction", desc := "(II)I" } : Jvm.MethodName)) ∈ jw := jt5 (List.mem_of_getElem? (i := 183) (by decide +kernel)) rfl
set_option maxRecDepth 20000 in
theorem lk_5_184 : (Jvm.Cond.code ({ cls := "PensionHouse$Award", name := "addDeduction", desc := "(II)I" } : Jvm.MethodName) prog_2_method_2_code (3 : Nat) (Option.some Jvm.ClassFile.FieldType.int)) ∈ jw := jt5 (List.mem_of_getElem? (i := 184) (by exact rfl)) rfl
set_option maxRecDepth 20000 in
theorem lk_5_185 : (Jvm.Cond.methodLink "PensionHouseLaw" (116 : Nat) ({ cls := "PensionHouse", name := "share", desc := "(I)I" } : Jvm.MethodName)) ∈ jw := jt5 (List.mem_of_getElem? (i := 185) (by decide +kernel)) rfl
set_option maxRecDepth 20000 in
theorem lk_5_186 : (Jvm.Cond.instanceMethod ({ cls := "PensionHouse", name := "share", desc := "(I)I" } : Jvm.MethodName)) ∈ jw := jt5 (List.mem_of_getElem? (i := 186) (by decide +kernel)) rfl
set_option maxRecDepth 20000 in
theorem lk_5_187 : (Jvm.Cond.selects "PensionHouse" ({ cls := "PensionHouse", name := "share", desc := "(I)I" } : Jvm.MethodName) ({ cls := "PensionHouse", name := "share", desc := "(I)I" } : Jvm.MethodName)) ∈ jw := jt5 (List.mem_of_getElem? (i := 187) (by decide +kernel)) rfl
set_option maxRecDepth 20000 in
theorem lk_5_188 : (Jvm.Cond.code ({ cls := "PensionHouse", name := "share", desc := "(I)I" } : Jvm.MethodName) prog_1_method_25_code (3 : Nat) (Option.some Jvm.ClassFile.FieldType.int)) ∈ jw := jt5 (List.mem_of_getElem? (i := 188) (by exact rfl)) rfl
set_option maxRecDepth 20000 in
theorem lk_5_189 : (Jvm.Cond.methodLink "PensionHouseLaw" (120 : Nat) ({ cls := "PensionHouse", name := "run", desc := "(I)I" } : Jvm.MethodName)) ∈ jw := jt5 (List.mem_of_getElem? (i := 189) (by decide +kernel)) rfl
set_option maxRecDepth 20000 in
theorem lk_5_190 : (Jvm.Cond.instanceMethod ({ cls := "PensionHouse", name := "run", desc := "(I)I" } : Jvm.MethodName)) ∈ jw := jt5 (List.mem_of_getElem? (i := 190) (by decide +kernel)) rfl
set_option maxRecDepth 20000 in
theorem lk_5_191 : (Jvm.Cond.selects "PensionHouse" ({ cls := "PensionHouse", name := "run", desc := "(I)I" } : Jvm.MethodName) ({ cls := "PensionHouse", name := "run", desc := "(I)I" } : Jvm.MethodName)) ∈ jw := jt5 (List.mem_of_getElem? (i := 191) (by decide +kernel)) rfl
set_option maxRecDepth 20000 in
theorem lk_5_192 : (Jvm.Cond.code ({ cls := "PensionHouse", name := "run", desc := "(I)I" } : Jvm.MethodName) prog_1_method_26_code (4 : Nat) (Option.some Jvm.ClassFile.FieldType.int)) ∈ jw := jt5 (List.mem_of_getElem? (i := 192) (by exact rfl)) rfl
set_option maxRecDepth 20000 in
theorem lk_5_193 : (Jvm.Cond.methodLink "PensionHouse" (312 : Nat) ({ cls := "PensionHouse", name := "beginRun", desc := "(I)V" } : Jvm.MethodName)) ∈ jw := jt5 (List.mem_of_getElem? (i := 193) (by decide +kernel)) rfl
set_option maxRecDepth 20000 in
theorem lk_5_195 : (Jvm.Cond.instanceMethod ({ cls := "PensionHouse", name := "beginRun", desc := "(I)V" } : Jvm.MethodName)) ∈ jw := jt5 (List.mem_of_getElem? (i := 195) (by decide +kernel)) rfl
set_option maxRecDepth 20000 in
theorem lk_5_196 : (Jvm.Cond.code ({ cls := "PensionHouse", name := "beginRun", desc := "(I)V" } : Jvm.MethodName) prog_1_method_43_code (3 : Nat) (Option.none : Option Jvm.ClassFile.FieldType)) ∈ jw := jt5 (List.mem_of_getElem? (i := 196) (by exact rfl)) rfl
set_option maxRecDepth 20000 in
theorem lk_5_197 : (Jvm.Cond.methodLink "PensionHouseLaw" (124 : Nat) ({ cls := "PensionHouse", name := "advance", desc := "(I)I" } : Jvm.MethodName)) ∈ jw := jt5 (List.mem_of_getElem? (i := 197) (by decide +kernel)) rfl
set_option maxRecDepth 20000 in
theorem lk_5_198 : (Jvm.Cond.instanceMethod ({ cls := "PensionHouse", name := "advance", desc := "(I)I" } : Jvm.MethodName)) ∈ jw := jt5 (List.mem_of_getElem? (i := 198) (by decide +kernel)) rfl
set_option maxRecDepth 20000 in
theorem lk_5_199 : (Jvm.Cond.selects "PensionHouse" ({ cls := "PensionHouse", name := "advance", desc := "(I)I" } : Jvm.MethodName) ({ cls := "PensionHouse", name := "advance", desc := "(I)I" } : Jvm.MethodName)) ∈ jw := jt5 (List.mem_of_getElem? (i := 199) (by decide +kernel)) rfl
set_option maxRecDepth 20000 in
theorem lk_5_200 : (Jvm.Cond.code ({ cls := "PensionHouse", name := "advance", desc := "(I)I" } : Jvm.MethodName) prog_1_method_27_code (8 : Nat) (Option.some Jvm.ClassFile.FieldType.int)) ∈ jw := jt5 (List.mem_of_getElem? (i := 200) (by exact rfl)) rfl
set_option maxRecDepth 20000 in
theorem lk_5_201 : (Jvm.Cond.methodLink "PensionHouse" (316 : Nat) ({ cls := "PensionHouse", name := "paidTo", desc := "(I)J" } : Jvm.MethodName)) ∈ jw := jt5 (List.mem_of_getElem? (i := 201) (by decide +kernel)) rfl
set_option maxRecDepth 20000 in
theorem lk_5_203 : (Jvm.Cond.instanceMethod ({ cls := "PensionHouse", name := "paidTo", desc := "(I)J" } : Jvm.MethodName)) ∈ jw := jt5 (List.mem_of_getElem? (i := 203) (by decide +kernel)) rfl
set_option maxRecDepth 20000 in
theorem lk_5_204 : (Jvm.Cond.code ({ cls := "PensionHouse", name := "paidTo", desc := "(I)J" } : Jvm.MethodName) prog_1_method_42_code (5 : Nat) (Option.some Jvm.ClassFile.FieldType.long)) ∈ jw := jt5 (List.mem_of_getElem? (i := 204) (by exact rfl)) rfl
set_option maxRecDepth 20000 in
theorem lk_5_205 : (Jvm.Cond.methodLink "PensionHouse" (320 : Nat) ({ cls := "PensionHouse", name := "pay", desc := "(IJJ)V" } : Jvm.MethodName)) ∈ jw := jt5 (List.mem_of_getElem? (i := 205) (by decide +kernel)) rfl
set_option maxRecDepth 20000 in
theorem lk_5_207 : (Jvm.Cond.instanceMethod ({ cls := "PensionHouse", name := "pay", desc := "(IJJ)V" } : Jvm.MethodName)) ∈ jw := jt5 (List.mem_of_getElem? (i := 207) (by decide +kernel)) rfl
set_option maxRecDepth 20000 in
theorem lk_5_208 : (Jvm.Cond.code ({ cls := "PensionHouse", name := "pay", desc := "(IJJ)V" } : Jvm.MethodName) prog_1_method_44_code (9 : Nat) (Option.none : Option Jvm.ClassFile.FieldType)) ∈ jw := jt5 (List.mem_of_getElem? (i := 208) (by exact rfl)) rfl
set_option maxRecDepth 20000 in
theorem lk_5_209 : (Jvm.Cond.constantLong "PensionHouse" (332 : Nat) (100 : Int64)) ∈ jw := jt5 (List.mem_of_getElem? (i := 209) (by decide +kernel)) rfl
set_option maxRecDepth 20000 in
theorem lk_5_210 : (Jvm.Cond.methodLink "PensionHouse" (334 : Nat) ({ cls := "java/lang/Math", name := "min", desc := "(JJ)J" } : Jvm.MethodName)) ∈ jw := jt5 (List.mem_of_getElem? (i := 210) (by decide +kernel)) rfl
set_option maxRecDepth 20000 in
theorem lk_5_211 : (Jvm.Cond.methodLink "PensionHouse" (338 : Nat) ({ cls := "PensionHouse$Award", name := "takeFrom", desc := "(J[JI)J" } : Jvm.MethodName)) ∈ jw := jt5 (List.mem_of_getElem? (i := 211) (by decide +kernel)) rfl
set_option maxRecDepth 20000 in
theorem lk_5_212 : (Jvm.Cond.instanceMethod ({ cls := "PensionHouse$Award", name := "takeFrom", desc := "(J[JI)J" } : Jvm.MethodName)) ∈ jw := jt5 (List.mem_of_getElem? (i := 212) (by decide +kernel)) rfl
set_option maxRecDepth 20000 in
theorem lk_5_213 : (Jvm.Cond.selects "PensionHouse$Award" ({ cls := "PensionHouse$Award", name := "takeFrom", desc := "(J[JI)J" } : Jvm.MethodName) ({ cls := "PensionHouse$Award", name := "takeFrom", desc := "(J[JI)J" } : Jvm.MethodName)) ∈ jw := jt5 (List.mem_of_getElem? (i := 213) (by decide +kernel)) rfl
set_option maxRecDepth 20000 in
theorem lk_5_214 : (Jvm.Cond.code ({ cls := "PensionHouse$Award", name := "takeFrom", desc := "(J[JI)J" } : Jvm.MethodName) prog_2_method_3_code (11 : Nat) (Option.some Jvm.ClassFile.FieldType.long)) ∈ jw := jt5 (List.mem_of_getElem? (i := 214) (by exact rfl)) rfl
set_option maxRecDepth 20000 in
theorem lk_5_215 : (Jvm.Cond.methodLink "PensionHouse$Award" (22 : Nat) ({ cls := "java/lang/Math", name := "min", desc := "(JJ)J" } : Jvm.MethodName)) ∈ jw := jt5 (List.mem_of_getElem? (i := 215) (by decide +kernel)) rfl
set_option maxRecDepth 20000 in
theorem lk_5_216 : (Jvm.Cond.methodLink "PensionHouseLaw" (128 : Nat) ({ cls := "PensionHouse", name := "payment", desc := "(II)J" } : Jvm.MethodName)) ∈ jw := jt5 (List.mem_of_getElem? (i := 216) (by decide +kernel)) rfl
set_option maxRecDepth 20000 in
theorem lk_5_217 : (Jvm.Cond.instanceMethod ({ cls := "PensionHouse", name := "payment", desc := "(II)J" } : Jvm.MethodName)) ∈ jw := jt5 (List.mem_of_getElem? (i := 217) (by decide +kernel)) rfl
set_option maxRecDepth 20000 in
theorem lk_5_218 : (Jvm.Cond.selects "PensionHouse" ({ cls := "PensionHouse", name := "payment", desc := "(II)J" } : Jvm.MethodName) ({ cls := "PensionHouse", name := "payment", desc := "(II)J" } : Jvm.MethodName)) ∈ jw := jt5 (List.mem_of_getElem? (i := 218) (by decide +kernel)) rfl
set_option maxRecDepth 20000 in
theorem lk_5_219 : (Jvm.Cond.code ({ cls := "PensionHouse", name := "payment", desc := "(II)J" } : Jvm.MethodName) prog_1_method_28_code (3 : Nat) (Option.some Jvm.ClassFile.FieldType.long)) ∈ jw := jt5 (List.mem_of_getElem? (i := 219) (by exact rfl)) rfl
set_option maxRecDepth 20000 in
theorem lk_5_220 : (Jvm.Cond.methodLink "PensionHouseLaw" (133 : Nat) ({ cls := "PensionHouse", name := "taken", desc := "(II)I" } : Jvm.MethodName)) ∈ jw := jt5 (List.mem_of_getElem? (i := 220) (by decide +kernel)) rfl
set_option maxRecDepth 20000 in
theorem lk_5_221 : (Jvm.Cond.instanceMethod ({ cls := "PensionHouse", name := "taken", desc := "(II)I" } : Jvm.MethodName)) ∈ jw := jt5 (List.mem_of_getElem? (i := 221) (by decide +kernel)) rfl
set_option maxRecDepth 20000 in
theorem lk_5_222 : (Jvm.Cond.selects "PensionHouse" ({ cls := "PensionHouse", name := "taken", desc := "(II)I" } : Jvm.MethodName) ({ cls := "PensionHouse", name := "taken", desc := "(II)I" } : Jvm.MethodName)) ∈ jw := jt5 (List.mem_of_getElem? (i := 222) (by decide +kernel)) rfl
set_option maxRecDepth 20000 in
theorem lk_5_223 : (Jvm.Cond.code ({ cls := "PensionHouse", name := "taken", desc := "(II)I" } : Jvm.MethodName) prog_1_method_29_code (3 : Nat) (Option.some Jvm.ClassFile.FieldType.int)) ∈ jw := jt5 (List.mem_of_getElem? (i := 223) (by exact rfl)) rfl
set_option maxRecDepth 20000 in
theorem lk_5_224 : (Jvm.Cond.methodLink "PensionHouseLaw" (137 : Nat) ({ cls := "PensionHouse", name := "returned", desc := "(I)I" } : Jvm.MethodName)) ∈ jw := jt5 (List.mem_of_getElem? (i := 224) (by decide +kernel)) rfl
set_option maxRecDepth 20000 in
theorem lk_5_225 : (Jvm.Cond.instanceMethod ({ cls := "PensionHouse", name := "returned", desc := "(I)I" } : Jvm.MethodName)) ∈ jw := jt5 (List.mem_of_getElem? (i := 225) (by decide +kernel)) rfl
set_option maxRecDepth 20000 in
theorem lk_5_226 : (Jvm.Cond.selects "PensionHouse" ({ cls := "PensionHouse", name := "returned", desc := "(I)I" } : Jvm.MethodName) ({ cls := "PensionHouse", name := "returned", desc := "(I)I" } : Jvm.MethodName)) ∈ jw := jt5 (List.mem_of_getElem? (i := 226) (by decide +kernel)) rfl
set_option maxRecDepth 20000 in
theorem lk_5_227 : (Jvm.Cond.code ({ cls := "PensionHouse", name := "returned", desc := "(I)I" } : Jvm.MethodName) prog_1_method_30_code (2 : Nat) (Option.some Jvm.ClassFile.FieldType.int)) ∈ jw := jt5 (List.mem_of_getElem? (i := 227) (by exact rfl)) rfl
set_option maxRecDepth 20000 in
theorem lk_5_228 : (Jvm.Cond.methodLink "PensionHouseLaw" (141 : Nat) ({ cls := "PensionHouse", name := "balance", desc := "(II)J" } : Jvm.MethodName)) ∈ jw := jt5 (List.mem_of_getElem? (i := 228) (by decide +kernel)) rfl
set_option maxRecDepth 20000 in
theorem lk_5_229 : (Jvm.Cond.instanceMethod ({ cls := "PensionHouse", name := "balance", desc := "(II)J" } : Jvm.MethodName)) ∈ jw := jt5 (List.mem_of_getElem? (i := 229) (by decide +kernel)) rfl
set_option maxRecDepth 20000 in
theorem lk_5_230 : (Jvm.Cond.selects "PensionHouse" ({ cls := "PensionHouse", name := "balance", desc := "(II)J" } : Jvm.MethodName) ({ cls := "PensionHouse", name := "balance", desc := "(II)J" } : Jvm.MethodName)) ∈ jw := jt5 (List.mem_of_getElem? (i := 230) (by decide +kernel)) rfl
set_option maxRecDepth 20000 in
theorem lk_5_231 : (Jvm.Cond.code ({ cls := "PensionHouse", name := "balance", desc := "(II)J" } : Jvm.MethodName) prog_1_method_31_code (3 : Nat) (Option.some Jvm.ClassFile.FieldType.long)) ∈ jw := jt5 (List.mem_of_getElem? (i := 231) (by exact rfl)) rfl
set_option maxRecDepth 20000 in
theorem lk_5_232 : (Jvm.Cond.methodLink "PensionHouseLaw" (145 : Nat) ({ cls := "PensionHouse", name := "count", desc := "(I)I" } : Jvm.MethodName)) ∈ jw := jt5 (List.mem_of_getElem? (i := 232) (by decide +kernel)) rfl
set_option maxRecDepth 20000 in
theorem lk_5_233 : (Jvm.Cond.instanceMethod ({ cls := "PensionHouse", name := "count", desc := "(I)I" } : Jvm.MethodName)) ∈ jw := jt5 (List.mem_of_getElem? (i := 233) (by decide +kernel)) rfl
set_option maxRecDepth 20000 in
theorem lk_5_234 : (Jvm.Cond.selects "PensionHouse" ({ cls := "PensionHouse", name := "count", desc := "(I)I" } : Jvm.MethodName) ({ cls := "PensionHouse", name := "count", desc := "(I)I" } : Jvm.MethodName)) ∈ jw := jt5 (List.mem_of_getElem? (i := 234) (by decide +kernel)) rfl
set_option maxRecDepth 20000 in
theorem lk_5_235 : (Jvm.Cond.code ({ cls := "PensionHouse", name := "count", desc := "(I)I" } : Jvm.MethodName) prog_1_method_32_code (2 : Nat) (Option.some Jvm.ClassFile.FieldType.int)) ∈ jw := jt5 (List.mem_of_getElem? (i := 235) (by exact rfl)) rfl
set_option maxRecDepth 20000 in
theorem lk_5_236 : (Jvm.Cond.classLink "PensionHouseLaw" (10 : Nat) "PensionHouseModel") ∈ jw := jt5 (List.mem_of_getElem? (i := 236) (by decide +kernel)) rfl
set_option maxRecDepth 20000 in
theorem lk_5_237 : (Jvm.Cond.instantiable "PensionHouseModel" (89 : Nat)) ∈ jw := jt5 (List.mem_of_getElem? (i := 237) (by decide +kernel)) rfl
set_option maxRecDepth 20000 in
theorem lk_5_238 : (Jvm.Cond.methodLink "PensionHouseLaw" (12 : Nat) ({ cls := "PensionHouseModel", name := "<init>", desc := "()V" } : Jvm.MethodName)) ∈ jw := jt5 (List.mem_of_getElem? (i := 238) (by decide +kernel)) rfl
set_option maxRecDepth 20000 in
theorem lk_5_239 : (Jvm.Cond.instanceMethod ({ cls := "PensionHouseModel", name := "<init>", desc := "()V" } : Jvm.MethodName)) ∈ jw := jt5 (List.mem_of_getElem? (i := 239) (by decide +kernel)) rfl
set_option maxRecDepth 20000 in
theorem lk_6_0 : (Jvm.Cond.code ({ cls := "PensionHouseModel", name := "<init>", desc := "()V" } : Jvm.MethodName) prog_14_method_1_code (1 : Nat) (Option.none : Option Jvm.ClassFile.FieldType)) ∈ jw := jt6 (List.mem_of_getElem? (i := 0) (by exact rfl)) rfl
set_option maxRecDepth 20000 in
theorem lk_6_1 : (Jvm.Cond.methodLink "PensionHouseModel" (1 : Nat) ({ cls := "java/lang/Object", name := "<init>", desc := "()V" } : Jvm.MethodName)) ∈ jw := jt6 (List.mem_of_getElem? (i := 1) (by decide +kernel)) rfl
set_option maxRecDepth 20000 in
theorem lk_6_2 : (Jvm.Cond.fieldLink "PensionHouseModel" (7 : Nat) "PensionHouseModel" "sorts" "[I") ∈ jw := jt6 (List.mem_of_getElem? (i := 2) (by decide +kernel)) rfl
set_option maxRecDepth 20000 in
theorem lk_6_3 : (Jvm.Cond.fieldLink "PensionHouseModel" (13 : Nat) "PensionHouseModel" "lengths" "[I") ∈ jw := jt6 (List.mem_of_getElem? (i := 3) (by decide +kernel)) rfl
set_option maxRecDepth 20000 in
theorem lk_6_4 : (Jvm.Cond.fieldLink "PensionHouseModel" (16 : Nat) "PensionHouseModel" "wholes" "[J") ∈ jw := jt6 (List.mem_of_getElem? (i := 4) (by decide +kernel)) rfl
set_option maxRecDepth 20000 in
theorem lk_6_5 : (Jvm.Cond.fieldLink "PensionHouseModel" (20 : Nat) "PensionHouseModel" "reals" "[D") ∈ jw := jt6 (List.mem_of_getElem? (i := 5) (by decide +kernel)) rfl
set_option maxRecDepth 20000 in
theorem lk_6_6 : (Jvm.Cond.fieldLink "PensionHouseModel" (179 : Nat) "PensionHouseModel" "pool" "I") ∈ jw := jt6 (List.mem_of_getElem? (i := 6) (by decide +kernel)) rfl
set_option maxRecDepth 20000 in
theorem lk_6_7 : (Jvm.Cond.fieldLink "PensionHouseModel" (24 : Nat) "PensionHouseModel" "tape" "[I") ∈ jw := jt6 (List.mem_of_getElem? (i := 7) (by decide +kernel)) rfl
set_option maxRecDepth 20000 in
theorem lk_6_8 : (Jvm.Cond.fieldLink "PensionHouseModel" (290 : Nat) "PensionHouseModel" "taped" "I") ∈ jw := jt6 (List.mem_of_getElem? (i := 8) (by decide +kernel)) rfl
set_option maxRecDepth 20000 in
theorem lk_6_9 : (Jvm.Cond.fieldLink "PensionHouseModel" (27 : Nat) "PensionHouseModel" "kinds" "[I") ∈ jw := jt6 (List.mem_of_getElem? (i := 9) (by decide +kernel)) rfl
set_option maxRecDepth 20000 in
theorem lk_6_10 : (Jvm.Cond.fieldLink "PensionHouseModel" (30 : Nat) "PensionHouseModel" "ats" "[I") ∈ jw := jt6 (List.mem_of_getElem? (i := 10) (by decide +kernel)) rfl
set_option maxRecDepth 20000 in
theorem lk_6_11 : (Jvm.Cond.fieldLink "PensionHouseModel" (33 : Nat) "PensionHouseModel" "values" "[J") ∈ jw := jt6 (List.mem_of_getElem? (i := 11) (by decide +kernel)) rfl
set_option maxRecDepth 20000 in
theorem lk_6_12 : (Jvm.Cond.fieldLink "PensionHouseModel" (36 : Nat) "PensionHouseModel" "scales" "[I") ∈ jw := jt6 (List.mem_of_getElem? (i := 12) (by decide +kernel)) rfl
set_option maxRecDepth 20000 in
theorem lk_6_13 : (Jvm.Cond.fieldLink "PensionHouseModel" (293 : Nat) "PensionHouseModel" "tokens" "I") ∈ jw := jt6 (List.mem_of_getElem? (i := 13) (by decide +kernel)) rfl
set_option maxRecDepth 20000 in
theorem lk_6_14 : (Jvm.Cond.fieldLink "PensionHouseModel" (296 : Nat) "PensionHouseModel" "pos" "I") ∈ jw := jt6 (List.mem_of_getElem? (i := 14) (by decide +kernel)) rfl
set_option maxRecDepth 20000 in
theorem lk_6_15 : (Jvm.Cond.fieldLink "PensionHouseModel" (299 : Nat) "PensionHouseModel" "fault" "I") ∈ jw := jt6 (List.mem_of_getElem? (i := 15) (by decide +kernel)) rfl
set_option maxRecDepth 20000 in
theorem lk_6_16 : (Jvm.Cond.fieldLink "PensionHouseModel" (302 : Nat) "PensionHouseModel" "place" "I") ∈ jw := jt6 (List.mem_of_getElem? (i := 16) (by decide +kernel)) rfl
set_option maxRecDepth 20000 in
theorem lk_6_17 : (Jvm.Cond.fieldLink "PensionHouseModel" (39 : Nat) "PensionHouseModel" "op" "[I") ∈ jw := jt6 (List.mem_of_getElem? (i := 17) (by decide +kernel)) rfl
set_option maxRecDepth 20000 in
theorem lk_6_18 : (Jvm.Cond.fieldLink "PensionHouseModel" (42 : Nat) "PensionHouseModel" "one" "[I") ∈ jw := jt6 (List.mem_of_getElem? (i := 18) (by decide +kernel)) rfl
set_option maxRecDepth 20000 in
theorem lk_6_19 : (Jvm.Cond.fieldLink "PensionHouseModel" (45 : Nat) "PensionHouseModel" "two" "[I") ∈ jw := jt6 (List.mem_of_getElem? (i := 19) (by decide +kernel)) rfl
set_option maxRecDepth 20000 in
theorem lk_6_20 : (Jvm.Cond.fieldLink "PensionHouseModel" (48 : Nat) "PensionHouseModel" "three" "[I") ∈ jw := jt6 (List.mem_of_getElem? (i := 20) (by decide +kernel)) rfl
set_option maxRecDepth 20000 in
theorem lk_6_21 : (Jvm.Cond.fieldLink "PensionHouseModel" (51 : Nat) "PensionHouseModel" "constant" "[J") ∈ jw := jt6 (List.mem_of_getElem? (i := 21) (by decide +kernel)) rfl
set_option maxRecDepth 20000 in
theorem lk_6_22 : (Jvm.Cond.fieldLink "PensionHouseModel" (54 : Nat) "PensionHouseModel" "scale" "[I") ∈ jw := jt6 (List.mem_of_getElem? (i := 22) (by decide +kernel)) rfl
set_option maxRecDepth 20000 in
theorem lk_6_23 : (Jvm.Cond.fieldLink "PensionHouseModel" (57 : Nat) "PensionHouseModel" "nodes" "[I") ∈ jw := jt6 (List.mem_of_getElem? (i := 23) (by decide +kernel)) rfl
set_option maxRecDepth 20000 in
theorem lk_6_24 : (Jvm.Cond.fieldLink "PensionHouseModel" (60 : Nat) "PensionHouseModel" "rules" "[I") ∈ jw := jt6 (List.mem_of_getElem? (i := 24) (by decide +kernel)) rfl
set_option maxRecDepth 20000 in
theorem lk_6_25 : (Jvm.Cond.fieldLink "PensionHouseModel" (63 : Nat) "PensionHouseModel" "ruleNames" "[J") ∈ jw := jt6 (List.mem_of_getElem? (i := 25) (by decide +kernel)) rfl
set_option maxRecDepth 20000 in
theorem lk_6_26 : (Jvm.Cond.fieldLink "PensionHouseModel" (66 : Nat) "PensionHouseModel" "roots" "[I") ∈ jw := jt6 (List.mem_of_getElem? (i := 26) (by decide +kernel)) rfl
set_option maxRecDepth 20000 in
theorem lk_6_27 : (Jvm.Cond.fieldLink "PensionHouseModel" (343 : Nat) "PensionHouseModel" "text" "I") ∈ jw := jt6 (List.mem_of_getElem? (i := 27) (by decide +kernel)) rfl
set_option maxRecDepth 20000 in
theorem lk_6_28 : (Jvm.Cond.fieldLink "PensionHouseModel" (346 : Nat) "PensionHouseModel" "parts" "I") ∈ jw := jt6 (List.mem_of_getElem? (i := 28) (by decide +kernel)) rfl
set_option maxRecDepth 20000 in
theorem lk_6_29 : (Jvm.Cond.fieldLink "PensionHouseModel" (69 : Nat) "PensionHouseModel" "around" "[J") ∈ jw := jt6 (List.mem_of_getElem? (i := 29) (by decide +kernel)) rfl
set_option maxRecDepth 20000 in
theorem lk_6_30 : (Jvm.Cond.fieldLink "PensionHouseModel" (72 : Nat) "PensionHouseModel" "aroundAt" "[I") ∈ jw := jt6 (List.mem_of_getElem? (i := 30) (by decide +kernel)) rfl
set_option maxRecDepth 20000 in
theorem lk_6_31 : (Jvm.Cond.fieldLink "PensionHouseModel" (349 : Nat) "PensionHouseModel" "arounds" "I") ∈ jw := jt6 (List.mem_of_getElem? (i := 31) (by decide +kernel)) rfl
set_option maxRecDepth 20000 in
theorem lk_6_32 : (Jvm.Cond.fieldLink "PensionHouseModel" (424 : Nat) "PensionHouseModel" "caseText" "I") ∈ jw := jt6 (List.mem_of_getElem? (i := 32) (by decide +kernel)) rfl
set_option maxRecDepth 20000 in
theorem lk_6_33 : (Jvm.Cond.fieldLink "PensionHouseModel" (433 : Nat) "PensionHouseModel" "caseMember" "I") ∈ jw := jt6 (List.mem_of_getElem? (i := 33) (by decide +kernel)) rfl
set_option maxRecDepth 20000 in
theorem lk_6_34 : (Jvm.Cond.fieldLink "PensionHouseModel" (436 : Nat) "PensionHouseModel" "caseDay" "I") ∈ jw := jt6 (List.mem_of_getElem? (i := 34) (by decide +kernel)) rfl
set_option maxRecDepth 20000 in
theorem lk_6_35 : (Jvm.Cond.fieldLink "PensionHouseModel" (439 : Nat) "PensionHouseModel" "caseAsOf" "I") ∈ jw := jt6 (List.mem_of_getElem? (i := 35) (by decide +kernel)) rfl
set_option maxRecDepth 20000 in
theorem lk_6_36 : (Jvm.Cond.fieldLink "PensionHouseModel" (412 : Nat) "PensionHouseModel" "rule" "I") ∈ jw := jt6 (List.mem_of_getElem? (i := 36) (by decide +kernel)) rfl
set_option maxRecDepth 20000 in
theorem lk_6_37 : (Jvm.Cond.fieldLink "PensionHouseModel" (418 : Nat) "PensionHouseModel" "work" "I") ∈ jw := jt6 (List.mem_of_getElem? (i := 37) (by decide +kernel)) rfl
set_option maxRecDepth 20000 in
theorem lk_6_38 : (Jvm.Cond.fieldLink "PensionHouseModel" (442 : Nat) "PensionHouseModel" "asked" "I") ∈ jw := jt6 (List.mem_of_getElem? (i := 38) (by decide +kernel)) rfl
set_option maxRecDepth 20000 in
theorem lk_6_39 : (Jvm.Cond.fieldLink "PensionHouseModel" (445 : Nat) "PensionHouseModel" "tries" "I") ∈ jw := jt6 (List.mem_of_getElem? (i := 39) (by decide +kernel)) rfl
set_option maxRecDepth 20000 in
theorem lk_6_40 : (Jvm.Cond.fieldLink "PensionHouseModel" (409 : Nat) "PensionHouseModel" "kind" "I") ∈ jw := jt6 (List.mem_of_getElem? (i := 40) (by decide +kernel)) rfl
set_option maxRecDepth 20000 in
theorem lk_6_41 : (Jvm.Cond.fieldLink "PensionHouseModel" (415 : Nat) "PensionHouseModel" "line" "I") ∈ jw := jt6 (List.mem_of_getElem? (i := 41) (by decide +kernel)) rfl
set_option maxRecDepth 20000 in
theorem lk_6_42 : (Jvm.Cond.fieldLink "PensionHouseModel" (75 : Nat) "PensionHouseModel" "ruleState" "[I") ∈ jw := jt6 (List.mem_of_getElem? (i := 42) (by decide +kernel)) rfl
set_option maxRecDepth 20000 in
theorem lk_6_43 : (Jvm.Cond.fieldLink "PensionHouseModel" (78 : Nat) "PensionHouseModel" "ruleSlot" "[I") ∈ jw := jt6 (List.mem_of_getElem? (i := 43) (by decide +kernel)) rfl
set_option maxRecDepth 20000 in
theorem lk_6_44 : (Jvm.Cond.fieldLink "PensionHouseModel" (81 : Nat) "PensionHouseModel" "ruleKind" "[I") ∈ jw := jt6 (List.mem_of_getElem? (i := 44) (by decide +kernel)) rfl
set_option maxRecDepth 20000 in
theorem lk_6_45 : (Jvm.Cond.fieldLink "PensionHouseModel" (84 : Nat) "PensionHouseModel" "ruleLine" "[I") ∈ jw := jt6 (List.mem_of_getElem? (i := 45) (by decide +kernel)) rfl
set_option maxRecDepth 20000 in
theorem lk_6_46 : (Jvm.Cond.fieldLink "PensionHouseModel" (87 : Nat) "PensionHouseModel" "steps" "[I") ∈ jw := jt6 (List.mem_of_getElem? (i := 46) (by decide +kernel)) rfl
set_option maxRecDepth 20000 in
theorem lk_6_47 : (Jvm.Cond.fieldLink "PensionHouseModel" (430 : Nat) "PensionHouseModel" "stepCount" "I") ∈ jw := jt6 (List.mem_of_getElem? (i := 47) (by decide +kernel)) rfl
set_option maxRecDepth 20000 in
theorem lk_6_48 : (Jvm.Cond.fieldLink "PensionHouseModel" (90 : Nat) "PensionHouseModel" "counters" "[J") ∈ jw := jt6 (List.mem_of_getElem? (i := 48) (by decide +kernel)) rfl
set_option maxRecDepth 20000 in
theorem lk_6_49 : (Jvm.Cond.fieldLink "PensionHouseModel" (93 : Nat) "PensionHouseModel" "used" "[Z") ∈ jw := jt6 (List.mem_of_getElem? (i := 49) (by decide +kernel)) rfl
set_option maxRecDepth 20000 in
theorem lk_6_50 : (Jvm.Cond.fieldLink "PensionHouseModel" (97 : Nat) "PensionHouseModel" "children" "[Z") ∈ jw := jt6 (List.mem_of_getElem? (i := 50) (by decide +kernel)) rfl
set_option maxRecDepth 20000 in
theorem lk_6_51 : (Jvm.Cond.fieldLink "PensionHouseModel" (100 : Nat) "PensionHouseModel" "births" "[I") ∈ jw := jt6 (List.mem_of_getElem? (i := 51) (by decide +kernel)) rfl
set_option maxRecDepth 20000 in
theorem lk_6_52 : (Jvm.Cond.fieldLink "PensionHouseModel" (594 : Nat) "PensionHouseModel" "persons" "I") ∈ jw := jt6 (List.mem_of_getElem? (i := 52) (by decide +kernel)) rfl
set_option maxRecDepth 20000 in
theorem lk_6_53 : (Jvm.Cond.fieldLink "PensionHouseModel" (587 : Nat) "PensionHouseModel" "today" "I") ∈ jw := jt6 (List.mem_of_getElem? (i := 53) (by decide +kernel)) rfl
set_option maxRecDepth 20000 in
theorem lk_6_54 : (Jvm.Cond.fieldLink "PensionHouseModel" (103 : Nat) "PensionHouseModel" "factMember" "[I") ∈ jw := jt6 (List.mem_of_getElem? (i := 54) (by decide +kernel)) rfl
set_option maxRecDepth 20000 in
theorem lk_6_55 : (Jvm.Cond.fieldLink "PensionHouseModel" (106 : Nat) "PensionHouseModel" "factName" "[J") ∈ jw := jt6 (List.mem_of_getElem? (i := 55) (by decide +kernel)) rfl
set_option maxRecDepth 20000 in
theorem lk_6_56 : (Jvm.Cond.fieldLink "PensionHouseModel" (109 : Nat) "PensionHouseModel" "factFrom" "[I") ∈ jw := jt6 (List.mem_of_getElem? (i := 56) (by decide +kernel)) rfl
set_option maxRecDepth 20000 in
theorem lk_6_57 : (Jvm.Cond.fieldLink "PensionHouseModel" (112 : Nat) "PensionHouseModel" "factTo" "[I") ∈ jw := jt6 (List.mem_of_getElem? (i := 57) (by decide +kernel)) rfl
set_option maxRecDepth 20000 in
theorem lk_6_58 : (Jvm.Cond.fieldLink "PensionHouseModel" (115 : Nat) "PensionHouseModel" "factTold" "[I") ∈ jw := jt6 (List.mem_of_getElem? (i := 58) (by decide +kernel)) rfl
set_option maxRecDepth 20000 in
theorem lk_6_59 : (Jvm.Cond.fieldLink "PensionHouseModel" (118 : Nat) "PensionHouseModel" "factVoid" "[I") ∈ jw := jt6 (List.mem_of_getElem? (i := 59) (by decide +kernel)) rfl
set_option maxRecDepth 20000 in
theorem lk_6_60 : (Jvm.Cond.fieldLink "PensionHouseModel" (582 : Nat) "PensionHouseModel" "facts" "I") ∈ jw := jt6 (List.mem_of_getElem? (i := 60) (by decide +kernel)) rfl
set_option maxRecDepth 20000 in
theorem lk_6_61 : (Jvm.Cond.fieldLink "PensionHouseModel" (121 : Nat) "PensionHouseModel" "firsts" "[I") ∈ jw := jt6 (List.mem_of_getElem? (i := 61) (by decide +kernel)) rfl
set_option maxRecDepth 20000 in
theorem lk_6_62 : (Jvm.Cond.fieldLink "PensionHouseModel" (124 : Nat) "PensionHouseModel" "editions" "[I") ∈ jw := jt6 (List.mem_of_getElem? (i := 62) (by decide +kernel)) rfl
set_option maxRecDepth 20000 in
theorem lk_6_63 : (Jvm.Cond.fieldLink "PensionHouseModel" (617 : Nat) "PensionHouseModel" "textFault" "I") ∈ jw := jt6 (List.mem_of_getElem? (i := 63) (by decide +kernel)) rfl
set_option maxRecDepth 20000 in
theorem lk_6_64 : (Jvm.Cond.fieldLink "PensionHouseModel" (127 : Nat) "PensionHouseModel" "toldLine" "I") ∈ jw := jt6 (List.mem_of_getElem? (i := 64) (by decide +kernel)) rfl
set_option maxRecDepth 20000 in
theorem lk_6_65 : (Jvm.Cond.fieldLink "PensionHouseModel" (636 : Nat) "PensionHouseModel" "toldWork" "I") ∈ jw := jt6 (List.mem_of_getElem? (i := 65) (by decide +kernel)) rfl
set_option maxRecDepth 20000 in
theorem lk_6_66 : (Jvm.Cond.fieldLink "PensionHouseModel" (639 : Nat) "PensionHouseModel" "toldSteps" "I") ∈ jw := jt6 (List.mem_of_getElem? (i := 66) (by decide +kernel)) rfl
set_option maxRecDepth 20000 in
theorem lk_6_67 : (Jvm.Cond.fieldLink "PensionHouseModel" (642 : Nat) "PensionHouseModel" "toldAsked" "I") ∈ jw := jt6 (List.mem_of_getElem? (i := 67) (by decide +kernel)) rfl
set_option maxRecDepth 20000 in
theorem lk_6_68 : (Jvm.Cond.fieldLink "PensionHouseModel" (645 : Nat) "PensionHouseModel" "toldTries" "I") ∈ jw := jt6 (List.mem_of_getElem? (i := 68) (by decide +kernel)) rfl
set_option maxRecDepth 20000 in
theorem lk_6_69 : (Jvm.Cond.fieldLink "PensionHouseModel" (131 : Nat) "PensionHouseModel" "keptSteps" "[I") ∈ jw := jt6 (List.mem_of_getElem? (i := 69) (by decide +kernel)) rfl
set_option maxRecDepth 20000 in
theorem lk_6_70 : (Jvm.Cond.fieldLink "PensionHouseModel" (650 : Nat) "PensionHouseModel" "slot" "I") ∈ jw := jt6 (List.mem_of_getElem? (i := 70) (by decide +kernel)) rfl
set_option maxRecDepth 20000 in
theorem lk_6_71 : (Jvm.Cond.fieldLink "PensionHouseModel" (134 : Nat) "PensionHouseModel" "awardMember" "[I") ∈ jw := jt6 (List.mem_of_getElem? (i := 71) (by decide +kernel)) rfl
set_option maxRecDepth 20000 in
theorem lk_6_72 : (Jvm.Cond.fieldLink "PensionHouseModel" (137 : Nat) "PensionHouseModel" "awardScheme" "[I") ∈ jw := jt6 (List.mem_of_getElem? (i := 72) (by decide +kernel)) rfl
set_option maxRecDepth 20000 in
theorem lk_6_73 : (Jvm.Cond.fieldLink "PensionHouseModel" (140 : Nat) "PensionHouseModel" "awardMonth" "[I") ∈ jw := jt6 (List.mem_of_getElem? (i := 73) (by decide +kernel)) rfl
set_option maxRecDepth 20000 in
theorem lk_6_74 : (Jvm.Cond.fieldLink "PensionHouseModel" (667 : Nat) "PensionHouseModel" "awards" "I") ∈ jw := jt6 (List.mem_of_getElem? (i := 74) (by decide +kernel)) rfl
set_option maxRecDepth 20000 in
theorem lk_6_75 : (Jvm.Cond.fieldLink "PensionHouseModel" (143 : Nat) "PensionHouseModel" "cents" "[I") ∈ jw := jt6 (List.mem_of_getElem? (i := 75) (by decide +kernel)) rfl
set_option maxRecDepth 20000 in
theorem lk_6_76 : (Jvm.Cond.fieldLink "PensionHouseModel" (146 : Nat) "PensionHouseModel" "ranks" "[I") ∈ jw := jt6 (List.mem_of_getElem? (i := 76) (by decide +kernel)) rfl
set_option maxRecDepth 20000 in
theorem lk_6_77 : (Jvm.Cond.fieldLink "PensionHouseModel" (149 : Nat) "PensionHouseModel" "deductions" "[I") ∈ jw := jt6 (List.mem_of_getElem? (i := 77) (by decide +kernel)) rfl
set_option maxRecDepth 20000 in
theorem lk_6_78 : (Jvm.Cond.fieldLink "PensionHouseModel" (152 : Nat) "PensionHouseModel" "share" "I") ∈ jw := jt6 (List.mem_of_getElem? (i := 78) (by decide +kernel)) rfl
set_option maxRecDepth 20000 in
theorem lk_6_79 : (Jvm.Cond.fieldLink "PensionHouseModel" (155 : Nat) "PensionHouseModel" "runMonth" "I") ∈ jw := jt6 (List.mem_of_getElem? (i := 79) (by decide +kernel)) rfl
set_option maxRecDepth 20000 in
theorem lk_6_80 : (Jvm.Cond.fieldLink "PensionHouseModel" (158 : Nat) "PensionHouseModel" "running" "[I") ∈ jw := jt6 (List.mem_of_getElem? (i := 80) (by decide +kernel)) rfl
set_option maxRecDepth 20000 in
theorem lk_6_81 : (Jvm.Cond.fieldLink "PensionHouseModel" (681 : Nat) "PensionHouseModel" "runs" "I") ∈ jw := jt6 (List.mem_of_getElem? (i := 81) (by decide +kernel)) rfl
set_option maxRecDepth 20000 in
theorem lk_6_82 : (Jvm.Cond.fieldLink "PensionHouseModel" (678 : Nat) "PensionHouseModel" "ran" "I") ∈ jw := jt6 (List.mem_of_getElem? (i := 82) (by decide +kernel)) rfl
set_option maxRecDepth 20000 in
theorem lk_6_83 : (Jvm.Cond.fieldLink "PensionHouseModel" (161 : Nat) "PensionHouseModel" "payAward" "[I") ∈ jw := jt6 (List.mem_of_getElem? (i := 83) (by decide +kernel)) rfl
set_option maxRecDepth 20000 in
theorem lk_6_84 : (Jvm.Cond.fieldLink "PensionHouseModel" (164 : Nat) "PensionHouseModel" "payMonth" "[I") ∈ jw := jt6 (List.mem_of_getElem? (i := 84) (by decide +kernel)) rfl
set_option maxRecDepth 20000 in
theorem lk_6_85 : (Jvm.Cond.fieldLink "PensionHouseModel" (167 : Nat) "PensionHouseModel" "payNumbers" "[J") ∈ jw := jt6 (List.mem_of_getElem? (i := 85) (by decide +kernel)) rfl
set_option maxRecDepth 20000 in
theorem lk_6_86 : (Jvm.Cond.fieldLink "PensionHouseModel" (170 : Nat) "PensionHouseModel" "payBack" "[Z") ∈ jw := jt6 (List.mem_of_getElem? (i := 86) (by decide +kernel)) rfl
set_option maxRecDepth 20000 in
theorem lk_6_87 : (Jvm.Cond.fieldLink "PensionHouseModel" (173 : Nat) "PensionHouseModel" "payUnclear" "[Z") ∈ jw := jt6 (List.mem_of_getElem? (i := 87) (by decide +kernel)) rfl
set_option maxRecDepth 20000 in
theorem lk_6_88 : (Jvm.Cond.fieldLink "PensionHouseModel" (176 : Nat) "PensionHouseModel" "payTaken" "[I") ∈ jw := jt6 (List.mem_of_getElem? (i := 88) (by decide +kernel)) rfl
set_option maxRecDepth 20000 in
theorem lk_6_89 : (Jvm.Cond.fieldLink "PensionHouseModel" (684 : Nat) "PensionHouseModel" "payments" "I") ∈ jw := jt6 (List.mem_of_getElem? (i := 89) (by decide +kernel)) rfl
set_option maxRecDepth 20000 in
theorem lk_6_90 : (Jvm.Cond.fieldLink "PensionHouseModel" (661 : Nat) "PensionHouseModel" "unclear" "Z") ∈ jw := jt6 (List.mem_of_getElem? (i := 90) (by decide +kernel)) rfl
set_option maxRecDepth 20000 in
theorem lk_6_91 : (Jvm.Cond.laysFinal "PensionHouseModel" "PensionHouseModel" "sorts" "[I") ∈ jw := jt6 (List.mem_of_getElem? (i := 91) (by decide +kernel)) rfl
set_option maxRecDepth 20000 in
theorem lk_6_93 : (Jvm.Cond.laysFinal "PensionHouseModel" "PensionHouseModel" "lengths" "[I") ∈ jw := jt6 (List.mem_of_getElem? (i := 93) (by decide +kernel)) rfl
set_option maxRecDepth 20000 in
theorem lk_6_95 : (Jvm.Cond.laysFinal "PensionHouseModel" "PensionHouseModel" "wholes" "[J") ∈ jw := jt6 (List.mem_of_getElem? (i := 95) (by decide +kernel)) rfl
set_option maxRecDepth 20000 in
theorem lk_6_97 : (Jvm.Cond.laysFinal "PensionHouseModel" "PensionHouseModel" "reals" "[D") ∈ jw := jt6 (List.mem_of_getElem? (i := 97) (by decide +kernel)) rfl
set_option maxRecDepth 20000 in
theorem lk_6_99 : (Jvm.Cond.lays "PensionHouseModel" "PensionHouseModel" "pool" "I") ∈ jw := jt6 (List.mem_of_getElem? (i := 99) (by decide +kernel)) rfl
set_option maxRecDepth 20000 in
theorem lk_6_101 : (Jvm.Cond.laysFinal "PensionHouseModel" "PensionHouseModel" "tape" "[I") ∈ jw := jt6 (List.mem_of_getElem? (i := 101) (by decide +kernel)) rfl
set_option maxRecDepth 20000 in
theorem lk_6_103 : (Jvm.Cond.lays "PensionHouseModel" "PensionHouseModel" "taped" "I") ∈ jw := jt6 (List.mem_of_getElem? (i := 103) (by decide +kernel)) rfl
set_option maxRecDepth 20000 in
theorem lk_6_105 : (Jvm.Cond.laysFinal "PensionHouseModel" "PensionHouseModel" "kinds" "[I") ∈ jw := jt6 (List.mem_of_getElem? (i := 105) (by decide +kernel)) rfl
set_option maxRecDepth 20000 in
theorem lk_6_107 : (Jvm.Cond.laysFinal "PensionHouseModel" "PensionHouseModel" "ats" "[I") ∈ jw := jt6 (List.mem_of_getElem? (i := 107) (by decide +kernel)) rfl
set_option maxRecDepth 20000 in
theorem lk_6_109 : (Jvm.Cond.laysFinal "PensionHouseModel" "PensionHouseModel" "values" "[J") ∈ jw := jt6 (List.mem_of_getElem? (i := 109) (by decide +kernel)) rfl
set_option maxRecDepth 20000 in
theorem lk_6_111 : (Jvm.Cond.laysFinal "PensionHouseModel" "PensionHouseModel" "scales" "[I") ∈ jw := jt6 (List.mem_of_getElem? (i := 111) (by decide +kernel)) rfl
set_option maxRecDepth 20000 in
theorem lk_6_113 : (Jvm.Cond.lays "PensionHouseModel" "PensionHouseModel" "tokens" "I") ∈ jw := jt6 (List.mem_of_getElem? (i := 113) (by decide +kernel)) rfl
set_option maxRecDepth 20000 in
theorem lk_6_115 : (Jvm.Cond.lays "PensionHouseModel" "PensionHouseModel" "pos" "I") ∈ jw := jt6 (List.mem_of_getElem? (i := 115) (by decide +kernel)) rfl
set_option maxRecDepth 20000 in
theorem lk_6_117 : (Jvm.Cond.lays "PensionHouseModel" "PensionHouseModel" "fault" "I") ∈ jw := jt6 (List.mem_of_getElem? (i := 117) (by decide +kernel)) rfl
set_option maxRecDepth 20000 in
theorem lk_6_119 : (Jvm.Cond.lays "PensionHouseModel" "PensionHouseModel" "place" "I") ∈ jw := jt6 (List.mem_of_getElem? (i := 119) (by decide +kernel)) rfl
set_option maxRecDepth 20000 in
theorem lk_6_121 : (Jvm.Cond.laysFinal "PensionHouseModel" "PensionHouseModel" "op" "[I") ∈ jw := jt6 (List.mem_of_getElem? (i := 121) (by decide +kernel)) rfl
set_option maxRecDepth 20000 in
theorem lk_6_123 : (Jvm.Cond.laysFinal "PensionHouseModel" "PensionHouseModel" "one" "[I") ∈ jw := jt6 (List.mem_of_getElem? (i := 123) (by decide +kernel)) rfl
set_option maxRecDepth 20000 in
theorem lk_6_125 : (Jvm.Cond.laysFinal "PensionHouseModel" "PensionHouseModel" "two" "[I") ∈ jw := jt6 (List.mem_of_getElem? (i := 125) (by decide +kernel)) rfl
set_option maxRecDepth 20000 in
theorem lk_6_127 : (Jvm.Cond.laysFinal "PensionHouseModel" "PensionHouseModel" "three" "[I") ∈ jw := jt6 (List.mem_of_getElem? (i := 127) (by decide +kernel)) rfl
set_option maxRecDepth 20000 in
theorem lk_6_129 : (Jvm.Cond.laysFinal "PensionHouseModel" "PensionHouseModel" "constant" "[J") ∈ jw := jt6 (List.mem_of_getElem? (i := 129) (by decide +kernel)) rfl
set_option maxRecDepth 20000 in
theorem lk_6_131 : (Jvm.Cond.laysFinal "PensionHouseModel" "PensionHouseModel" "scale" "[I") ∈ jw := jt6 (List.mem_of_getElem? (i := 131) (by decide +kernel)) rfl
set_option maxRecDepth 20000 in
theorem lk_6_133 : (Jvm.Cond.laysFinal "PensionHouseModel" "PensionHouseModel" "nodes" "[I") ∈ jw := jt6 (List.mem_of_getElem? (i := 133) (by decide +kernel)) rfl
set_option maxRecDepth 20000 in
theorem lk_6_135 : (Jvm.Cond.laysFinal "PensionHouseModel" "PensionHouseModel" "rules" "[I") ∈ jw := jt6 (List.mem_of_getElem? (i := 135) (by decide +kernel)) rfl
set_option maxRecDepth 20000 in
theorem lk_6_137 : (Jvm.Cond.laysFinal "PensionHouseModel" "PensionHouseModel" "ruleNames" "[J") ∈ jw := jt6 (List.mem_of_getElem? (i := 137) (by decide +kernel)) rfl
set_option maxRecDepth 20000 in
theorem lk_6_139 : (Jvm.Cond.laysFinal "PensionHouseModel" "PensionHouseModel" "roots" "[I") ∈ jw := jt6 (List.mem_of_getElem? (i := 139) (by decide +kernel)) rfl
set_option maxRecDepth 20000 in
theorem lk_6_141 : (Jvm.Cond.lays "PensionHouseModel" "PensionHouseModel" "text" "I") ∈ jw := jt6 (List.mem_of_getElem? (i := 141) (by decide +kernel)) rfl
set_option maxRecDepth 20000 in
theorem lk_6_143 : (Jvm.Cond.lays "PensionHouseModel" "PensionHouseModel" "parts" "I") ∈ jw := jt6 (List.mem_of_getElem? (i := 143) (by decide +kernel)) rfl
set_option maxRecDepth 20000 in
theorem lk_6_145 : (Jvm.Cond.laysFinal "PensionHouseModel" "PensionHouseModel" "around" "[J") ∈ jw := jt6 (List.mem_of_getElem? (i := 145) (by decide +kernel)) rfl
set_option maxRecDepth 20000 in
theorem lk_6_147 : (Jvm.Cond.laysFinal "PensionHouseModel" "PensionHouseModel" "aroundAt" "[I") ∈ jw := jt6 (List.mem_of_getElem? (i := 147) (by decide +kernel)) rfl
set_option maxRecDepth 20000 in
theorem lk_6_149 : (Jvm.Cond.lays "PensionHouseModel" "PensionHouseModel" "arounds" "I") ∈ jw := jt6 (List.mem_of_getElem? (i := 149) (by decide +kernel)) rfl
set_option maxRecDepth 20000 in
theorem lk_6_151 : (Jvm.Cond.lays "PensionHouseModel" "PensionHouseModel" "caseText" "I") ∈ jw := jt6 (List.mem_of_getElem? (i := 151) (by decide +kernel)) rfl
set_option maxRecDepth 20000 in
theorem lk_6_153 : (Jvm.Cond.lays "PensionHouseModel" "PensionHouseModel" "caseMember" "I") ∈ jw := jt6 (List.mem_of_getElem? (i := 153) (by decide +kernel)) rfl
set_option maxRecDepth 20000 in
theorem lk_6_155 : (Jvm.Cond.lays "PensionHouseModel" "PensionHouseModel" "caseDay" "I") ∈ jw := jt6 (List.mem_of_getElem? (i := 155) (by decide +kernel)) rfl
set_option maxRecDepth 20000 in
theorem lk_6_157 : (Jvm.Cond.lays "PensionHouseModel" "PensionHouseModel" "caseAsOf" "I") ∈ jw := jt6 (List.mem_of_getElem? (i := 157) (by decide +kernel)) rfl
set_option maxRecDepth 20000 in
theorem lk_6_159 : (Jvm.Cond.lays "PensionHouseModel" "PensionHouseModel" "rule" "I") ∈ jw := jt6 (List.mem_of_getElem? (i := 159) (by decide +kernel)) rfl
set_option maxRecDepth 20000 in
theorem lk_6_161 : (Jvm.Cond.lays "PensionHouseModel" "PensionHouseModel" "work" "I") ∈ jw := jt6 (List.mem_of_getElem? (i := 161) (by decide +kernel)) rfl
set_option maxRecDepth 20000 in
theorem lk_6_163 : (Jvm.Cond.lays "PensionHouseModel" "PensionHouseModel" "asked" "I") ∈ jw := jt6 (List.mem_of_getElem? (i := 163) (by decide +kernel)) rfl
set_option maxRecDepth 20000 in
theorem lk_6_165 : (Jvm.Cond.lays "PensionHouseModel" "PensionHouseModel" "tries" "I") ∈ jw := jt6 (List.mem_of_getElem? (i := 165) (by decide +kernel)) rfl
set_option maxRecDepth 20000 in
theorem lk_6_167 : (Jvm.Cond.lays "PensionHouseModel" "PensionHouseModel" "kind" "I") ∈ jw := jt6 (List.mem_of_getElem? (i := 167) (by decide +kernel)) rfl
set_option maxRecDepth 20000 in
theorem lk_6_169 : (Jvm.Cond.lays "PensionHouseModel" "PensionHouseModel" "line" "I") ∈ jw := jt6 (List.mem_of_getElem? (i := 169) (by decide +kernel)) rfl
set_option maxRecDepth 20000 in
theorem lk_6_171 : (Jvm.Cond.laysFinal "PensionHouseModel" "PensionHouseModel" "ruleState" "[I") ∈ jw := jt6 (List.mem_of_getElem? (i := 171) (by decide +kernel)) rfl
set_option maxRecDepth 20000 in
theorem lk_6_173 : (Jvm.Cond.laysFinal "PensionHouseModel" "PensionHouseModel" "ruleSlot" "[I") ∈ jw := jt6 (List.mem_of_getElem? (i := 173) (by decide +kernel)) rfl
set_option maxRecDepth 20000 in
theorem lk_6_175 : (Jvm.Cond.laysFinal "PensionHouseModel" "PensionHouseModel" "ruleKind" "[I") ∈ jw := jt6 (List.mem_of_getElem? (i := 175) (by decide +kernel)) rfl
set_option maxRecDepth 20000 in
theorem lk_6_177 : (Jvm.Cond.laysFinal "PensionHouseModel" "PensionHouseModel" "ruleLine" "[I") ∈ jw := jt6 (List.mem_of_getElem? (i := 177) (by decide +kernel)) rfl
set_option maxRecDepth 20000 in
theorem lk_6_179 : (Jvm.Cond.laysFinal "PensionHouseModel" "PensionHouseModel" "steps" "[I") ∈ jw := jt6 (List.mem_of_getElem? (i := 179) (by decide +kernel)) rfl
set_option maxRecDepth 20000 in
theorem lk_6_181 : (Jvm.Cond.lays "PensionHouseModel" "PensionHouseModel" "stepCount" "I") ∈ jw := jt6 (List.mem_of_getElem? (i := 181) (by decide +kernel)) rfl
set_option maxRecDepth 20000 in
theorem lk_6_183 : (Jvm.Cond.laysFinal "PensionHouseModel" "PensionHouseModel" "counters" "[J") ∈ jw := jt6 (List.mem_of_getElem? (i := 183) (by decide +kernel)) rfl
set_option maxRecDepth 20000 in
theorem lk_6_185 : (Jvm.Cond.laysFinal "PensionHouseModel" "PensionHouseModel" "used" "[Z") ∈ jw := jt6 (List.mem_of_getElem? (i := 185) (by decide +kernel)) rfl
set_option maxRecDepth 20000 in
theorem lk_6_187 : (Jvm.Cond.laysFinal "PensionHouseModel" "PensionHouseModel" "children" "[Z") ∈ jw := jt6 (List.mem_of_getElem? (i := 187) (by decide +kernel)) rfl
set_option maxRecDepth 20000 in
theorem lk_6_189 : (Jvm.Cond.laysFinal "PensionHouseModel" "PensionHouseModel" "births" "[I") ∈ jw := jt6 (List.mem_of_getElem? (i := 189) (by decide +kernel)) rfl
set_option maxRecDepth 20000 in
theorem lk_6_191 : (Jvm.Cond.lays "PensionHouseModel" "PensionHouseModel" "persons" "I") ∈ jw := jt6 (List.mem_of_getElem? (i := 191) (by decide +kernel)) rfl
set_option maxRecDepth 20000 in
theorem lk_6_193 : (Jvm.Cond.lays "PensionHouseModel" "PensionHouseModel" "today" "I") ∈ jw := jt6 (List.mem_of_getElem? (i := 193) (by decide +kernel)) rfl
set_option maxRecDepth 20000 in
theorem lk_6_195 : (Jvm.Cond.laysFinal "PensionHouseModel" "PensionHouseModel" "factMember" "[I") ∈ jw := jt6 (List.mem_of_getElem? (i := 195) (by decide +kernel)) rfl
set_option maxRecDepth 20000 in
theorem lk_6_197 : (Jvm.Cond.laysFinal "PensionHouseModel" "PensionHouseModel" "factName" "[J") ∈ jw := jt6 (List.mem_of_getElem? (i := 197) (by decide +kernel)) rfl
set_option maxRecDepth 20000 in
theorem lk_6_199 : (Jvm.Cond.laysFinal "PensionHouseModel" "PensionHouseModel" "factFrom" "[I") ∈ jw := jt6 (List.mem_of_getElem? (i := 199) (by decide +kernel)) rfl
set_option maxRecDepth 20000 in
theorem lk_6_201 : (Jvm.Cond.laysFinal "PensionHouseModel" "PensionHouseModel" "factTo" "[I") ∈ jw := jt6 (List.mem_of_getElem? (i := 201) (by decide +kernel)) rfl
set_option maxRecDepth 20000 in
theorem lk_6_203 : (Jvm.Cond.laysFinal "PensionHouseModel" "PensionHouseModel" "factTold" "[I") ∈ jw := jt6 (List.mem_of_getElem? (i := 203) (by decide +kernel)) rfl
set_option maxRecDepth 20000 in
theorem lk_6_205 : (Jvm.Cond.laysFinal "PensionHouseModel" "PensionHouseModel" "factVoid" "[I") ∈ jw := jt6 (List.mem_of_getElem? (i := 205) (by decide +kernel)) rfl
set_option maxRecDepth 20000 in
theorem lk_6_207 : (Jvm.Cond.lays "PensionHouseModel" "PensionHouseModel" "facts" "I") ∈ jw := jt6 (List.mem_of_getElem? (i := 207) (by decide +kernel)) rfl
set_option maxRecDepth 20000 in
theorem lk_6_209 : (Jvm.Cond.laysFinal "PensionHouseModel" "PensionHouseModel" "firsts" "[I") ∈ jw := jt6 (List.mem_of_getElem? (i := 209) (by decide +kernel)) rfl
set_option maxRecDepth 20000 in
theorem lk_6_211 : (Jvm.Cond.laysFinal "PensionHouseModel" "PensionHouseModel" "editions" "[I") ∈ jw := jt6 (List.mem_of_getElem? (i := 211) (by decide +kernel)) rfl
set_option maxRecDepth 20000 in
theorem lk_6_213 : (Jvm.Cond.lays "PensionHouseModel" "PensionHouseModel" "textFault" "I") ∈ jw := jt6 (List.mem_of_getElem? (i := 213) (by decide +kernel)) rfl
set_option maxRecDepth 20000 in
theorem lk_6_215 : (Jvm.Cond.lays "PensionHouseModel" "PensionHouseModel" "toldLine" "I") ∈ jw := jt6 (List.mem_of_getElem? (i := 215) (by decide +kernel)) rfl
set_option maxRecDepth 20000 in
theorem lk_6_217 : (Jvm.Cond.lays "PensionHouseModel" "PensionHouseModel" "toldWork" "I") ∈ jw := jt6 (List.mem_of_getElem? (i := 217) (by decide +kernel)) rfl
set_option maxRecDepth 20000 in
theorem lk_6_219 : (Jvm.Cond.lays "PensionHouseModel" "PensionHouseModel" "toldSteps" "I") ∈ jw := jt6 (List.mem_of_getElem? (i := 219) (by decide +kernel)) rfl
set_option maxRecDepth 20000 in
theorem lk_6_221 : (Jvm.Cond.lays "PensionHouseModel" "PensionHouseModel" "toldAsked" "I") ∈ jw := jt6 (List.mem_of_getElem? (i := 221) (by decide +kernel)) rfl
set_option maxRecDepth 20000 in
theorem lk_6_223 : (Jvm.Cond.lays "PensionHouseModel" "PensionHouseModel" "toldTries" "I") ∈ jw := jt6 (List.mem_of_getElem? (i := 223) (by decide +kernel)) rfl
set_option maxRecDepth 20000 in
theorem lk_6_225 : (Jvm.Cond.laysFinal "PensionHouseModel" "PensionHouseModel" "keptSteps" "[I") ∈ jw := jt6 (List.mem_of_getElem? (i := 225) (by decide +kernel)) rfl
set_option maxRecDepth 20000 in
theorem lk_6_227 : (Jvm.Cond.lays "PensionHouseModel" "PensionHouseModel" "slot" "I") ∈ jw := jt6 (List.mem_of_getElem? (i := 227) (by decide +kernel)) rfl
set_option maxRecDepth 20000 in
theorem lk_6_229 : (Jvm.Cond.laysFinal "PensionHouseModel" "PensionHouseModel" "awardMember" "[I") ∈ jw := jt6 (List.mem_of_getElem? (i := 229) (by decide +kernel)) rfl
set_option maxRecDepth 20000 in
theorem lk_6_231 : (Jvm.Cond.laysFinal "PensionHouseModel" "PensionHouseModel" "awardScheme" "[I") ∈ jw := jt6 (List.mem_of_getElem? (i := 231) (by decide +kernel)) rfl
set_option maxRecDepth 20000 in
theorem lk_6_233 : (Jvm.Cond.laysFinal "PensionHouseModel" "PensionHouseModel" "awardMonth" "[I") ∈ jw := jt6 (List.mem_of_getElem? (i := 233) (by decide +kernel)) rfl
set_option maxRecDepth 20000 in
theorem lk_6_235 : (Jvm.Cond.lays "PensionHouseModel" "PensionHouseModel" "awards" "I") ∈ jw := jt6 (List.mem_of_getElem? (i := 235) (by decide +kernel)) rfl
set_option maxRecDepth 20000 in
theorem lk_6_237 : (Jvm.Cond.laysFinal "PensionHouseModel" "PensionHouseModel" "cents" "[I") ∈ jw := jt6 (List.mem_of_getElem? (i := 237) (by decide +kernel)) rfl
set_option maxRecDepth 20000 in
theorem lk_6_239 : (Jvm.Cond.laysFinal "PensionHouseModel" "PensionHouseModel" "ranks" "[I") ∈ jw := jt6 (List.mem_of_getElem? (i := 239) (by decide +kernel)) rfl
set_option maxRecDepth 20000 in
theorem lk_7_1 : (Jvm.Cond.laysFinal "PensionHouseModel" "PensionHouseModel" "deductions" "[I") ∈ jw := jt7 (List.mem_of_getElem? (i := 1) (by decide +kernel)) rfl
set_option maxRecDepth 20000 in
theorem lk_7_3 : (Jvm.Cond.lays "PensionHouseModel" "PensionHouseModel" "share" "I") ∈ jw := jt7 (List.mem_of_getElem? (i := 3) (by decide +kernel)) rfl
set_option maxRecDepth 20000 in
theorem lk_7_5 : (Jvm.Cond.lays "PensionHouseModel" "PensionHouseModel" "runMonth" "I") ∈ jw := jt7 (List.mem_of_getElem? (i := 5) (by decide +kernel)) rfl
set_option maxRecDepth 20000 in
theorem lk_7_7 : (Jvm.Cond.laysFinal "PensionHouseModel" "PensionHouseModel" "running" "[I") ∈ jw := jt7 (List.mem_of_getElem? (i := 7) (by decide +kernel)) rfl
set_option maxRecDepth 20000 in
theorem lk_7_9 : (Jvm.Cond.lays "PensionHouseModel" "PensionHouseModel" "runs" "I") ∈ jw := jt7 (List.mem_of_getElem? (i := 9) (by decide +kernel)) rfl
set_option maxRecDepth 20000 in
theorem lk_7_11 : (Jvm.Cond.lays "PensionHouseModel" "PensionHouseModel" "ran" "I") ∈ jw := jt7 (List.mem_of_getElem? (i := 11) (by decide +kernel)) rfl
set_option maxRecDepth 20000 in
theorem lk_7_13 : (Jvm.Cond.laysFinal "PensionHouseModel" "PensionHouseModel" "payAward" "[I") ∈ jw := jt7 (List.mem_of_getElem? (i := 13) (by decide +kernel)) rfl
set_option maxRecDepth 20000 in
theorem lk_7_15 : (Jvm.Cond.laysFinal "PensionHouseModel" "PensionHouseModel" "payMonth" "[I") ∈ jw := jt7 (List.mem_of_getElem? (i := 15) (by decide +kernel)) rfl
set_option maxRecDepth 20000 in
theorem lk_7_17 : (Jvm.Cond.laysFinal "PensionHouseModel" "PensionHouseModel" "payNumbers" "[J") ∈ jw := jt7 (List.mem_of_getElem? (i := 17) (by decide +kernel)) rfl
set_option maxRecDepth 20000 in
theorem lk_7_19 : (Jvm.Cond.laysFinal "PensionHouseModel" "PensionHouseModel" "payBack" "[Z") ∈ jw := jt7 (List.mem_of_getElem? (i := 19) (by decide +kernel)) rfl
set_option maxRecDepth 20000 in
theorem lk_7_21 : (Jvm.Cond.laysFinal "PensionHouseModel" "PensionHouseModel" "payUnclear" "[Z") ∈ jw := jt7 (List.mem_of_getElem? (i := 21) (by decide +kernel)) rfl
set_option maxRecDepth 20000 in
theorem lk_7_23 : (Jvm.Cond.laysFinal "PensionHouseModel" "PensionHouseModel" "payTaken" "[I") ∈ jw := jt7 (List.mem_of_getElem? (i := 23) (by decide +kernel)) rfl
set_option maxRecDepth 20000 in
theorem lk_7_25 : (Jvm.Cond.lays "PensionHouseModel" "PensionHouseModel" "payments" "I") ∈ jw := jt7 (List.mem_of_getElem? (i := 25) (by decide +kernel)) rfl
set_option maxRecDepth 20000 in
theorem lk_7_27 : (Jvm.Cond.lays "PensionHouseModel" "PensionHouseModel" "unclear" "Z") ∈ jw := jt7 (List.mem_of_getElem? (i := 27) (by decide +kernel)) rfl
set_option maxRecDepth 20000 in
theorem lk_7_30 : (Jvm.Cond.arrayClass Jvm.ClassFile.FieldType.double) ∈ jw := jt7 (List.mem_of_getElem? (i := 30) (by decide +kernel)) rfl
set_option maxRecDepth 20000 in
theorem lk_7_31 : (Jvm.Cond.methodLink "PensionHouseLaw" (19 : Nat) ({ cls := "PensionHouseModel", name := "feed", desc := "(JI)I" } : Jvm.MethodName)) ∈ jw := jt7 (List.mem_of_getElem? (i := 31) (by decide +kernel)) rfl
set_option maxRecDepth 20000 in
theorem lk_7_32 : (Jvm.Cond.instanceMethod ({ cls := "PensionHouseModel", name := "feed", desc := "(JI)I" } : Jvm.MethodName)) ∈ jw := jt7 (List.mem_of_getElem? (i := 32) (by decide +kernel)) rfl
set_option maxRecDepth 20000 in
theorem lk_7_33 : (Jvm.Cond.selects "PensionHouseModel" ({ cls := "PensionHouseModel", name := "feed", desc := "(JI)I" } : Jvm.MethodName) ({ cls := "PensionHouseModel", name := "feed", desc := "(JI)I" } : Jvm.MethodName)) ∈ jw := jt7 (List.mem_of_getElem? (i := 33) (by decide +kernel)) rfl
set_option maxRecDepth 20000 in
theorem lk_7_34 : (Jvm.Cond.code ({ cls := "PensionHouseModel", name := "feed", desc := "(JI)I" } : Jvm.MethodName) prog_14_method_80_code (5 : Nat) (Option.some Jvm.ClassFile.FieldType.int)) ∈ jw := jt7 (List.mem_of_getElem? (i := 34) (by exact rfl)) rfl
set_option maxRecDepth 20000 in
theorem lk_7_35 : (Jvm.Cond.constantLong "PensionHouseModel" (585 : Nat) (8 : Int64)) ∈ jw := jt7 (List.mem_of_getElem? (i := 35) (by decide +kernel)) rfl
set_option maxRecDepth 20000 in
theorem lk_7_36 : (Jvm.Cond.methodLink "PensionHouseModel" (551 : Nat) ({ cls := "PensionHouseModel", name := "in", desc := "(JJJ)Z" } : Jvm.MethodName)) ∈ jw := jt7 (List.mem_of_getElem? (i := 36) (by decide +kernel)) rfl
set_option maxRecDepth 20000 in
theorem lk_7_37 : (Jvm.Cond.static ({ cls := "PensionHouseModel", name := "in", desc := "(JJJ)Z" } : Jvm.MethodName)) ∈ jw := jt7 (List.mem_of_getElem? (i := 37) (by decide +kernel)) rfl
set_option maxRecDepth 20000 in
theorem lk_7_38 : (Jvm.Cond.code ({ cls := "PensionHouseModel", name := "in", desc := "(JJJ)Z" } : Jvm.MethodName) prog_14_method_10_code (6 : Nat) (Option.some Jvm.ClassFile.FieldType.boolean)) ∈ jw := jt7 (List.mem_of_getElem? (i := 38) (by exact rfl)) rfl
set_option maxRecDepth 20000 in
theorem lk_7_39 : (Jvm.Cond.methodLink "PensionHouseLaw" (24 : Nat) ({ cls := "PensionHouseModel", name := "cut", desc := "(I)I" } : Jvm.MethodName)) ∈ jw := jt7 (List.mem_of_getElem? (i := 39) (by decide +kernel)) rfl
set_option maxRecDepth 20000 in
theorem lk_7_40 : (Jvm.Cond.instanceMethod ({ cls := "PensionHouseModel", name := "cut", desc := "(I)I" } : Jvm.MethodName)) ∈ jw := jt7 (List.mem_of_getElem? (i := 40) (by decide +kernel)) rfl
set_option maxRecDepth 20000 in
theorem lk_7_41 : (Jvm.Cond.selects "PensionHouseModel" ({ cls := "PensionHouseModel", name := "cut", desc := "(I)I" } : Jvm.MethodName) ({ cls := "PensionHouseModel", name := "cut", desc := "(I)I" } : Jvm.MethodName)) ∈ jw := jt7 (List.mem_of_getElem? (i := 41) (by decide +kernel)) rfl
set_option maxRecDepth 20000 in
theorem lk_7_42 : (Jvm.Cond.code ({ cls := "PensionHouseModel", name := "cut", desc := "(I)I" } : Jvm.MethodName) prog_14_method_81_code (3 : Nat) (Option.some Jvm.ClassFile.FieldType.int)) ∈ jw := jt7 (List.mem_of_getElem? (i := 42) (by exact rfl)) rfl
set_option maxRecDepth 20000 in
theorem lk_7_43 : (Jvm.Cond.methodLink "PensionHouseLaw" (28 : Nat) ({ cls := "PensionHouseModel", name := "clock", desc := "(I)I" } : Jvm.MethodName)) ∈ jw := jt7 (List.mem_of_getElem? (i := 43) (by decide +kernel)) rfl
set_option maxRecDepth 20000 in
theorem lk_7_44 : (Jvm.Cond.instanceMethod ({ cls := "PensionHouseModel", name := "clock", desc := "(I)I" } : Jvm.MethodName)) ∈ jw := jt7 (List.mem_of_getElem? (i := 44) (by decide +kernel)) rfl
set_option maxRecDepth 20000 in
theorem lk_7_45 : (Jvm.Cond.selects "PensionHouseModel" ({ cls := "PensionHouseModel", name := "clock", desc := "(I)I" } : Jvm.MethodName) ({ cls := "PensionHouseModel", name := "clock", desc := "(I)I" } : Jvm.MethodName)) ∈ jw := jt7 (List.mem_of_getElem? (i := 45) (by decide +kernel)) rfl
set_option maxRecDepth 20000 in
theorem lk_7_46 : (Jvm.Cond.code ({ cls := "PensionHouseModel", name := "clock", desc := "(I)I" } : Jvm.MethodName) prog_14_method_82_code (2 : Nat) (Option.some Jvm.ClassFile.FieldType.int)) ∈ jw := jt7 (List.mem_of_getElem? (i := 46) (by exact rfl)) rfl
set_option maxRecDepth 20000 in
theorem lk_7_47 : (Jvm.Cond.constantLong "PensionHouseModel" (590 : Nat) (389 : Int64)) ∈ jw := jt7 (List.mem_of_getElem? (i := 47) (by decide +kernel)) rfl
set_option maxRecDepth 20000 in
theorem lk_7_48 : (Jvm.Cond.methodLink "PensionHouseLaw" (33 : Nat) ({ cls := "PensionHouseModel", name := "person", desc := "(ZI)I" } : Jvm.MethodName)) ∈ jw := jt7 (List.mem_of_getElem? (i := 48) (by decide +kernel)) rfl
set_option maxRecDepth 20000 in
theorem lk_7_49 : (Jvm.Cond.instanceMethod ({ cls := "PensionHouseModel", name := "person", desc := "(ZI)I" } : Jvm.MethodName)) ∈ jw := jt7 (List.mem_of_getElem? (i := 49) (by decide +kernel)) rfl
set_option maxRecDepth 20000 in
theorem lk_7_50 : (Jvm.Cond.selects "PensionHouseModel" ({ cls := "PensionHouseModel", name := "person", desc := "(ZI)I" } : Jvm.MethodName) ({ cls := "PensionHouseModel", name := "person", desc := "(ZI)I" } : Jvm.MethodName)) ∈ jw := jt7 (List.mem_of_getElem? (i := 50) (by decide +kernel)) rfl
set_option maxRecDepth 20000 in
theorem lk_7_51 : (Jvm.Cond.code ({ cls := "PensionHouseModel", name := "person", desc := "(ZI)I" } : Jvm.MethodName) prog_14_method_83_code (3 : Nat) (Option.some Jvm.ClassFile.FieldType.int)) ∈ jw := jt7 (List.mem_of_getElem? (i := 51) (by exact rfl)) rfl
set_option maxRecDepth 20000 in
theorem lk_7_52 : (Jvm.Cond.constantLong "PensionHouseModel" (592 : Nat) (-40000 : Int64)) ∈ jw := jt7 (List.mem_of_getElem? (i := 52) (by decide +kernel)) rfl
set_option maxRecDepth 20000 in
theorem lk_7_53 : (Jvm.Cond.methodLink "PensionHouseLaw" (38 : Nat) ({ cls := "PensionHouseModel", name := "desk", desc := "(II)I" } : Jvm.MethodName)) ∈ jw := jt7 (List.mem_of_getElem? (i := 53) (by decide +kernel)) rfl
set_option maxRecDepth 20000 in
theorem lk_7_54 : (Jvm.Cond.instanceMethod ({ cls := "PensionHouseModel", name := "desk", desc := "(II)I" } : Jvm.MethodName)) ∈ jw := jt7 (List.mem_of_getElem? (i := 54) (by decide +kernel)) rfl
set_option maxRecDepth 20000 in
theorem lk_7_55 : (Jvm.Cond.selects "PensionHouseModel" ({ cls := "PensionHouseModel", name := "desk", desc := "(II)I" } : Jvm.MethodName) ({ cls := "PensionHouseModel", name := "desk", desc := "(II)I" } : Jvm.MethodName)) ∈ jw := jt7 (List.mem_of_getElem? (i := 55) (by decide +kernel)) rfl
set_option maxRecDepth 20000 in
theorem lk_7_56 : (Jvm.Cond.code ({ cls := "PensionHouseModel", name := "desk", desc := "(II)I" } : Jvm.MethodName) prog_14_method_84_code (3 : Nat) (Option.some Jvm.ClassFile.FieldType.int)) ∈ jw := jt7 (List.mem_of_getElem? (i := 56) (by exact rfl)) rfl
set_option maxRecDepth 20000 in
theorem lk_7_57 : (Jvm.Cond.constantLong "PensionHouseModel" (597 : Nat) (7 : Int64)) ∈ jw := jt7 (List.mem_of_getElem? (i := 57) (by decide +kernel)) rfl
set_option maxRecDepth 20000 in
theorem lk_7_58 : (Jvm.Cond.constantLong "PensionHouseModel" (570 : Nat) (12 : Int64)) ∈ jw := jt7 (List.mem_of_getElem? (i := 58) (by decide +kernel)) rfl
set_option maxRecDepth 20000 in
theorem lk_7_59 : (Jvm.Cond.methodLink "PensionHouseModel" (182 : Nat) ({ cls := "PensionHouseModel", name := "shape", desc := "(III)V" } : Jvm.MethodName)) ∈ jw := jt7 (List.mem_of_getElem? (i := 59) (by decide +kernel)) rfl
set_option maxRecDepth 20000 in
theorem lk_7_61 : (Jvm.Cond.instanceMethod ({ cls := "PensionHouseModel", name := "shape", desc := "(III)V" } : Jvm.MethodName)) ∈ jw := jt7 (List.mem_of_getElem? (i := 61) (by decide +kernel)) rfl
set_option maxRecDepth 20000 in
theorem lk_7_62 : (Jvm.Cond.code ({ cls := "PensionHouseModel", name := "shape", desc := "(III)V" } : Jvm.MethodName) prog_14_method_4_code (5 : Nat) (Option.none : Option Jvm.ClassFile.FieldType)) ∈ jw := jt7 (List.mem_of_getElem? (i := 62) (by exact rfl)) rfl
set_option maxRecDepth 20000 in
theorem lk_7_63 : (Jvm.Cond.methodLink "PensionHouseModel" (186 : Nat) ({ cls := "PensionHouseModel", name := "isKin", desc := "(I)Z" } : Jvm.MethodName)) ∈ jw := jt7 (List.mem_of_getElem? (i := 63) (by decide +kernel)) rfl
set_option maxRecDepth 20000 in
theorem lk_7_64 : (Jvm.Cond.static ({ cls := "PensionHouseModel", name := "isKin", desc := "(I)Z" } : Jvm.MethodName)) ∈ jw := jt7 (List.mem_of_getElem? (i := 64) (by decide +kernel)) rfl
set_option maxRecDepth 20000 in
theorem lk_7_65 : (Jvm.Cond.code ({ cls := "PensionHouseModel", name := "isKin", desc := "(I)Z" } : Jvm.MethodName) prog_14_method_7_code (1 : Nat) (Option.some Jvm.ClassFile.FieldType.boolean)) ∈ jw := jt7 (List.mem_of_getElem? (i := 65) (by exact rfl)) rfl
set_option maxRecDepth 20000 in
theorem lk_7_66 : (Jvm.Cond.constantLong "PensionHouseModel" (190 : Nat) (-1 : Int64)) ∈ jw := jt7 (List.mem_of_getElem? (i := 66) (by decide +kernel)) rfl
set_option maxRecDepth 20000 in
theorem lk_7_67 : (Jvm.Cond.methodLink "PensionHouseLaw" (43 : Nat) ({ cls := "PensionHouseModel", name := "write", desc := "(IJ)I" } : Jvm.MethodName)) ∈ jw := jt7 (List.mem_of_getElem? (i := 67) (by decide +kernel)) rfl
set_option maxRecDepth 20000 in
theorem lk_7_68 : (Jvm.Cond.instanceMethod ({ cls := "PensionHouseModel", name := "write", desc := "(IJ)I" } : Jvm.MethodName)) ∈ jw := jt7 (List.mem_of_getElem? (i := 68) (by decide +kernel)) rfl
set_option maxRecDepth 20000 in
theorem lk_7_69 : (Jvm.Cond.selects "PensionHouseModel" ({ cls := "PensionHouseModel", name := "write", desc := "(IJ)I" } : Jvm.MethodName) ({ cls := "PensionHouseModel", name := "write", desc := "(IJ)I" } : Jvm.MethodName)) ∈ jw := jt7 (List.mem_of_getElem? (i := 69) (by decide +kernel)) rfl
set_option maxRecDepth 20000 in
theorem lk_7_70 : (Jvm.Cond.code ({ cls := "PensionHouseModel", name := "write", desc := "(IJ)I" } : Jvm.MethodName) prog_14_method_85_code (6 : Nat) (Option.some Jvm.ClassFile.FieldType.int)) ∈ jw := jt7 (List.mem_of_getElem? (i := 70) (by exact rfl)) rfl
set_option maxRecDepth 20000 in
theorem lk_7_71 : (Jvm.Cond.constantLong "PensionHouseModel" (238 : Nat) (2 : Int64)) ∈ jw := jt7 (List.mem_of_getElem? (i := 71) (by decide +kernel)) rfl
set_option maxRecDepth 20000 in
theorem lk_7_72 : (Jvm.Cond.constantLong "PensionHouseModel" (599 : Nat) (4 : Int64)) ∈ jw := jt7 (List.mem_of_getElem? (i := 72) (by decide +kernel)) rfl
set_option maxRecDepth 20000 in
theorem lk_7_73 : (Jvm.Cond.methodLink "PensionHouseModel" (601 : Nat) ({ cls := "PensionHouseModel", name := "ofBits", desc := "(J)D" } : Jvm.MethodName)) ∈ jw := jt7 (List.mem_of_getElem? (i := 73) (by decide +kernel)) rfl
set_option maxRecDepth 20000 in
theorem lk_7_74 : (Jvm.Cond.static ({ cls := "PensionHouseModel", name := "ofBits", desc := "(J)D" } : Jvm.MethodName)) ∈ jw := jt7 (List.mem_of_getElem? (i := 74) (by decide +kernel)) rfl
set_option maxRecDepth 20000 in
theorem lk_7_75 : (Jvm.Cond.code ({ cls := "PensionHouseModel", name := "ofBits", desc := "(J)D" } : Jvm.MethodName) prog_14_method_13_code (10 : Nat) (Option.some Jvm.ClassFile.FieldType.double)) ∈ jw := jt7 (List.mem_of_getElem? (i := 75) (by exact rfl)) rfl
set_option maxRecDepth 20000 in
theorem lk_7_76 : (Jvm.Cond.constantLong "PensionHouseModel" (212 : Nat) (2047 : Int64)) ∈ jw := jt7 (List.mem_of_getElem? (i := 76) (by decide +kernel)) rfl
set_option maxRecDepth 20000 in
theorem lk_7_77 : (Jvm.Cond.constantLong "PensionHouseModel" (214 : Nat) (4503599627370495 : Int64)) ∈ jw := jt7 (List.mem_of_getElem? (i := 77) (by decide +kernel)) rfl
set_option maxRecDepth 20000 in
theorem lk_7_78 : (Jvm.Cond.constantDouble "PensionHouseModel" (216 : Nat) (18442240474082181120 : UInt64)) ∈ jw := jt7 (List.mem_of_getElem? (i := 78) (by decide +kernel)) rfl
set_option maxRecDepth 20000 in
theorem lk_7_79 : (Jvm.Cond.constantDouble "PensionHouseModel" (200 : Nat) (9218868437227405312 : UInt64)) ∈ jw := jt7 (List.mem_of_getElem? (i := 79) (by decide +kernel)) rfl
set_option maxRecDepth 20000 in
theorem lk_7_80 : (Jvm.Cond.constantDouble "PensionHouseModel" (220 : Nat) (9221120237041090560 : UInt64)) ∈ jw := jt7 (List.mem_of_getElem? (i := 80) (by decide +kernel)) rfl
set_option maxRecDepth 20000 in
theorem lk_7_81 : (Jvm.Cond.constantLong "PensionHouseModel" (222 : Nat) (4503599627370496 : Int64)) ∈ jw := jt7 (List.mem_of_getElem? (i := 81) (by decide +kernel)) rfl
set_option maxRecDepth 20000 in
theorem lk_7_82 : (Jvm.Cond.constantLong "PensionHouseModel" (224 : Nat) (1075 : Int64)) ∈ jw := jt7 (List.mem_of_getElem? (i := 82) (by decide +kernel)) rfl
set_option maxRecDepth 20000 in
theorem lk_7_83 : (Jvm.Cond.constantDouble "PensionHouseModel" (204 : Nat) (4611686018427387904 : UInt64)) ∈ jw := jt7 (List.mem_of_getElem? (i := 83) (by decide +kernel)) rfl
set_option maxRecDepth 20000 in
theorem lk_7_84 : (Jvm.Cond.methodLink "PensionHouseLaw" (47 : Nat) ({ cls := "PensionHouseModel", name := "seat", desc := "(II)I" } : Jvm.MethodName)) ∈ jw := jt7 (List.mem_of_getElem? (i := 84) (by decide +kernel)) rfl
set_option maxRecDepth 20000 in
theorem lk_7_85 : (Jvm.Cond.instanceMethod ({ cls := "PensionHouseModel", name := "seat", desc := "(II)I" } : Jvm.MethodName)) ∈ jw := jt7 (List.mem_of_getElem? (i := 85) (by decide +kernel)) rfl
set_option maxRecDepth 20000 in
theorem lk_7_86 : (Jvm.Cond.selects "PensionHouseModel" ({ cls := "PensionHouseModel", name := "seat", desc := "(II)I" } : Jvm.MethodName) ({ cls := "PensionHouseModel", name := "seat", desc := "(II)I" } : Jvm.MethodName)) ∈ jw := jt7 (List.mem_of_getElem? (i := 86) (by decide +kernel)) rfl
set_option maxRecDepth 20000 in
theorem lk_7_87 : (Jvm.Cond.code ({ cls := "PensionHouseModel", name := "seat", desc := "(II)I" } : Jvm.MethodName) prog_14_method_86_code (3 : Nat) (Option.some Jvm.ClassFile.FieldType.int)) ∈ jw := jt7 (List.mem_of_getElem? (i := 87) (by exact rfl)) rfl
set_option maxRecDepth 20000 in
theorem lk_7_88 : (Jvm.Cond.methodLink "PensionHouseModel" (566 : Nat) ({ cls := "PensionHouseModel", name := "belongs", desc := "(JI)Z" } : Jvm.MethodName)) ∈ jw := jt7 (List.mem_of_getElem? (i := 88) (by decide +kernel)) rfl
set_option maxRecDepth 20000 in
theorem lk_7_90 : (Jvm.Cond.instanceMethod ({ cls := "PensionHouseModel", name := "belongs", desc := "(JI)Z" } : Jvm.MethodName)) ∈ jw := jt7 (List.mem_of_getElem? (i := 90) (by decide +kernel)) rfl
set_option maxRecDepth 20000 in
theorem lk_7_91 : (Jvm.Cond.code ({ cls := "PensionHouseModel", name := "belongs", desc := "(JI)Z" } : Jvm.MethodName) prog_14_method_74_code (4 : Nat) (Option.some Jvm.ClassFile.FieldType.boolean)) ∈ jw := jt7 (List.mem_of_getElem? (i := 91) (by exact rfl)) rfl
set_option maxRecDepth 20000 in
theorem lk_7_92 : (Jvm.Cond.methodLink "PensionHouseLaw" (52 : Nat) ({ cls := "PensionHouseModel", name := "sort", desc := "()I" } : Jvm.MethodName)) ∈ jw := jt7 (List.mem_of_getElem? (i := 92) (by decide +kernel)) rfl
set_option maxRecDepth 20000 in
theorem lk_7_93 : (Jvm.Cond.instanceMethod ({ cls := "PensionHouseModel", name := "sort", desc := "()I" } : Jvm.MethodName)) ∈ jw := jt7 (List.mem_of_getElem? (i := 93) (by decide +kernel)) rfl
set_option maxRecDepth 20000 in
theorem lk_7_94 : (Jvm.Cond.selects "PensionHouseModel" ({ cls := "PensionHouseModel", name := "sort", desc := "()I" } : Jvm.MethodName) ({ cls := "PensionHouseModel", name := "sort", desc := "()I" } : Jvm.MethodName)) ∈ jw := jt7 (List.mem_of_getElem? (i := 94) (by decide +kernel)) rfl
set_option maxRecDepth 20000 in
theorem lk_7_95 : (Jvm.Cond.code ({ cls := "PensionHouseModel", name := "sort", desc := "()I" } : Jvm.MethodName) prog_14_method_87_code (1 : Nat) (Option.some Jvm.ClassFile.FieldType.int)) ∈ jw := jt7 (List.mem_of_getElem? (i := 95) (by exact rfl)) rfl
set_option maxRecDepth 20000 in
theorem lk_7_96 : (Jvm.Cond.methodLink "PensionHouseLaw" (56 : Nat) ({ cls := "PensionHouseModel", name := "length", desc := "()I" } : Jvm.MethodName)) ∈ jw := jt7 (List.mem_of_getElem? (i := 96) (by decide +kernel)) rfl
set_option maxRecDepth 20000 in
theorem lk_7_97 : (Jvm.Cond.instanceMethod ({ cls := "PensionHouseModel", name := "length", desc := "()I" } : Jvm.MethodName)) ∈ jw := jt7 (List.mem_of_getElem? (i := 97) (by decide +kernel)) rfl
set_option maxRecDepth 20000 in
theorem lk_7_98 : (Jvm.Cond.selects "PensionHouseModel" ({ cls := "PensionHouseModel", name := "length", desc := "()I" } : Jvm.MethodName) ({ cls := "PensionHouseModel", name := "length", desc := "()I" } : Jvm.MethodName)) ∈ jw := jt7 (List.mem_of_getElem? (i := 98) (by decide +kernel)) rfl
set_option maxRecDepth 20000 in
theorem lk_7_99 : (Jvm.Cond.code ({ cls := "PensionHouseModel", name := "length", desc := "()I" } : Jvm.MethodName) prog_14_method_88_code (1 : Nat) (Option.some Jvm.ClassFile.FieldType.int)) ∈ jw := jt7 (List.mem_of_getElem? (i := 99) (by exact rfl)) rfl
set_option maxRecDepth 20000 in
theorem lk_7_100 : (Jvm.Cond.methodLink "PensionHouseModel" (548 : Nat) ({ cls := "PensionHouseModel", name := "isRow", desc := "(I)Z" } : Jvm.MethodName)) ∈ jw := jt7 (List.mem_of_getElem? (i := 100) (by decide +kernel)) rfl
set_option maxRecDepth 20000 in
theorem lk_7_101 : (Jvm.Cond.static ({ cls := "PensionHouseModel", name := "isRow", desc := "(I)Z" } : Jvm.MethodName)) ∈ jw := jt7 (List.mem_of_getElem? (i := 101) (by decide +kernel)) rfl
set_option maxRecDepth 20000 in
theorem lk_7_102 : (Jvm.Cond.code ({ cls := "PensionHouseModel", name := "isRow", desc := "(I)Z" } : Jvm.MethodName) prog_14_method_8_code (1 : Nat) (Option.some Jvm.ClassFile.FieldType.boolean)) ∈ jw := jt7 (List.mem_of_getElem? (i := 102) (by exact rfl)) rfl
set_option maxRecDepth 20000 in
theorem lk_7_103 : (Jvm.Cond.methodLink "PensionHouseLaw" (61 : Nat) ({ cls := "PensionHouseModel", name := "read", desc := "(I)J" } : Jvm.MethodName)) ∈ jw := jt7 (List.mem_of_getElem? (i := 103) (by decide +kernel)) rfl
set_option maxRecDepth 20000 in
theorem lk_7_104 : (Jvm.Cond.instanceMethod ({ cls := "PensionHouseModel", name := "read", desc := "(I)J" } : Jvm.MethodName)) ∈ jw := jt7 (List.mem_of_getElem? (i := 104) (by decide +kernel)) rfl
set_option maxRecDepth 20000 in
theorem lk_7_105 : (Jvm.Cond.selects "PensionHouseModel" ({ cls := "PensionHouseModel", name := "read", desc := "(I)J" } : Jvm.MethodName) ({ cls := "PensionHouseModel", name := "read", desc := "(I)J" } : Jvm.MethodName)) ∈ jw := jt7 (List.mem_of_getElem? (i := 105) (by decide +kernel)) rfl
set_option maxRecDepth 20000 in
theorem lk_7_106 : (Jvm.Cond.code ({ cls := "PensionHouseModel", name := "read", desc := "(I)J" } : Jvm.MethodName) prog_14_method_89_code (4 : Nat) (Option.some Jvm.ClassFile.FieldType.long)) ∈ jw := jt7 (List.mem_of_getElem? (i := 106) (by exact rfl)) rfl
set_option maxRecDepth 20000 in
theorem lk_7_107 : (Jvm.Cond.methodLink "PensionHouseModel" (230 : Nat) ({ cls := "PensionHouseModel", name := "bitsOf", desc := "(D)J" } : Jvm.MethodName)) ∈ jw := jt7 (List.mem_of_getElem? (i := 107) (by decide +kernel)) rfl
set_option maxRecDepth 20000 in
theorem lk_7_108 : (Jvm.Cond.static ({ cls := "PensionHouseModel", name := "bitsOf", desc := "(D)J" } : Jvm.MethodName)) ∈ jw := jt7 (List.mem_of_getElem? (i := 108) (by decide +kernel)) rfl
set_option maxRecDepth 20000 in
theorem lk_7_109 : (Jvm.Cond.code ({ cls := "PensionHouseModel", name := "bitsOf", desc := "(D)J" } : Jvm.MethodName) prog_14_method_12_code (9 : Nat) (Option.some Jvm.ClassFile.FieldType.long)) ∈ jw := jt7 (List.mem_of_getElem? (i := 109) (by exact rfl)) rfl
set_option maxRecDepth 20000 in
theorem lk_7_110 : (Jvm.Cond.constantLong "PensionHouseModel" (196 : Nat) (9221120237041090560 : Int64)) ∈ jw := jt7 (List.mem_of_getElem? (i := 110) (by decide +kernel)) rfl
set_option maxRecDepth 20000 in
theorem lk_7_111 : (Jvm.Cond.constantLong "PensionHouseModel" (198 : Nat) (-9223372036854775808 : Int64)) ∈ jw := jt7 (List.mem_of_getElem? (i := 111) (by decide +kernel)) rfl
set_option maxRecDepth 20000 in
theorem lk_7_112 : (Jvm.Cond.constantLong "PensionHouseModel" (202 : Nat) (9218868437227405312 : Int64)) ∈ jw := jt7 (List.mem_of_getElem? (i := 112) (by decide +kernel)) rfl
set_option maxRecDepth 20000 in
theorem lk_7_113 : (Jvm.Cond.constantLong "PensionHouseModel" (206 : Nat) (-1022 : Int64)) ∈ jw := jt7 (List.mem_of_getElem? (i := 113) (by decide +kernel)) rfl
set_option maxRecDepth 20000 in
theorem lk_7_114 : (Jvm.Cond.constantDouble "PensionHouseModel" (208 : Nat) (4841369599423283200 : UInt64)) ∈ jw := jt7 (List.mem_of_getElem? (i := 114) (by decide +kernel)) rfl
set_option maxRecDepth 20000 in
theorem lk_7_115 : (Jvm.Cond.constantLong "PensionHouseModel" (210 : Nat) (1023 : Int64)) ∈ jw := jt7 (List.mem_of_getElem? (i := 115) (by decide +kernel)) rfl
set_option maxRecDepth 20000 in
theorem lk_7_116 : (Jvm.Cond.methodLink "PensionHouseLaw" (66 : Nat) ({ cls := "PensionHouseModel", name := "fact", desc := "(III)I" } : Jvm.MethodName)) ∈ jw := jt7 (List.mem_of_getElem? (i := 116) (by decide +kernel)) rfl
set_option maxRecDepth 20000 in
theorem lk_7_117 : (Jvm.Cond.instanceMethod ({ cls := "PensionHouseModel", name := "fact", desc := "(III)I" } : Jvm.MethodName)) ∈ jw := jt7 (List.mem_of_getElem? (i := 117) (by decide +kernel)) rfl
set_option maxRecDepth 20000 in
theorem lk_7_118 : (Jvm.Cond.selects "PensionHouseModel" ({ cls := "PensionHouseModel", name := "fact", desc := "(III)I" } : Jvm.MethodName) ({ cls := "PensionHouseModel", name := "fact", desc := "(III)I" } : Jvm.MethodName)) ∈ jw := jt7 (List.mem_of_getElem? (i := 118) (by decide +kernel)) rfl
set_option maxRecDepth 20000 in
theorem lk_7_119 : (Jvm.Cond.code ({ cls := "PensionHouseModel", name := "fact", desc := "(III)I" } : Jvm.MethodName) prog_14_method_91_code (6 : Nat) (Option.some Jvm.ClassFile.FieldType.int)) ∈ jw := jt7 (List.mem_of_getElem? (i := 119) (by exact rfl)) rfl
set_option maxRecDepth 20000 in
theorem lk_7_120 : (Jvm.Cond.methodLink "PensionHouseModel" (605 : Nat) ({ cls := "PensionHouseModel", name := "takeName", desc := "()J" } : Jvm.MethodName)) ∈ jw := jt7 (List.mem_of_getElem? (i := 120) (by decide +kernel)) rfl
set_option maxRecDepth 20000 in
theorem lk_7_122 : (Jvm.Cond.instanceMethod ({ cls := "PensionHouseModel", name := "takeName", desc := "()J" } : Jvm.MethodName)) ∈ jw := jt7 (List.mem_of_getElem? (i := 122) (by decide +kernel)) rfl
set_option maxRecDepth 20000 in
theorem lk_7_123 : (Jvm.Cond.code ({ cls := "PensionHouseModel", name := "takeName", desc := "()J" } : Jvm.MethodName) prog_14_method_30_code (1 : Nat) (Option.some Jvm.ClassFile.FieldType.long)) ∈ jw := jt7 (List.mem_of_getElem? (i := 123) (by exact rfl)) rfl
set_option maxRecDepth 20000 in
theorem lk_7_124 : (Jvm.Cond.methodLink "PensionHouseModel" (340 : Nat) ({ cls := "PensionHouseModel", name := "tokenize", desc := "()V" } : Jvm.MethodName)) ∈ jw := jt7 (List.mem_of_getElem? (i := 124) (by decide +kernel)) rfl
set_option maxRecDepth 20000 in
theorem lk_7_126 : (Jvm.Cond.instanceMethod ({ cls := "PensionHouseModel", name := "tokenize", desc := "()V" } : Jvm.MethodName)) ∈ jw := jt7 (List.mem_of_getElem? (i := 126) (by decide +kernel)) rfl
set_option maxRecDepth 20000 in
theorem lk_7_127 : (Jvm.Cond.code ({ cls := "PensionHouseModel", name := "tokenize", desc := "()V" } : Jvm.MethodName) prog_14_method_22_code (3 : Nat) (Option.none : Option Jvm.ClassFile.FieldType)) ∈ jw := jt7 (List.mem_of_getElem? (i := 127) (by exact rfl)) rfl
set_option maxRecDepth 20000 in
theorem lk_7_128 : (Jvm.Cond.methodLink "PensionHouseModel" (305 : Nat) ({ cls := "PensionHouseModel", name := "token", desc := "(I)I" } : Jvm.MethodName)) ∈ jw := jt7 (List.mem_of_getElem? (i := 128) (by decide +kernel)) rfl
set_option maxRecDepth 20000 in
theorem lk_7_130 : (Jvm.Cond.instanceMethod ({ cls := "PensionHouseModel", name := "token", desc := "(I)I" } : Jvm.MethodName)) ∈ jw := jt7 (List.mem_of_getElem? (i := 130) (by decide +kernel)) rfl
set_option maxRecDepth 20000 in
theorem lk_7_131 : (Jvm.Cond.code ({ cls := "PensionHouseModel", name := "token", desc := "(I)I" } : Jvm.MethodName) prog_14_method_23_code (6 : Nat) (Option.some Jvm.ClassFile.FieldType.int)) ∈ jw := jt7 (List.mem_of_getElem? (i := 131) (by exact rfl)) rfl
set_option maxRecDepth 20000 in
theorem lk_7_132 : (Jvm.Cond.methodLink "PensionHouseModel" (309 : Nat) ({ cls := "PensionHouseModel", name := "isLetter", desc := "(I)Z" } : Jvm.MethodName)) ∈ jw := jt7 (List.mem_of_getElem? (i := 132) (by decide +kernel)) rfl
set_option maxRecDepth 20000 in
theorem lk_7_133 : (Jvm.Cond.static ({ cls := "PensionHouseModel", name := "isLetter", desc := "(I)Z" } : Jvm.MethodName)) ∈ jw := jt7 (List.mem_of_getElem? (i := 133) (by decide +kernel)) rfl
set_option maxRecDepth 20000 in
theorem lk_7_134 : (Jvm.Cond.code ({ cls := "PensionHouseModel", name := "isLetter", desc := "(I)Z" } : Jvm.MethodName) prog_14_method_18_code (1 : Nat) (Option.some Jvm.ClassFile.FieldType.boolean)) ∈ jw := jt7 (List.mem_of_getElem? (i := 134) (by exact rfl)) rfl
set_option maxRecDepth 20000 in
theorem lk_7_135 : (Jvm.Cond.methodLink "PensionHouseModel" (312 : Nat) ({ cls := "PensionHouseModel", name := "byteAt", desc := "(I)I" } : Jvm.MethodName)) ∈ jw := jt7 (List.mem_of_getElem? (i := 135) (by decide +kernel)) rfl
set_option maxRecDepth 20000 in
theorem lk_7_137 : (Jvm.Cond.instanceMethod ({ cls := "PensionHouseModel", name := "byteAt", desc := "(I)I" } : Jvm.MethodName)) ∈ jw := jt7 (List.mem_of_getElem? (i := 137) (by decide +kernel)) rfl
set_option maxRecDepth 20000 in
theorem lk_7_138 : (Jvm.Cond.code ({ cls := "PensionHouseModel", name := "byteAt", desc := "(I)I" } : Jvm.MethodName) prog_14_method_21_code (2 : Nat) (Option.some Jvm.ClassFile.FieldType.int)) ∈ jw := jt7 (List.mem_of_getElem? (i := 138) (by exact rfl)) rfl
set_option maxRecDepth 20000 in
theorem lk_7_139 : (Jvm.Cond.methodLink "PensionHouseModel" (315 : Nat) ({ cls := "PensionHouseModel", name := "isFigure", desc := "(I)Z" } : Jvm.MethodName)) ∈ jw := jt7 (List.mem_of_getElem? (i := 139) (by decide +kernel)) rfl
set_option maxRecDepth 20000 in
theorem lk_7_140 : (Jvm.Cond.static ({ cls := "PensionHouseModel", name := "isFigure", desc := "(I)Z" } : Jvm.MethodName)) ∈ jw := jt7 (List.mem_of_getElem? (i := 140) (by decide +kernel)) rfl
set_option maxRecDepth 20000 in
theorem lk_7_141 : (Jvm.Cond.code ({ cls := "PensionHouseModel", name := "isFigure", desc := "(I)Z" } : Jvm.MethodName) prog_14_method_19_code (1 : Nat) (Option.some Jvm.ClassFile.FieldType.boolean)) ∈ jw := jt7 (List.mem_of_getElem? (i := 141) (by exact rfl)) rfl
set_option maxRecDepth 20000 in
theorem lk_7_142 : (Jvm.Cond.methodLink "PensionHouseModel" (318 : Nat) ({ cls := "PensionHouseModel", name := "word", desc := "(J)I" } : Jvm.MethodName)) ∈ jw := jt7 (List.mem_of_getElem? (i := 142) (by decide +kernel)) rfl
set_option maxRecDepth 20000 in
theorem lk_7_143 : (Jvm.Cond.static ({ cls := "PensionHouseModel", name := "word", desc := "(J)I" } : Jvm.MethodName)) ∈ jw := jt7 (List.mem_of_getElem? (i := 143) (by decide +kernel)) rfl
set_option maxRecDepth 20000 in
theorem lk_7_144 : (Jvm.Cond.code ({ cls := "PensionHouseModel", name := "word", desc := "(J)I" } : Jvm.MethodName) prog_14_method_20_code (2 : Nat) (Option.some Jvm.ClassFile.FieldType.int)) ∈ jw := jt7 (List.mem_of_getElem? (i := 144) (by exact rfl)) rfl
set_option maxRecDepth 20000 in
theorem lk_7_145 : (Jvm.Cond.constantLong "PensionHouseModel" (240 : Nat) (1650815860 : Int64)) ∈ jw := jt7 (List.mem_of_getElem? (i := 145) (by decide +kernel)) rfl
set_option maxRecDepth 20000 in
theorem lk_7_146 : (Jvm.Cond.constantLong "PensionHouseModel" (242 : Nat) (1651470958 : Int64)) ∈ jw := jt7 (List.mem_of_getElem? (i := 146) (by decide +kernel)) rfl
set_option maxRecDepth 20000 in
theorem lk_7_147 : (Jvm.Cond.constantLong "PensionHouseModel" (244 : Nat) (1667590508 : Int64)) ∈ jw := jt7 (List.mem_of_getElem? (i := 147) (by decide +kernel)) rfl
set_option maxRecDepth 20000 in
theorem lk_7_148 : (Jvm.Cond.constantLong "PensionHouseModel" (246 : Nat) (6578553 : Int64)) ∈ jw := jt7 (List.mem_of_getElem? (i := 148) (by decide +kernel)) rfl
set_option maxRecDepth 20000 in
theorem lk_7_149 : (Jvm.Cond.constantLong "PensionHouseModel" (248 : Nat) (1701606245 : Int64)) ∈ jw := jt7 (List.mem_of_getElem? (i := 149) (by decide +kernel)) rfl
set_option maxRecDepth 20000 in
theorem lk_7_150 : (Jvm.Cond.constantLong "PensionHouseModel" (250 : Nat) (439905906546 : Int64)) ∈ jw := jt7 (List.mem_of_getElem? (i := 150) (by decide +kernel)) rfl
set_option maxRecDepth 20000 in
theorem lk_7_151 : (Jvm.Cond.constantLong "PensionHouseModel" (252 : Nat) (1718775661 : Int64)) ∈ jw := jt7 (List.mem_of_getElem? (i := 151) (by decide +kernel)) rfl
set_option maxRecDepth 20000 in
theorem lk_7_152 : (Jvm.Cond.constantLong "PensionHouseModel" (254 : Nat) (26982 : Int64)) ∈ jw := jt7 (List.mem_of_getElem? (i := 152) (by decide +kernel)) rfl
set_option maxRecDepth 20000 in
theorem lk_7_153 : (Jvm.Cond.constantLong "PensionHouseModel" (256 : Nat) (1785686382 : Int64)) ∈ jw := jt7 (List.mem_of_getElem? (i := 153) (by decide +kernel)) rfl
set_option maxRecDepth 20000 in
theorem lk_7_154 : (Jvm.Cond.constantLong "PensionHouseModel" (258 : Nat) (1818325876 : Int64)) ∈ jw := jt7 (List.mem_of_getElem? (i := 154) (by decide +kernel)) rfl
set_option maxRecDepth 20000 in
theorem lk_7_155 : (Jvm.Cond.constantLong "PensionHouseModel" (260 : Nat) (7103854 : Int64)) ∈ jw := jt7 (List.mem_of_getElem? (i := 155) (by decide +kernel)) rfl
set_option maxRecDepth 20000 in
theorem lk_7_156 : (Jvm.Cond.constantLong "PensionHouseModel" (262 : Nat) (7168376 : Int64)) ∈ jw := jt7 (List.mem_of_getElem? (i := 156) (by decide +kernel)) rfl
set_option maxRecDepth 20000 in
theorem lk_7_157 : (Jvm.Cond.constantLong "PensionHouseModel" (264 : Nat) (7170414 : Int64)) ∈ jw := jt7 (List.mem_of_getElem? (i := 157) (by decide +kernel)) rfl
set_option maxRecDepth 20000 in
theorem lk_7_158 : (Jvm.Cond.constantLong "PensionHouseModel" (266 : Nat) (1852137842 : Int64)) ∈ jw := jt7 (List.mem_of_getElem? (i := 158) (by decide +kernel)) rfl
set_option maxRecDepth 20000 in
theorem lk_7_159 : (Jvm.Cond.constantLong "PensionHouseModel" (268 : Nat) (28518 : Int64)) ∈ jw := jt7 (List.mem_of_getElem? (i := 159) (by decide +kernel)) rfl
set_option maxRecDepth 20000 in
theorem lk_7_160 : (Jvm.Cond.constantLong "PensionHouseModel" (270 : Nat) (1919246700 : Int64)) ∈ jw := jt7 (List.mem_of_getElem? (i := 160) (by decide +kernel)) rfl
set_option maxRecDepth 20000 in
theorem lk_7_161 : (Jvm.Cond.constantLong "PensionHouseModel" (272 : Nat) (1919905652 : Int64)) ∈ jw := jt7 (List.mem_of_getElem? (i := 161) (by decide +kernel)) rfl
set_option maxRecDepth 20000 in
theorem lk_7_162 : (Jvm.Cond.constantLong "PensionHouseModel" (274 : Nat) (1920298085 : Int64)) ∈ jw := jt7 (List.mem_of_getElem? (i := 162) (by decide +kernel)) rfl
set_option maxRecDepth 20000 in
theorem lk_7_163 : (Jvm.Cond.constantLong "PensionHouseModel" (276 : Nat) (7566701 : Int64)) ∈ jw := jt7 (List.mem_of_getElem? (i := 163) (by decide +kernel)) rfl
set_option maxRecDepth 20000 in
theorem lk_7_164 : (Jvm.Cond.constantLong "PensionHouseModel" (278 : Nat) (1952998766 : Int64)) ∈ jw := jt7 (List.mem_of_getElem? (i := 164) (by decide +kernel)) rfl
set_option maxRecDepth 20000 in
theorem lk_7_165 : (Jvm.Cond.constantLong "PensionHouseModel" (280 : Nat) (29807 : Int64)) ∈ jw := jt7 (List.mem_of_getElem? (i := 165) (by decide +kernel)) rfl
set_option maxRecDepth 20000 in
theorem lk_7_166 : (Jvm.Cond.constantLong "PensionHouseModel" (282 : Nat) (7631481 : Int64)) ∈ jw := jt7 (List.mem_of_getElem? (i := 166) (by decide +kernel)) rfl
set_option maxRecDepth 20000 in
theorem lk_7_167 : (Jvm.Cond.constantLong "PensionHouseModel" (284 : Nat) (512853240933 : Int64)) ∈ jw := jt7 (List.mem_of_getElem? (i := 167) (by decide +kernel)) rfl
set_option maxRecDepth 20000 in
theorem lk_7_168 : (Jvm.Cond.constantLong "PensionHouseModel" (286 : Nat) (2003399784 : Int64)) ∈ jw := jt7 (List.mem_of_getElem? (i := 168) (by decide +kernel)) rfl
set_option maxRecDepth 20000 in
theorem lk_7_169 : (Jvm.Cond.constantLong "PensionHouseModel" (288 : Nat) (525688008563 : Int64)) ∈ jw := jt7 (List.mem_of_getElem? (i := 169) (by decide +kernel)) rfl
set_option maxRecDepth 20000 in
theorem lk_7_170 : (Jvm.Cond.methodLink "PensionHouseModel" (322 : Nat) ({ cls := "PensionHouseModel", name := "number", desc := "(I)I" } : Jvm.MethodName)) ∈ jw := jt7 (List.mem_of_getElem? (i := 170) (by decide +kernel)) rfl
set_option maxRecDepth 20000 in
theorem lk_7_172 : (Jvm.Cond.instanceMethod ({ cls := "PensionHouseModel", name := "number", desc := "(I)I" } : Jvm.MethodName)) ∈ jw := jt7 (List.mem_of_getElem? (i := 172) (by decide +kernel)) rfl
set_option maxRecDepth 20000 in
theorem lk_7_173 : (Jvm.Cond.code ({ cls := "PensionHouseModel", name := "number", desc := "(I)I" } : Jvm.MethodName) prog_14_method_24_code (7 : Nat) (Option.some Jvm.ClassFile.FieldType.int)) ∈ jw := jt7 (List.mem_of_getElem? (i := 173) (by exact rfl)) rfl
set_option maxRecDepth 20000 in
theorem lk_7_174 : (Jvm.Cond.constantLong "PensionHouseModel" (325 : Nat) (10 : Int64)) ∈ jw := jt7 (List.mem_of_getElem? (i := 174) (by decide +kernel)) rfl
set_option maxRecDepth 20000 in
theorem lk_7_175 : (Jvm.Cond.constantLong "PensionHouseModel" (327 : Nat) (48 : Int64)) ∈ jw := jt7 (List.mem_of_getElem? (i := 175) (by decide +kernel)) rfl
set_option maxRecDepth 20000 in
theorem lk_7_176 : (Jvm.Cond.constantLong "PensionHouseModel" (609 : Nat) (9 : Int64)) ∈ jw := jt7 (List.mem_of_getElem? (i := 176) (by decide +kernel)) rfl
set_option maxRecDepth 20000 in
theorem lk_7_177 : (Jvm.Cond.methodLink "PensionHouseModel" (611 : Nat) ({ cls := "PensionHouseModel", name := "isDay", desc := "(I)Z" } : Jvm.MethodName)) ∈ jw := jt7 (List.mem_of_getElem? (i := 177) (by decide +kernel)) rfl
set_option maxRecDepth 20000 in
theorem lk_7_178 : (Jvm.Cond.static ({ cls := "PensionHouseModel", name := "isDay", desc := "(I)Z" } : Jvm.MethodName)) ∈ jw := jt7 (List.mem_of_getElem? (i := 178) (by decide +kernel)) rfl
set_option maxRecDepth 20000 in
theorem lk_7_179 : (Jvm.Cond.code ({ cls := "PensionHouseModel", name := "isDay", desc := "(I)Z" } : Jvm.MethodName) prog_14_method_90_code (1 : Nat) (Option.some Jvm.ClassFile.FieldType.boolean)) ∈ jw := jt7 (List.mem_of_getElem? (i := 179) (by exact rfl)) rfl
set_option maxRecDepth 20000 in
theorem lk_7_180 : (Jvm.Cond.methodLink "PensionHouseModel" (614 : Nat) ({ cls := "PensionHouseModel", name := "copy", desc := "(II)V" } : Jvm.MethodName)) ∈ jw := jt7 (List.mem_of_getElem? (i := 180) (by decide +kernel)) rfl
set_option maxRecDepth 20000 in
theorem lk_7_182 : (Jvm.Cond.instanceMethod ({ cls := "PensionHouseModel", name := "copy", desc := "(II)V" } : Jvm.MethodName)) ∈ jw := jt7 (List.mem_of_getElem? (i := 182) (by decide +kernel)) rfl
set_option maxRecDepth 20000 in
theorem lk_7_183 : (Jvm.Cond.code ({ cls := "PensionHouseModel", name := "copy", desc := "(II)V" } : Jvm.MethodName) prog_14_method_2_code (4 : Nat) (Option.none : Option Jvm.ClassFile.FieldType)) ∈ jw := jt7 (List.mem_of_getElem? (i := 183) (by exact rfl)) rfl
set_option maxRecDepth 20000 in
theorem lk_7_184 : (Jvm.Cond.methodLink "PensionHouseLaw" (70 : Nat) ({ cls := "PensionHouseModel", name := "annul", desc := "(I)I" } : Jvm.MethodName)) ∈ jw := jt7 (List.mem_of_getElem? (i := 184) (by decide +kernel)) rfl
set_option maxRecDepth 20000 in
theorem lk_7_185 : (Jvm.Cond.instanceMethod ({ cls := "PensionHouseModel", name := "annul", desc := "(I)I" } : Jvm.MethodName)) ∈ jw := jt7 (List.mem_of_getElem? (i := 185) (by decide +kernel)) rfl
set_option maxRecDepth 20000 in
theorem lk_7_186 : (Jvm.Cond.selects "PensionHouseModel" ({ cls := "PensionHouseModel", name := "annul", desc := "(I)I" } : Jvm.MethodName) ({ cls := "PensionHouseModel", name := "annul", desc := "(I)I" } : Jvm.MethodName)) ∈ jw := jt7 (List.mem_of_getElem? (i := 186) (by decide +kernel)) rfl
set_option maxRecDepth 20000 in
theorem lk_7_187 : (Jvm.Cond.code ({ cls := "PensionHouseModel", name := "annul", desc := "(I)I" } : Jvm.MethodName) prog_14_method_92_code (2 : Nat) (Option.some Jvm.ClassFile.FieldType.int)) ∈ jw := jt7 (List.mem_of_getElem? (i := 187) (by exact rfl)) rfl
set_option maxRecDepth 20000 in
theorem lk_7_188 : (Jvm.Cond.methodLink "PensionHouseLaw" (74 : Nat) ({ cls := "PensionHouseModel", name := "known", desc := "(III)I" } : Jvm.MethodName)) ∈ jw := jt7 (List.mem_of_getElem? (i := 188) (by decide +kernel)) rfl
set_option maxRecDepth 20000 in
theorem lk_7_189 : (Jvm.Cond.instanceMethod ({ cls := "PensionHouseModel", name := "known", desc := "(III)I" } : Jvm.MethodName)) ∈ jw := jt7 (List.mem_of_getElem? (i := 189) (by decide +kernel)) rfl
set_option maxRecDepth 20000 in
theorem lk_7_190 : (Jvm.Cond.selects "PensionHouseModel" ({ cls := "PensionHouseModel", name := "known", desc := "(III)I" } : Jvm.MethodName) ({ cls := "PensionHouseModel", name := "known", desc := "(III)I" } : Jvm.MethodName)) ∈ jw := jt7 (List.mem_of_getElem? (i := 190) (by decide +kernel)) rfl
set_option maxRecDepth 20000 in
theorem lk_7_191 : (Jvm.Cond.code ({ cls := "PensionHouseModel", name := "known", desc := "(III)I" } : Jvm.MethodName) prog_14_method_93_code (7 : Nat) (Option.some Jvm.ClassFile.FieldType.int)) ∈ jw := jt7 (List.mem_of_getElem? (i := 191) (by exact rfl)) rfl
set_option maxRecDepth 20000 in
theorem lk_7_192 : (Jvm.Cond.methodLink "PensionHouseModel" (485 : Nat) ({ cls := "PensionHouseModel", name := "findKnown", desc := "(IJII)I" } : Jvm.MethodName)) ∈ jw := jt7 (List.mem_of_getElem? (i := 192) (by decide +kernel)) rfl
set_option maxRecDepth 20000 in
theorem lk_7_194 : (Jvm.Cond.instanceMethod ({ cls := "PensionHouseModel", name := "findKnown", desc := "(IJII)I" } : Jvm.MethodName)) ∈ jw := jt7 (List.mem_of_getElem? (i := 194) (by decide +kernel)) rfl
set_option maxRecDepth 20000 in
theorem lk_7_195 : (Jvm.Cond.code ({ cls := "PensionHouseModel", name := "findKnown", desc := "(IJII)I" } : Jvm.MethodName) prog_14_method_79_code (8 : Nat) (Option.some Jvm.ClassFile.FieldType.int)) ∈ jw := jt7 (List.mem_of_getElem? (i := 195) (by exact rfl)) rfl
set_option maxRecDepth 20000 in
theorem lk_7_196 : (Jvm.Cond.methodLink "PensionHouseLaw" (78 : Nat) ({ cls := "PensionHouseModel", name := "edition", desc := "(II)I" } : Jvm.MethodName)) ∈ jw := jt7 (List.mem_of_getElem? (i := 196) (by decide +kernel)) rfl
set_option maxRecDepth 20000 in
theorem lk_7_197 : (Jvm.Cond.instanceMethod ({ cls := "PensionHouseModel", name := "edition", desc := "(II)I" } : Jvm.MethodName)) ∈ jw := jt7 (List.mem_of_getElem? (i := 197) (by decide +kernel)) rfl
set_option maxRecDepth 20000 in
theorem lk_7_198 : (Jvm.Cond.selects "PensionHouseModel" ({ cls := "PensionHouseModel", name := "edition", desc := "(II)I" } : Jvm.MethodName) ({ cls := "PensionHouseModel", name := "edition", desc := "(II)I" } : Jvm.MethodName)) ∈ jw := jt7 (List.mem_of_getElem? (i := 198) (by decide +kernel)) rfl
set_option maxRecDepth 20000 in
theorem lk_7_199 : (Jvm.Cond.code ({ cls := "PensionHouseModel", name := "edition", desc := "(II)I" } : Jvm.MethodName) prog_14_method_96_code (4 : Nat) (Option.some Jvm.ClassFile.FieldType.int)) ∈ jw := jt7 (List.mem_of_getElem? (i := 199) (by exact rfl)) rfl
set_option maxRecDepth 20000 in
theorem lk_7_200 : (Jvm.Cond.constantLong "PensionHouseModel" (236 : Nat) (3 : Int64)) ∈ jw := jt7 (List.mem_of_getElem? (i := 200) (by decide +kernel)) rfl
set_option maxRecDepth 20000 in
theorem lk_7_201 : (Jvm.Cond.methodLink "PensionHouseModel" (620 : Nat) ({ cls := "PensionHouseModel", name := "slotOf", desc := "(II)I" } : Jvm.MethodName)) ∈ jw := jt7 (List.mem_of_getElem? (i := 201) (by decide +kernel)) rfl
set_option maxRecDepth 20000 in
theorem lk_7_203 : (Jvm.Cond.instanceMethod ({ cls := "PensionHouseModel", name := "slotOf", desc := "(II)I" } : Jvm.MethodName)) ∈ jw := jt7 (List.mem_of_getElem? (i := 203) (by decide +kernel)) rfl
set_option maxRecDepth 20000 in
theorem lk_7_204 : (Jvm.Cond.code ({ cls := "PensionHouseModel", name := "slotOf", desc := "(II)I" } : Jvm.MethodName) prog_14_method_95_code (4 : Nat) (Option.some Jvm.ClassFile.FieldType.int)) ∈ jw := jt7 (List.mem_of_getElem? (i := 204) (by exact rfl)) rfl
set_option maxRecDepth 20000 in
theorem lk_7_205 : (Jvm.Cond.methodLink "PensionHouseModel" (623 : Nat) ({ cls := "PensionHouseModel", name := "readText", desc := "(I)V" } : Jvm.MethodName)) ∈ jw := jt7 (List.mem_of_getElem? (i := 205) (by decide +kernel)) rfl
set_option maxRecDepth 20000 in
theorem lk_7_207 : (Jvm.Cond.instanceMethod ({ cls := "PensionHouseModel", name := "readText", desc := "(I)V" } : Jvm.MethodName)) ∈ jw := jt7 (List.mem_of_getElem? (i := 207) (by decide +kernel)) rfl
set_option maxRecDepth 20000 in
theorem lk_7_208 : (Jvm.Cond.code ({ cls := "PensionHouseModel", name := "readText", desc := "(I)V" } : Jvm.MethodName) prog_14_method_34_code (5 : Nat) (Option.none : Option Jvm.ClassFile.FieldType)) ∈ jw := jt7 (List.mem_of_getElem? (i := 208) (by exact rfl)) rfl
set_option maxRecDepth 20000 in
theorem lk_7_209 : (Jvm.Cond.methodLink "PensionHouseModel" (329 : Nat) ({ cls := "PensionHouseModel", name := "now", desc := "()I" } : Jvm.MethodName)) ∈ jw := jt7 (List.mem_of_getElem? (i := 209) (by decide +kernel)) rfl
set_option maxRecDepth 20000 in
theorem lk_7_211 : (Jvm.Cond.instanceMethod ({ cls := "PensionHouseModel", name := "now", desc := "()I" } : Jvm.MethodName)) ∈ jw := jt7 (List.mem_of_getElem? (i := 211) (by decide +kernel)) rfl
set_option maxRecDepth 20000 in
theorem lk_7_212 : (Jvm.Cond.code ({ cls := "PensionHouseModel", name := "now", desc := "()I" } : Jvm.MethodName) prog_14_method_26_code (1 : Nat) (Option.some Jvm.ClassFile.FieldType.int)) ∈ jw := jt7 (List.mem_of_getElem? (i := 212) (by exact rfl)) rfl
set_option maxRecDepth 20000 in
theorem lk_7_213 : (Jvm.Cond.methodLink "PensionHouseModel" (337 : Nat) ({ cls := "PensionHouseModel", name := "wrong", desc := "()V" } : Jvm.MethodName)) ∈ jw := jt7 (List.mem_of_getElem? (i := 213) (by decide +kernel)) rfl
set_option maxRecDepth 20000 in
theorem lk_7_215 : (Jvm.Cond.instanceMethod ({ cls := "PensionHouseModel", name := "wrong", desc := "()V" } : Jvm.MethodName)) ∈ jw := jt7 (List.mem_of_getElem? (i := 215) (by decide +kernel)) rfl
set_option maxRecDepth 20000 in
theorem lk_7_216 : (Jvm.Cond.code ({ cls := "PensionHouseModel", name := "wrong", desc := "()V" } : Jvm.MethodName) prog_14_method_28_code (1 : Nat) (Option.none : Option Jvm.ClassFile.FieldType)) ∈ jw := jt7 (List.mem_of_getElem? (i := 216) (by exact rfl)) rfl
set_option maxRecDepth 20000 in
theorem lk_7_217 : (Jvm.Cond.methodLink "PensionHouseModel" (333 : Nat) ({ cls := "PensionHouseModel", name := "fail", desc := "(II)V" } : Jvm.MethodName)) ∈ jw := jt7 (List.mem_of_getElem? (i := 217) (by decide +kernel)) rfl
set_option maxRecDepth 20000 in
theorem lk_7_219 : (Jvm.Cond.instanceMethod ({ cls := "PensionHouseModel", name := "fail", desc := "(II)V" } : Jvm.MethodName)) ∈ jw := jt7 (List.mem_of_getElem? (i := 219) (by decide +kernel)) rfl
set_option maxRecDepth 20000 in
theorem lk_7_220 : (Jvm.Cond.code ({ cls := "PensionHouseModel", name := "fail", desc := "(II)V" } : Jvm.MethodName) prog_14_method_25_code (3 : Nat) (Option.none : Option Jvm.ClassFile.FieldType)) ∈ jw := jt7 (List.mem_of_getElem? (i := 220) (by exact rfl)) rfl
set_option maxRecDepth 20000 in
theorem lk_7_221 : (Jvm.Cond.methodLink "PensionHouseModel" (352 : Nat) ({ cls := "PensionHouseModel", name := "want", desc := "(I)V" } : Jvm.MethodName)) ∈ jw := jt7 (List.mem_of_getElem? (i := 221) (by decide +kernel)) rfl
set_option maxRecDepth 20000 in
theorem lk_7_223 : (Jvm.Cond.instanceMethod ({ cls := "PensionHouseModel", name := "want", desc := "(I)V" } : Jvm.MethodName)) ∈ jw := jt7 (List.mem_of_getElem? (i := 223) (by decide +kernel)) rfl
set_option maxRecDepth 20000 in
theorem lk_7_224 : (Jvm.Cond.code ({ cls := "PensionHouseModel", name := "want", desc := "(I)V" } : Jvm.MethodName) prog_14_method_29_code (2 : Nat) (Option.none : Option Jvm.ClassFile.FieldType)) ∈ jw := jt7 (List.mem_of_getElem? (i := 224) (by exact rfl)) rfl
set_option maxRecDepth 20000 in
theorem lk_7_225 : (Jvm.Cond.methodLink "PensionHouseModel" (356 : Nat) ({ cls := "PensionHouseModel", name := "is", desc := "(I)Z" } : Jvm.MethodName)) ∈ jw := jt7 (List.mem_of_getElem? (i := 225) (by decide +kernel)) rfl
set_option maxRecDepth 20000 in
theorem lk_7_227 : (Jvm.Cond.instanceMethod ({ cls := "PensionHouseModel", name := "is", desc := "(I)Z" } : Jvm.MethodName)) ∈ jw := jt7 (List.mem_of_getElem? (i := 227) (by decide +kernel)) rfl
set_option maxRecDepth 20000 in
theorem lk_7_228 : (Jvm.Cond.code ({ cls := "PensionHouseModel", name := "is", desc := "(I)Z" } : Jvm.MethodName) prog_14_method_27_code (2 : Nat) (Option.some Jvm.ClassFile.FieldType.boolean)) ∈ jw := jt7 (List.mem_of_getElem? (i := 228) (by exact rfl)) rfl
set_option maxRecDepth 20000 in
theorem lk_7_229 : (Jvm.Cond.methodLink "PensionHouseModel" (359 : Nat) ({ cls := "PensionHouseModel", name := "findRule", desc := "(IJ)I" } : Jvm.MethodName)) ∈ jw := jt7 (List.mem_of_getElem? (i := 229) (by decide +kernel)) rfl
set_option maxRecDepth 20000 in
theorem lk_7_231 : (Jvm.Cond.instanceMethod ({ cls := "PensionHouseModel", name := "findRule", desc := "(IJ)I" } : Jvm.MethodName)) ∈ jw := jt7 (List.mem_of_getElem? (i := 231) (by decide +kernel)) rfl
set_option maxRecDepth 20000 in
theorem lk_7_232 : (Jvm.Cond.code ({ cls := "PensionHouseModel", name := "findRule", desc := "(IJ)I" } : Jvm.MethodName) prog_14_method_33_code (5 : Nat) (Option.some Jvm.ClassFile.FieldType.int)) ∈ jw := jt7 (List.mem_of_getElem? (i := 232) (by exact rfl)) rfl
set_option maxRecDepth 20000 in
theorem lk_7_233 : (Jvm.Cond.methodLink "PensionHouseModel" (363 : Nat) ({ cls := "PensionHouseModel", name := "expression", desc := "(I)I" } : Jvm.MethodName)) ∈ jw := jt7 (List.mem_of_getElem? (i := 233) (by decide +kernel)) rfl
set_option maxRecDepth 20000 in
theorem lk_7_235 : (Jvm.Cond.instanceMethod ({ cls := "PensionHouseModel", name := "expression", desc := "(I)I" } : Jvm.MethodName)) ∈ jw := jt7 (List.mem_of_getElem? (i := 235) (by decide +kernel)) rfl
set_option maxRecDepth 20000 in
theorem lk_7_236 : (Jvm.Cond.code ({ cls := "PensionHouseModel", name := "expression", desc := "(I)I" } : Jvm.MethodName) prog_14_method_38_code (3 : Nat) (Option.some Jvm.ClassFile.FieldType.int)) ∈ jw := jt7 (List.mem_of_getElem? (i := 236) (by exact rfl)) rfl
set_option maxRecDepth 20000 in
theorem lk_7_237 : (Jvm.Cond.methodLink "PensionHouseModel" (372 : Nat) ({ cls := "PensionHouseModel", name := "beginsUnary", desc := "()Z" } : Jvm.MethodName)) ∈ jw := jt7 (List.mem_of_getElem? (i := 237) (by decide +kernel)) rfl
set_option maxRecDepth 20000 in
theorem lk_7_239 : (Jvm.Cond.instanceMethod ({ cls := "PensionHouseModel", name := "beginsUnary", desc := "()Z" } : Jvm.MethodName)) ∈ jw := jt7 (List.mem_of_getElem? (i := 239) (by decide +kernel)) rfl
set_option maxRecDepth 20000 in
theorem lk_8_0 : (Jvm.Cond.code ({ cls := "PensionHouseModel", name := "beginsUnary", desc := "()Z" } : Jvm.MethodName) prog_14_method_37_code (2 : Nat) (Option.some Jvm.ClassFile.FieldType.boolean)) ∈ jw := jt8 (List.mem_of_getElem? (i := 0) (by exact rfl)) rfl
set_option maxRecDepth 20000 in
theorem lk_8_1 : (Jvm.Cond.methodLink "PensionHouseModel" (369 : Nat) ({ cls := "PensionHouseModel", name := "isFunction", desc := "(I)Z" } : Jvm.MethodName)) ∈ jw := jt8 (List.mem_of_getElem? (i := 1) (by decide +kernel)) rfl
set_option maxRecDepth 20000 in
theorem lk_8_2 : (Jvm.Cond.static ({ cls := "PensionHouseModel", name := "isFunction", desc := "(I)Z" } : Jvm.MethodName)) ∈ jw := jt8 (List.mem_of_getElem? (i := 2) (by decide +kernel)) rfl
set_option maxRecDepth 20000 in
theorem lk_8_3 : (Jvm.Cond.code ({ cls := "PensionHouseModel", name := "isFunction", desc := "(I)Z" } : Jvm.MethodName) prog_14_method_35_code (1 : Nat) (Option.some Jvm.ClassFile.FieldType.boolean)) ∈ jw := jt8 (List.mem_of_getElem? (i := 3) (by exact rfl)) rfl
set_option maxRecDepth 20000 in
theorem lk_8_4 : (Jvm.Cond.methodLink "PensionHouseModel" (366 : Nat) ({ cls := "PensionHouseModel", name := "arguments", desc := "(I)I" } : Jvm.MethodName)) ∈ jw := jt8 (List.mem_of_getElem? (i := 4) (by decide +kernel)) rfl
set_option maxRecDepth 20000 in
theorem lk_8_5 : (Jvm.Cond.static ({ cls := "PensionHouseModel", name := "arguments", desc := "(I)I" } : Jvm.MethodName)) ∈ jw := jt8 (List.mem_of_getElem? (i := 5) (by decide +kernel)) rfl
set_option maxRecDepth 20000 in
theorem lk_8_6 : (Jvm.Cond.code ({ cls := "PensionHouseModel", name := "arguments", desc := "(I)I" } : Jvm.MethodName) prog_14_method_36_code (1 : Nat) (Option.some Jvm.ClassFile.FieldType.int)) ∈ jw := jt8 (List.mem_of_getElem? (i := 6) (by exact rfl)) rfl
set_option maxRecDepth 20000 in
theorem lk_8_7 : (Jvm.Cond.methodLink "PensionHouseModel" (376 : Nat) ({ cls := "PensionHouseModel", name := "ifElse", desc := "(I)I" } : Jvm.MethodName)) ∈ jw := jt8 (List.mem_of_getElem? (i := 7) (by decide +kernel)) rfl
set_option maxRecDepth 20000 in
theorem lk_8_9 : (Jvm.Cond.instanceMethod ({ cls := "PensionHouseModel", name := "ifElse", desc := "(I)I" } : Jvm.MethodName)) ∈ jw := jt8 (List.mem_of_getElem? (i := 9) (by decide +kernel)) rfl
set_option maxRecDepth 20000 in
theorem lk_8_10 : (Jvm.Cond.code ({ cls := "PensionHouseModel", name := "ifElse", desc := "(I)I" } : Jvm.MethodName) prog_14_method_39_code (3 : Nat) (Option.some Jvm.ClassFile.FieldType.int)) ∈ jw := jt8 (List.mem_of_getElem? (i := 10) (by exact rfl)) rfl
set_option maxRecDepth 20000 in
theorem lk_8_11 : (Jvm.Cond.methodLink "PensionHouseModel" (379 : Nat) ({ cls := "PensionHouseModel", name := "part", desc := "()Z" } : Jvm.MethodName)) ∈ jw := jt8 (List.mem_of_getElem? (i := 11) (by decide +kernel)) rfl
set_option maxRecDepth 20000 in
theorem lk_8_13 : (Jvm.Cond.instanceMethod ({ cls := "PensionHouseModel", name := "part", desc := "()Z" } : Jvm.MethodName)) ∈ jw := jt8 (List.mem_of_getElem? (i := 13) (by decide +kernel)) rfl
set_option maxRecDepth 20000 in
theorem lk_8_14 : (Jvm.Cond.code ({ cls := "PensionHouseModel", name := "part", desc := "()Z" } : Jvm.MethodName) prog_14_method_32_code (1 : Nat) (Option.some Jvm.ClassFile.FieldType.boolean)) ∈ jw := jt8 (List.mem_of_getElem? (i := 14) (by exact rfl)) rfl
set_option maxRecDepth 20000 in
theorem lk_8_15 : (Jvm.Cond.methodLink "PensionHouseModel" (382 : Nat) ({ cls := "PensionHouseModel", name := "node", desc := "(I)I" } : Jvm.MethodName)) ∈ jw := jt8 (List.mem_of_getElem? (i := 15) (by decide +kernel)) rfl
set_option maxRecDepth 20000 in
theorem lk_8_17 : (Jvm.Cond.instanceMethod ({ cls := "PensionHouseModel", name := "node", desc := "(I)I" } : Jvm.MethodName)) ∈ jw := jt8 (List.mem_of_getElem? (i := 17) (by decide +kernel)) rfl
set_option maxRecDepth 20000 in
theorem lk_8_18 : (Jvm.Cond.code ({ cls := "PensionHouseModel", name := "node", desc := "(I)I" } : Jvm.MethodName) prog_14_method_31_code (3 : Nat) (Option.some Jvm.ClassFile.FieldType.int)) ∈ jw := jt8 (List.mem_of_getElem? (i := 18) (by exact rfl)) rfl
set_option maxRecDepth 20000 in
theorem lk_8_19 : (Jvm.Cond.methodLink "PensionHouseModel" (385 : Nat) ({ cls := "PensionHouseModel", name := "compared", desc := "(I)I" } : Jvm.MethodName)) ∈ jw := jt8 (List.mem_of_getElem? (i := 19) (by decide +kernel)) rfl
set_option maxRecDepth 20000 in
theorem lk_8_21 : (Jvm.Cond.instanceMethod ({ cls := "PensionHouseModel", name := "compared", desc := "(I)I" } : Jvm.MethodName)) ∈ jw := jt8 (List.mem_of_getElem? (i := 21) (by decide +kernel)) rfl
set_option maxRecDepth 20000 in
theorem lk_8_22 : (Jvm.Cond.code ({ cls := "PensionHouseModel", name := "compared", desc := "(I)I" } : Jvm.MethodName) prog_14_method_41_code (5 : Nat) (Option.some Jvm.ClassFile.FieldType.int)) ∈ jw := jt8 (List.mem_of_getElem? (i := 22) (by exact rfl)) rfl
set_option maxRecDepth 20000 in
theorem lk_8_23 : (Jvm.Cond.methodLink "PensionHouseModel" (388 : Nat) ({ cls := "PensionHouseModel", name := "added", desc := "(I)I" } : Jvm.MethodName)) ∈ jw := jt8 (List.mem_of_getElem? (i := 23) (by decide +kernel)) rfl
set_option maxRecDepth 20000 in
theorem lk_8_25 : (Jvm.Cond.instanceMethod ({ cls := "PensionHouseModel", name := "added", desc := "(I)I" } : Jvm.MethodName)) ∈ jw := jt8 (List.mem_of_getElem? (i := 25) (by decide +kernel)) rfl
set_option maxRecDepth 20000 in
theorem lk_8_26 : (Jvm.Cond.code ({ cls := "PensionHouseModel", name := "added", desc := "(I)I" } : Jvm.MethodName) prog_14_method_42_code (5 : Nat) (Option.some Jvm.ClassFile.FieldType.int)) ∈ jw := jt8 (List.mem_of_getElem? (i := 26) (by exact rfl)) rfl
set_option maxRecDepth 20000 in
theorem lk_8_27 : (Jvm.Cond.methodLink "PensionHouseModel" (394 : Nat) ({ cls := "PensionHouseModel", name := "multiplied", desc := "(I)I" } : Jvm.MethodName)) ∈ jw := jt8 (List.mem_of_getElem? (i := 27) (by decide +kernel)) rfl
set_option maxRecDepth 20000 in
theorem lk_8_29 : (Jvm.Cond.instanceMethod ({ cls := "PensionHouseModel", name := "multiplied", desc := "(I)I" } : Jvm.MethodName)) ∈ jw := jt8 (List.mem_of_getElem? (i := 29) (by decide +kernel)) rfl
set_option maxRecDepth 20000 in
theorem lk_8_30 : (Jvm.Cond.code ({ cls := "PensionHouseModel", name := "multiplied", desc := "(I)I" } : Jvm.MethodName) prog_14_method_43_code (5 : Nat) (Option.some Jvm.ClassFile.FieldType.int)) ∈ jw := jt8 (List.mem_of_getElem? (i := 30) (by exact rfl)) rfl
set_option maxRecDepth 20000 in
theorem lk_8_31 : (Jvm.Cond.methodLink "PensionHouseModel" (397 : Nat) ({ cls := "PensionHouseModel", name := "unary", desc := "(I)I" } : Jvm.MethodName)) ∈ jw := jt8 (List.mem_of_getElem? (i := 31) (by decide +kernel)) rfl
set_option maxRecDepth 20000 in
theorem lk_8_33 : (Jvm.Cond.instanceMethod ({ cls := "PensionHouseModel", name := "unary", desc := "(I)I" } : Jvm.MethodName)) ∈ jw := jt8 (List.mem_of_getElem? (i := 33) (by decide +kernel)) rfl
set_option maxRecDepth 20000 in
theorem lk_8_34 : (Jvm.Cond.code ({ cls := "PensionHouseModel", name := "unary", desc := "(I)I" } : Jvm.MethodName) prog_14_method_44_code (4 : Nat) (Option.some Jvm.ClassFile.FieldType.int)) ∈ jw := jt8 (List.mem_of_getElem? (i := 34) (by exact rfl)) rfl
set_option maxRecDepth 20000 in
theorem lk_8_35 : (Jvm.Cond.methodLink "PensionHouseModel" (400 : Nat) ({ cls := "PensionHouseModel", name := "primary", desc := "(I)I" } : Jvm.MethodName)) ∈ jw := jt8 (List.mem_of_getElem? (i := 35) (by decide +kernel)) rfl
set_option maxRecDepth 20000 in
theorem lk_8_37 : (Jvm.Cond.instanceMethod ({ cls := "PensionHouseModel", name := "primary", desc := "(I)I" } : Jvm.MethodName)) ∈ jw := jt8 (List.mem_of_getElem? (i := 37) (by decide +kernel)) rfl
set_option maxRecDepth 20000 in
theorem lk_8_38 : (Jvm.Cond.code ({ cls := "PensionHouseModel", name := "primary", desc := "(I)I" } : Jvm.MethodName) prog_14_method_45_code (5 : Nat) (Option.some Jvm.ClassFile.FieldType.int)) ∈ jw := jt8 (List.mem_of_getElem? (i := 38) (by exact rfl)) rfl
set_option maxRecDepth 20000 in
theorem lk_8_39 : (Jvm.Cond.methodLink "PensionHouseModel" (403 : Nat) ({ cls := "PensionHouseModel", name := "sum", desc := "(I)I" } : Jvm.MethodName)) ∈ jw := jt8 (List.mem_of_getElem? (i := 39) (by decide +kernel)) rfl
set_option maxRecDepth 20000 in
theorem lk_8_41 : (Jvm.Cond.instanceMethod ({ cls := "PensionHouseModel", name := "sum", desc := "(I)I" } : Jvm.MethodName)) ∈ jw := jt8 (List.mem_of_getElem? (i := 41) (by decide +kernel)) rfl
set_option maxRecDepth 20000 in
theorem lk_8_42 : (Jvm.Cond.code ({ cls := "PensionHouseModel", name := "sum", desc := "(I)I" } : Jvm.MethodName) prog_14_method_46_code (5 : Nat) (Option.some Jvm.ClassFile.FieldType.int)) ∈ jw := jt8 (List.mem_of_getElem? (i := 42) (by exact rfl)) rfl
set_option maxRecDepth 20000 in
theorem lk_8_43 : (Jvm.Cond.methodLink "PensionHouseModel" (406 : Nat) ({ cls := "PensionHouseModel", name := "named", desc := "()I" } : Jvm.MethodName)) ∈ jw := jt8 (List.mem_of_getElem? (i := 43) (by decide +kernel)) rfl
set_option maxRecDepth 20000 in
theorem lk_8_45 : (Jvm.Cond.instanceMethod ({ cls := "PensionHouseModel", name := "named", desc := "()I" } : Jvm.MethodName)) ∈ jw := jt8 (List.mem_of_getElem? (i := 45) (by decide +kernel)) rfl
set_option maxRecDepth 20000 in
theorem lk_8_46 : (Jvm.Cond.code ({ cls := "PensionHouseModel", name := "named", desc := "()I" } : Jvm.MethodName) prog_14_method_47_code (6 : Nat) (Option.some Jvm.ClassFile.FieldType.int)) ∈ jw := jt8 (List.mem_of_getElem? (i := 46) (by exact rfl)) rfl
set_option maxRecDepth 20000 in
theorem lk_8_47 : (Jvm.Cond.methodLink "PensionHouseModel" (391 : Nat) ({ cls := "PensionHouseModel", name := "operator", desc := "(I)I" } : Jvm.MethodName)) ∈ jw := jt8 (List.mem_of_getElem? (i := 47) (by decide +kernel)) rfl
set_option maxRecDepth 20000 in
theorem lk_8_49 : (Jvm.Cond.instanceMethod ({ cls := "PensionHouseModel", name := "operator", desc := "(I)I" } : Jvm.MethodName)) ∈ jw := jt8 (List.mem_of_getElem? (i := 49) (by decide +kernel)) rfl
set_option maxRecDepth 20000 in
theorem lk_8_50 : (Jvm.Cond.code ({ cls := "PensionHouseModel", name := "operator", desc := "(I)I" } : Jvm.MethodName) prog_14_method_40_code (3 : Nat) (Option.some Jvm.ClassFile.FieldType.int)) ∈ jw := jt8 (List.mem_of_getElem? (i := 50) (by exact rfl)) rfl
set_option maxRecDepth 20000 in
theorem lk_8_51 : (Jvm.Cond.methodLink "PensionHouseModel" (626 : Nat) ({ cls := "PensionHouseModel", name := "toldText", desc := "()I" } : Jvm.MethodName)) ∈ jw := jt8 (List.mem_of_getElem? (i := 51) (by decide +kernel)) rfl
set_option maxRecDepth 20000 in
theorem lk_8_53 : (Jvm.Cond.instanceMethod ({ cls := "PensionHouseModel", name := "toldText", desc := "()I" } : Jvm.MethodName)) ∈ jw := jt8 (List.mem_of_getElem? (i := 53) (by decide +kernel)) rfl
set_option maxRecDepth 20000 in
theorem lk_8_54 : (Jvm.Cond.code ({ cls := "PensionHouseModel", name := "toldText", desc := "()I" } : Jvm.MethodName) prog_14_method_94_code (1 : Nat) (Option.some Jvm.ClassFile.FieldType.int)) ∈ jw := jt8 (List.mem_of_getElem? (i := 54) (by exact rfl)) rfl
set_option maxRecDepth 20000 in
theorem lk_8_55 : (Jvm.Cond.methodLink "PensionHouseLaw" (82 : Nat) ({ cls := "PensionHouseModel", name := "fault", desc := "()I" } : Jvm.MethodName)) ∈ jw := jt8 (List.mem_of_getElem? (i := 55) (by decide +kernel)) rfl
set_option maxRecDepth 20000 in
theorem lk_8_56 : (Jvm.Cond.instanceMethod ({ cls := "PensionHouseModel", name := "fault", desc := "()I" } : Jvm.MethodName)) ∈ jw := jt8 (List.mem_of_getElem? (i := 56) (by decide +kernel)) rfl
set_option maxRecDepth 20000 in
theorem lk_8_57 : (Jvm.Cond.selects "PensionHouseModel" ({ cls := "PensionHouseModel", name := "fault", desc := "()I" } : Jvm.MethodName) ({ cls := "PensionHouseModel", name := "fault", desc := "()I" } : Jvm.MethodName)) ∈ jw := jt8 (List.mem_of_getElem? (i := 57) (by decide +kernel)) rfl
set_option maxRecDepth 20000 in
theorem lk_8_58 : (Jvm.Cond.code ({ cls := "PensionHouseModel", name := "fault", desc := "()I" } : Jvm.MethodName) prog_14_method_97_code (1 : Nat) (Option.some Jvm.ClassFile.FieldType.int)) ∈ jw := jt8 (List.mem_of_getElem? (i := 58) (by exact rfl)) rfl
set_option maxRecDepth 20000 in
theorem lk_8_59 : (Jvm.Cond.methodLink "PensionHouseLaw" (86 : Nat) ({ cls := "PensionHouseModel", name := "inForce", desc := "(II)I" } : Jvm.MethodName)) ∈ jw := jt8 (List.mem_of_getElem? (i := 59) (by decide +kernel)) rfl
set_option maxRecDepth 20000 in
theorem lk_8_60 : (Jvm.Cond.instanceMethod ({ cls := "PensionHouseModel", name := "inForce", desc := "(II)I" } : Jvm.MethodName)) ∈ jw := jt8 (List.mem_of_getElem? (i := 60) (by decide +kernel)) rfl
set_option maxRecDepth 20000 in
theorem lk_8_61 : (Jvm.Cond.selects "PensionHouseModel" ({ cls := "PensionHouseModel", name := "inForce", desc := "(II)I" } : Jvm.MethodName) ({ cls := "PensionHouseModel", name := "inForce", desc := "(II)I" } : Jvm.MethodName)) ∈ jw := jt8 (List.mem_of_getElem? (i := 61) (by decide +kernel)) rfl
set_option maxRecDepth 20000 in
theorem lk_8_62 : (Jvm.Cond.code ({ cls := "PensionHouseModel", name := "inForce", desc := "(II)I" } : Jvm.MethodName) prog_14_method_99_code (4 : Nat) (Option.some Jvm.ClassFile.FieldType.int)) ∈ jw := jt8 (List.mem_of_getElem? (i := 62) (by exact rfl)) rfl
set_option maxRecDepth 20000 in
theorem lk_8_63 : (Jvm.Cond.methodLink "PensionHouseModel" (629 : Nat) ({ cls := "PensionHouseModel", name := "inForceAt", desc := "(II)I" } : Jvm.MethodName)) ∈ jw := jt8 (List.mem_of_getElem? (i := 63) (by decide +kernel)) rfl
set_option maxRecDepth 20000 in
theorem lk_8_65 : (Jvm.Cond.instanceMethod ({ cls := "PensionHouseModel", name := "inForceAt", desc := "(II)I" } : Jvm.MethodName)) ∈ jw := jt8 (List.mem_of_getElem? (i := 65) (by decide +kernel)) rfl
set_option maxRecDepth 20000 in
theorem lk_8_66 : (Jvm.Cond.code ({ cls := "PensionHouseModel", name := "inForceAt", desc := "(II)I" } : Jvm.MethodName) prog_14_method_98_code (5 : Nat) (Option.some Jvm.ClassFile.FieldType.int)) ∈ jw := jt8 (List.mem_of_getElem? (i := 66) (by exact rfl)) rfl
set_option maxRecDepth 20000 in
theorem lk_8_67 : (Jvm.Cond.methodLink "PensionHouseLaw" (91 : Nat) ({ cls := "PensionHouseModel", name := "figure", desc := "(IIII)I" } : Jvm.MethodName)) ∈ jw := jt8 (List.mem_of_getElem? (i := 67) (by decide +kernel)) rfl
set_option maxRecDepth 20000 in
theorem lk_8_68 : (Jvm.Cond.instanceMethod ({ cls := "PensionHouseModel", name := "figure", desc := "(IIII)I" } : Jvm.MethodName)) ∈ jw := jt8 (List.mem_of_getElem? (i := 68) (by decide +kernel)) rfl
set_option maxRecDepth 20000 in
theorem lk_8_69 : (Jvm.Cond.selects "PensionHouseModel" ({ cls := "PensionHouseModel", name := "figure", desc := "(IIII)I" } : Jvm.MethodName) ({ cls := "PensionHouseModel", name := "figure", desc := "(IIII)I" } : Jvm.MethodName)) ∈ jw := jt8 (List.mem_of_getElem? (i := 69) (by decide +kernel)) rfl
set_option maxRecDepth 20000 in
theorem lk_8_70 : (Jvm.Cond.code ({ cls := "PensionHouseModel", name := "figure", desc := "(IIII)I" } : Jvm.MethodName) prog_14_method_100_code (11 : Nat) (Option.some Jvm.ClassFile.FieldType.int)) ∈ jw := jt8 (List.mem_of_getElem? (i := 70) (by exact rfl)) rfl
set_option maxRecDepth 20000 in
theorem lk_8_71 : (Jvm.Cond.methodLink "PensionHouseModel" (632 : Nat) ({ cls := "PensionHouseModel", name := "beginCase", desc := "(IIIII)I" } : Jvm.MethodName)) ∈ jw := jt8 (List.mem_of_getElem? (i := 71) (by decide +kernel)) rfl
set_option maxRecDepth 20000 in
theorem lk_8_73 : (Jvm.Cond.instanceMethod ({ cls := "PensionHouseModel", name := "beginCase", desc := "(IIIII)I" } : Jvm.MethodName)) ∈ jw := jt8 (List.mem_of_getElem? (i := 73) (by decide +kernel)) rfl
set_option maxRecDepth 20000 in
theorem lk_8_74 : (Jvm.Cond.code ({ cls := "PensionHouseModel", name := "beginCase", desc := "(IIIII)I" } : Jvm.MethodName) prog_14_method_51_code (7 : Nat) (Option.some Jvm.ClassFile.FieldType.int)) ∈ jw := jt8 (List.mem_of_getElem? (i := 74) (by exact rfl)) rfl
set_option maxRecDepth 20000 in
theorem lk_8_75 : (Jvm.Cond.methodLink "PensionHouseModel" (448 : Nat) ({ cls := "PensionHouseModel", name := "workRule", desc := "(I)I" } : Jvm.MethodName)) ∈ jw := jt8 (List.mem_of_getElem? (i := 75) (by decide +kernel)) rfl
set_option maxRecDepth 20000 in
theorem lk_8_77 : (Jvm.Cond.instanceMethod ({ cls := "PensionHouseModel", name := "workRule", desc := "(I)I" } : Jvm.MethodName)) ∈ jw := jt8 (List.mem_of_getElem? (i := 77) (by decide +kernel)) rfl
set_option maxRecDepth 20000 in
theorem lk_8_78 : (Jvm.Cond.code ({ cls := "PensionHouseModel", name := "workRule", desc := "(I)I" } : Jvm.MethodName) prog_14_method_50_code (4 : Nat) (Option.some Jvm.ClassFile.FieldType.int)) ∈ jw := jt8 (List.mem_of_getElem? (i := 78) (by exact rfl)) rfl
set_option maxRecDepth 20000 in
theorem lk_8_79 : (Jvm.Cond.methodLink "PensionHouseModel" (427 : Nat) ({ cls := "PensionHouseModel", name := "workNode", desc := "(I)I" } : Jvm.MethodName)) ∈ jw := jt8 (List.mem_of_getElem? (i := 79) (by decide +kernel)) rfl
set_option maxRecDepth 20000 in
theorem lk_8_81 : (Jvm.Cond.instanceMethod ({ cls := "PensionHouseModel", name := "workNode", desc := "(I)I" } : Jvm.MethodName)) ∈ jw := jt8 (List.mem_of_getElem? (i := 81) (by decide +kernel)) rfl
set_option maxRecDepth 20000 in
theorem lk_8_82 : (Jvm.Cond.code ({ cls := "PensionHouseModel", name := "workNode", desc := "(I)I" } : Jvm.MethodName) prog_14_method_52_code (4 : Nat) (Option.some Jvm.ClassFile.FieldType.int)) ∈ jw := jt8 (List.mem_of_getElem? (i := 82) (by exact rfl)) rfl
set_option maxRecDepth 20000 in
theorem lk_8_83 : (Jvm.Cond.methodLink "PensionHouseModel" (451 : Nat) ({ cls := "PensionHouseModel", name := "counted", desc := "(I)Z" } : Jvm.MethodName)) ∈ jw := jt8 (List.mem_of_getElem? (i := 83) (by decide +kernel)) rfl
set_option maxRecDepth 20000 in
theorem lk_8_85 : (Jvm.Cond.instanceMethod ({ cls := "PensionHouseModel", name := "counted", desc := "(I)Z" } : Jvm.MethodName)) ∈ jw := jt8 (List.mem_of_getElem? (i := 85) (by decide +kernel)) rfl
set_option maxRecDepth 20000 in
theorem lk_8_86 : (Jvm.Cond.code ({ cls := "PensionHouseModel", name := "counted", desc := "(I)Z" } : Jvm.MethodName) prog_14_method_49_code (2 : Nat) (Option.some Jvm.ClassFile.FieldType.boolean)) ∈ jw := jt8 (List.mem_of_getElem? (i := 86) (by exact rfl)) rfl
set_option maxRecDepth 20000 in
theorem lk_8_87 : (Jvm.Cond.methodLink "PensionHouseModel" (421 : Nat) ({ cls := "PensionHouseModel", name := "failing", desc := "(I)I" } : Jvm.MethodName)) ∈ jw := jt8 (List.mem_of_getElem? (i := 87) (by decide +kernel)) rfl
set_option maxRecDepth 20000 in
theorem lk_8_89 : (Jvm.Cond.instanceMethod ({ cls := "PensionHouseModel", name := "failing", desc := "(I)I" } : Jvm.MethodName)) ∈ jw := jt8 (List.mem_of_getElem? (i := 89) (by decide +kernel)) rfl
set_option maxRecDepth 20000 in
theorem lk_8_90 : (Jvm.Cond.code ({ cls := "PensionHouseModel", name := "failing", desc := "(I)I" } : Jvm.MethodName) prog_14_method_48_code (2 : Nat) (Option.some Jvm.ClassFile.FieldType.int)) ∈ jw := jt8 (List.mem_of_getElem? (i := 90) (by exact rfl)) rfl
set_option maxRecDepth 20000 in
theorem lk_8_91 : (Jvm.Cond.methodLink "PensionHouseModel" (454 : Nat) ({ cls := "PensionHouseModel", name := "ofWhole", desc := "(J)I" } : Jvm.MethodName)) ∈ jw := jt8 (List.mem_of_getElem? (i := 91) (by decide +kernel)) rfl
set_option maxRecDepth 20000 in
theorem lk_8_93 : (Jvm.Cond.instanceMethod ({ cls := "PensionHouseModel", name := "ofWhole", desc := "(J)I" } : Jvm.MethodName)) ∈ jw := jt8 (List.mem_of_getElem? (i := 93) (by decide +kernel)) rfl
set_option maxRecDepth 20000 in
theorem lk_8_94 : (Jvm.Cond.code ({ cls := "PensionHouseModel", name := "ofWhole", desc := "(J)I" } : Jvm.MethodName) prog_14_method_5_code (4 : Nat) (Option.some Jvm.ClassFile.FieldType.int)) ∈ jw := jt8 (List.mem_of_getElem? (i := 94) (by exact rfl)) rfl
set_option maxRecDepth 20000 in
theorem lk_8_95 : (Jvm.Cond.methodLink "PensionHouseModel" (192 : Nat) ({ cls := "PensionHouseModel", name := "made", desc := "(II)I" } : Jvm.MethodName)) ∈ jw := jt8 (List.mem_of_getElem? (i := 95) (by decide +kernel)) rfl
set_option maxRecDepth 20000 in
theorem lk_8_97 : (Jvm.Cond.instanceMethod ({ cls := "PensionHouseModel", name := "made", desc := "(II)I" } : Jvm.MethodName)) ∈ jw := jt8 (List.mem_of_getElem? (i := 97) (by decide +kernel)) rfl
set_option maxRecDepth 20000 in
theorem lk_8_98 : (Jvm.Cond.code ({ cls := "PensionHouseModel", name := "made", desc := "(II)I" } : Jvm.MethodName) prog_14_method_3_code (4 : Nat) (Option.some Jvm.ClassFile.FieldType.int)) ∈ jw := jt8 (List.mem_of_getElem? (i := 98) (by exact rfl)) rfl
set_option maxRecDepth 20000 in
theorem lk_8_99 : (Jvm.Cond.methodLink "PensionHouseModel" (457 : Nat) ({ cls := "PensionHouseModel", name := "decimal", desc := "(JI)D" } : Jvm.MethodName)) ∈ jw := jt8 (List.mem_of_getElem? (i := 99) (by decide +kernel)) rfl
set_option maxRecDepth 20000 in
theorem lk_8_100 : (Jvm.Cond.static ({ cls := "PensionHouseModel", name := "decimal", desc := "(JI)D" } : Jvm.MethodName)) ∈ jw := jt8 (List.mem_of_getElem? (i := 100) (by decide +kernel)) rfl
set_option maxRecDepth 20000 in
theorem lk_8_101 : (Jvm.Cond.code ({ cls := "PensionHouseModel", name := "decimal", desc := "(JI)D" } : Jvm.MethodName) prog_14_method_53_code (6 : Nat) (Option.some Jvm.ClassFile.FieldType.double)) ∈ jw := jt8 (List.mem_of_getElem? (i := 101) (by exact rfl)) rfl
set_option maxRecDepth 20000 in
theorem lk_8_102 : (Jvm.Cond.constantDouble "PensionHouseModel" (483 : Nat) (4621819117588971520 : UInt64)) ∈ jw := jt8 (List.mem_of_getElem? (i := 102) (by decide +kernel)) rfl
set_option maxRecDepth 20000 in
theorem lk_8_103 : (Jvm.Cond.methodLink "PensionHouseModel" (461 : Nat) ({ cls := "PensionHouseModel", name := "ofReal", desc := "(D)I" } : Jvm.MethodName)) ∈ jw := jt8 (List.mem_of_getElem? (i := 103) (by decide +kernel)) rfl
set_option maxRecDepth 20000 in
theorem lk_8_105 : (Jvm.Cond.instanceMethod ({ cls := "PensionHouseModel", name := "ofReal", desc := "(D)I" } : Jvm.MethodName)) ∈ jw := jt8 (List.mem_of_getElem? (i := 105) (by decide +kernel)) rfl
set_option maxRecDepth 20000 in
theorem lk_8_106 : (Jvm.Cond.code ({ cls := "PensionHouseModel", name := "ofReal", desc := "(D)I" } : Jvm.MethodName) prog_14_method_6_code (4 : Nat) (Option.some Jvm.ClassFile.FieldType.int)) ∈ jw := jt8 (List.mem_of_getElem? (i := 106) (by exact rfl)) rfl
set_option maxRecDepth 20000 in
theorem lk_8_107 : (Jvm.Cond.methodLink "PensionHouseModel" (465 : Nat) ({ cls := "PensionHouseModel", name := "workFact", desc := "(J)I" } : Jvm.MethodName)) ∈ jw := jt8 (List.mem_of_getElem? (i := 107) (by decide +kernel)) rfl
set_option maxRecDepth 20000 in
theorem lk_8_109 : (Jvm.Cond.instanceMethod ({ cls := "PensionHouseModel", name := "workFact", desc := "(J)I" } : Jvm.MethodName)) ∈ jw := jt8 (List.mem_of_getElem? (i := 109) (by decide +kernel)) rfl
set_option maxRecDepth 20000 in
theorem lk_8_110 : (Jvm.Cond.code ({ cls := "PensionHouseModel", name := "workFact", desc := "(J)I" } : Jvm.MethodName) prog_14_method_54_code (4 : Nat) (Option.some Jvm.ClassFile.FieldType.int)) ∈ jw := jt8 (List.mem_of_getElem? (i := 110) (by exact rfl)) rfl
set_option maxRecDepth 20000 in
theorem lk_8_111 : (Jvm.Cond.methodLink "PensionHouseModel" (468 : Nat) ({ cls := "PensionHouseModel", name := "negative", desc := "(I)I" } : Jvm.MethodName)) ∈ jw := jt8 (List.mem_of_getElem? (i := 111) (by decide +kernel)) rfl
set_option maxRecDepth 20000 in
theorem lk_8_113 : (Jvm.Cond.instanceMethod ({ cls := "PensionHouseModel", name := "negative", desc := "(I)I" } : Jvm.MethodName)) ∈ jw := jt8 (List.mem_of_getElem? (i := 113) (by decide +kernel)) rfl
set_option maxRecDepth 20000 in
theorem lk_8_114 : (Jvm.Cond.code ({ cls := "PensionHouseModel", name := "negative", desc := "(I)I" } : Jvm.MethodName) prog_14_method_55_code (4 : Nat) (Option.some Jvm.ClassFile.FieldType.int)) ∈ jw := jt8 (List.mem_of_getElem? (i := 114) (by exact rfl)) rfl
set_option maxRecDepth 20000 in
theorem lk_8_115 : (Jvm.Cond.methodLink "PensionHouseModel" (489 : Nat) ({ cls := "PensionHouseModel", name := "isNumber", desc := "(I)Z" } : Jvm.MethodName)) ∈ jw := jt8 (List.mem_of_getElem? (i := 115) (by decide +kernel)) rfl
set_option maxRecDepth 20000 in
theorem lk_8_116 : (Jvm.Cond.static ({ cls := "PensionHouseModel", name := "isNumber", desc := "(I)Z" } : Jvm.MethodName)) ∈ jw := jt8 (List.mem_of_getElem? (i := 116) (by decide +kernel)) rfl
set_option maxRecDepth 20000 in
theorem lk_8_117 : (Jvm.Cond.code ({ cls := "PensionHouseModel", name := "isNumber", desc := "(I)Z" } : Jvm.MethodName) prog_14_method_9_code (1 : Nat) (Option.some Jvm.ClassFile.FieldType.boolean)) ∈ jw := jt8 (List.mem_of_getElem? (i := 117) (by exact rfl)) rfl
set_option maxRecDepth 20000 in
theorem lk_8_118 : (Jvm.Cond.methodLink "PensionHouseModel" (471 : Nat) ({ cls := "PensionHouseModel", name := "workIf", desc := "(I)I" } : Jvm.MethodName)) ∈ jw := jt8 (List.mem_of_getElem? (i := 118) (by decide +kernel)) rfl
set_option maxRecDepth 20000 in
theorem lk_8_120 : (Jvm.Cond.instanceMethod ({ cls := "PensionHouseModel", name := "workIf", desc := "(I)I" } : Jvm.MethodName)) ∈ jw := jt8 (List.mem_of_getElem? (i := 120) (by decide +kernel)) rfl
set_option maxRecDepth 20000 in
theorem lk_8_121 : (Jvm.Cond.code ({ cls := "PensionHouseModel", name := "workIf", desc := "(I)I" } : Jvm.MethodName) prog_14_method_56_code (3 : Nat) (Option.some Jvm.ClassFile.FieldType.int)) ∈ jw := jt8 (List.mem_of_getElem? (i := 121) (by exact rfl)) rfl
set_option maxRecDepth 20000 in
theorem lk_8_122 : (Jvm.Cond.methodLink "PensionHouseModel" (474 : Nat) ({ cls := "PensionHouseModel", name := "workTry", desc := "(I)I" } : Jvm.MethodName)) ∈ jw := jt8 (List.mem_of_getElem? (i := 122) (by decide +kernel)) rfl
set_option maxRecDepth 20000 in
theorem lk_8_124 : (Jvm.Cond.instanceMethod ({ cls := "PensionHouseModel", name := "workTry", desc := "(I)I" } : Jvm.MethodName)) ∈ jw := jt8 (List.mem_of_getElem? (i := 124) (by decide +kernel)) rfl
set_option maxRecDepth 20000 in
theorem lk_8_125 : (Jvm.Cond.code ({ cls := "PensionHouseModel", name := "workTry", desc := "(I)I" } : Jvm.MethodName) prog_14_method_57_code (3 : Nat) (Option.some Jvm.ClassFile.FieldType.int)) ∈ jw := jt8 (List.mem_of_getElem? (i := 125) (by exact rfl)) rfl
set_option maxRecDepth 20000 in
theorem lk_8_126 : (Jvm.Cond.methodLink "PensionHouseModel" (477 : Nat) ({ cls := "PensionHouseModel", name := "workSum", desc := "(I)I" } : Jvm.MethodName)) ∈ jw := jt8 (List.mem_of_getElem? (i := 126) (by decide +kernel)) rfl
set_option maxRecDepth 20000 in
theorem lk_8_128 : (Jvm.Cond.instanceMethod ({ cls := "PensionHouseModel", name := "workSum", desc := "(I)I" } : Jvm.MethodName)) ∈ jw := jt8 (List.mem_of_getElem? (i := 128) (by decide +kernel)) rfl
set_option maxRecDepth 20000 in
theorem lk_8_129 : (Jvm.Cond.code ({ cls := "PensionHouseModel", name := "workSum", desc := "(I)I" } : Jvm.MethodName) prog_14_method_58_code (11 : Nat) (Option.some Jvm.ClassFile.FieldType.int)) ∈ jw := jt8 (List.mem_of_getElem? (i := 129) (by exact rfl)) rfl
set_option maxRecDepth 20000 in
theorem lk_8_130 : (Jvm.Cond.methodLink "PensionHouseModel" (492 : Nat) ({ cls := "PensionHouseModel", name := "arithmetic", desc := "(III)I" } : Jvm.MethodName)) ∈ jw := jt8 (List.mem_of_getElem? (i := 130) (by decide +kernel)) rfl
set_option maxRecDepth 20000 in
theorem lk_8_132 : (Jvm.Cond.instanceMethod ({ cls := "PensionHouseModel", name := "arithmetic", desc := "(III)I" } : Jvm.MethodName)) ∈ jw := jt8 (List.mem_of_getElem? (i := 132) (by decide +kernel)) rfl
set_option maxRecDepth 20000 in
theorem lk_8_133 : (Jvm.Cond.code ({ cls := "PensionHouseModel", name := "arithmetic", desc := "(III)I" } : Jvm.MethodName) prog_14_method_66_code (8 : Nat) (Option.some Jvm.ClassFile.FieldType.int)) ∈ jw := jt8 (List.mem_of_getElem? (i := 133) (by exact rfl)) rfl
set_option maxRecDepth 20000 in
theorem lk_8_134 : (Jvm.Cond.methodLink "PensionHouseModel" (524 : Nat) ({ cls := "PensionHouseModel", name := "asReal", desc := "(I)D" } : Jvm.MethodName)) ∈ jw := jt8 (List.mem_of_getElem? (i := 134) (by decide +kernel)) rfl
set_option maxRecDepth 20000 in
theorem lk_8_136 : (Jvm.Cond.instanceMethod ({ cls := "PensionHouseModel", name := "asReal", desc := "(I)D" } : Jvm.MethodName)) ∈ jw := jt8 (List.mem_of_getElem? (i := 136) (by decide +kernel)) rfl
set_option maxRecDepth 20000 in
theorem lk_8_137 : (Jvm.Cond.code ({ cls := "PensionHouseModel", name := "asReal", desc := "(I)D" } : Jvm.MethodName) prog_14_method_11_code (2 : Nat) (Option.some Jvm.ClassFile.FieldType.double)) ∈ jw := jt8 (List.mem_of_getElem? (i := 137) (by exact rfl)) rfl
set_option maxRecDepth 20000 in
theorem lk_8_138 : (Jvm.Cond.methodLink "PensionHouseModel" (528 : Nat) ({ cls := "PensionHouseModel", name := "plus", desc := "(DD)D" } : Jvm.MethodName)) ∈ jw := jt8 (List.mem_of_getElem? (i := 138) (by decide +kernel)) rfl
set_option maxRecDepth 20000 in
theorem lk_8_139 : (Jvm.Cond.static ({ cls := "PensionHouseModel", name := "plus", desc := "(DD)D" } : Jvm.MethodName)) ∈ jw := jt8 (List.mem_of_getElem? (i := 139) (by decide +kernel)) rfl
set_option maxRecDepth 20000 in
theorem lk_8_140 : (Jvm.Cond.code ({ cls := "PensionHouseModel", name := "plus", desc := "(DD)D" } : Jvm.MethodName) prog_14_method_61_code (5 : Nat) (Option.some Jvm.ClassFile.FieldType.double)) ∈ jw := jt8 (List.mem_of_getElem? (i := 140) (by exact rfl)) rfl
set_option maxRecDepth 20000 in
theorem lk_8_141 : (Jvm.Cond.methodLink "PensionHouseModel" (520 : Nat) ({ cls := "PensionHouseModel", name := "isEndless", desc := "(D)Z" } : Jvm.MethodName)) ∈ jw := jt8 (List.mem_of_getElem? (i := 141) (by decide +kernel)) rfl
set_option maxRecDepth 20000 in
theorem lk_8_142 : (Jvm.Cond.static ({ cls := "PensionHouseModel", name := "isEndless", desc := "(D)Z" } : Jvm.MethodName)) ∈ jw := jt8 (List.mem_of_getElem? (i := 142) (by decide +kernel)) rfl
set_option maxRecDepth 20000 in
theorem lk_8_143 : (Jvm.Cond.code ({ cls := "PensionHouseModel", name := "isEndless", desc := "(D)Z" } : Jvm.MethodName) prog_14_method_60_code (2 : Nat) (Option.some Jvm.ClassFile.FieldType.boolean)) ∈ jw := jt8 (List.mem_of_getElem? (i := 143) (by exact rfl)) rfl
set_option maxRecDepth 20000 in
theorem lk_8_144 : (Jvm.Cond.methodLink "PensionHouseModel" (532 : Nat) ({ cls := "PensionHouseModel", name := "minus", desc := "(DD)D" } : Jvm.MethodName)) ∈ jw := jt8 (List.mem_of_getElem? (i := 144) (by decide +kernel)) rfl
set_option maxRecDepth 20000 in
theorem lk_8_145 : (Jvm.Cond.static ({ cls := "PensionHouseModel", name := "minus", desc := "(DD)D" } : Jvm.MethodName)) ∈ jw := jt8 (List.mem_of_getElem? (i := 145) (by decide +kernel)) rfl
set_option maxRecDepth 20000 in
theorem lk_8_146 : (Jvm.Cond.code ({ cls := "PensionHouseModel", name := "minus", desc := "(DD)D" } : Jvm.MethodName) prog_14_method_62_code (5 : Nat) (Option.some Jvm.ClassFile.FieldType.double)) ∈ jw := jt8 (List.mem_of_getElem? (i := 146) (by exact rfl)) rfl
set_option maxRecDepth 20000 in
theorem lk_8_147 : (Jvm.Cond.methodLink "PensionHouseModel" (535 : Nat) ({ cls := "PensionHouseModel", name := "times", desc := "(DD)D" } : Jvm.MethodName)) ∈ jw := jt8 (List.mem_of_getElem? (i := 147) (by decide +kernel)) rfl
set_option maxRecDepth 20000 in
theorem lk_8_148 : (Jvm.Cond.static ({ cls := "PensionHouseModel", name := "times", desc := "(DD)D" } : Jvm.MethodName)) ∈ jw := jt8 (List.mem_of_getElem? (i := 148) (by decide +kernel)) rfl
set_option maxRecDepth 20000 in
theorem lk_8_149 : (Jvm.Cond.code ({ cls := "PensionHouseModel", name := "times", desc := "(DD)D" } : Jvm.MethodName) prog_14_method_63_code (5 : Nat) (Option.some Jvm.ClassFile.FieldType.double)) ∈ jw := jt8 (List.mem_of_getElem? (i := 149) (by exact rfl)) rfl
set_option maxRecDepth 20000 in
theorem lk_8_150 : (Jvm.Cond.methodLink "PensionHouseModel" (538 : Nat) ({ cls := "PensionHouseModel", name := "by", desc := "(DD)D" } : Jvm.MethodName)) ∈ jw := jt8 (List.mem_of_getElem? (i := 150) (by decide +kernel)) rfl
set_option maxRecDepth 20000 in
theorem lk_8_151 : (Jvm.Cond.static ({ cls := "PensionHouseModel", name := "by", desc := "(DD)D" } : Jvm.MethodName)) ∈ jw := jt8 (List.mem_of_getElem? (i := 151) (by decide +kernel)) rfl
set_option maxRecDepth 20000 in
theorem lk_8_152 : (Jvm.Cond.code ({ cls := "PensionHouseModel", name := "by", desc := "(DD)D" } : Jvm.MethodName) prog_14_method_64_code (5 : Nat) (Option.some Jvm.ClassFile.FieldType.double)) ∈ jw := jt8 (List.mem_of_getElem? (i := 152) (by exact rfl)) rfl
set_option maxRecDepth 20000 in
theorem lk_8_153 : (Jvm.Cond.methodLink "PensionHouseModel" (541 : Nat) ({ cls := "PensionHouseModel", name := "rest", desc := "(DD)D" } : Jvm.MethodName)) ∈ jw := jt8 (List.mem_of_getElem? (i := 153) (by decide +kernel)) rfl
set_option maxRecDepth 20000 in
theorem lk_8_154 : (Jvm.Cond.static ({ cls := "PensionHouseModel", name := "rest", desc := "(DD)D" } : Jvm.MethodName)) ∈ jw := jt8 (List.mem_of_getElem? (i := 154) (by decide +kernel)) rfl
set_option maxRecDepth 20000 in
theorem lk_8_155 : (Jvm.Cond.code ({ cls := "PensionHouseModel", name := "rest", desc := "(DD)D" } : Jvm.MethodName) prog_14_method_65_code (5 : Nat) (Option.some Jvm.ClassFile.FieldType.double)) ∈ jw := jt8 (List.mem_of_getElem? (i := 155) (by exact rfl)) rfl
set_option maxRecDepth 20000 in
theorem lk_8_156 : (Jvm.Cond.methodLink "PensionHouseModel" (544 : Nat) ({ cls := "PensionHouseModel", name := "whole", desc := "(IJJ)I" } : Jvm.MethodName)) ∈ jw := jt8 (List.mem_of_getElem? (i := 156) (by decide +kernel)) rfl
set_option maxRecDepth 20000 in
theorem lk_8_158 : (Jvm.Cond.instanceMethod ({ cls := "PensionHouseModel", name := "whole", desc := "(IJJ)I" } : Jvm.MethodName)) ∈ jw := jt8 (List.mem_of_getElem? (i := 158) (by decide +kernel)) rfl
set_option maxRecDepth 20000 in
theorem lk_8_159 : (Jvm.Cond.code ({ cls := "PensionHouseModel", name := "whole", desc := "(IJJ)I" } : Jvm.MethodName) prog_14_method_67_code (9 : Nat) (Option.some Jvm.ClassFile.FieldType.int)) ∈ jw := jt8 (List.mem_of_getElem? (i := 159) (by exact rfl)) rfl
set_option maxRecDepth 20000 in
theorem lk_8_160 : (Jvm.Cond.methodLink "PensionHouseModel" (480 : Nat) ({ cls := "PensionHouseModel", name := "workMore", desc := "(II)I" } : Jvm.MethodName)) ∈ jw := jt8 (List.mem_of_getElem? (i := 160) (by decide +kernel)) rfl
set_option maxRecDepth 20000 in
theorem lk_8_162 : (Jvm.Cond.instanceMethod ({ cls := "PensionHouseModel", name := "workMore", desc := "(II)I" } : Jvm.MethodName)) ∈ jw := jt8 (List.mem_of_getElem? (i := 162) (by decide +kernel)) rfl
set_option maxRecDepth 20000 in
theorem lk_8_163 : (Jvm.Cond.code ({ cls := "PensionHouseModel", name := "workMore", desc := "(II)I" } : Jvm.MethodName) prog_14_method_59_code (6 : Nat) (Option.some Jvm.ClassFile.FieldType.int)) ∈ jw := jt8 (List.mem_of_getElem? (i := 163) (by exact rfl)) rfl
set_option maxRecDepth 20000 in
theorem lk_8_164 : (Jvm.Cond.methodLink "PensionHouseModel" (496 : Nat) ({ cls := "PensionHouseModel", name := "compare", desc := "(III)I" } : Jvm.MethodName)) ∈ jw := jt8 (List.mem_of_getElem? (i := 164) (by decide +kernel)) rfl
set_option maxRecDepth 20000 in
theorem lk_8_166 : (Jvm.Cond.instanceMethod ({ cls := "PensionHouseModel", name := "compare", desc := "(III)I" } : Jvm.MethodName)) ∈ jw := jt8 (List.mem_of_getElem? (i := 166) (by decide +kernel)) rfl
set_option maxRecDepth 20000 in
theorem lk_8_167 : (Jvm.Cond.code ({ cls := "PensionHouseModel", name := "compare", desc := "(III)I" } : Jvm.MethodName) prog_14_method_68_code (9 : Nat) (Option.some Jvm.ClassFile.FieldType.int)) ∈ jw := jt8 (List.mem_of_getElem? (i := 167) (by exact rfl)) rfl
set_option maxRecDepth 20000 in
theorem lk_8_168 : (Jvm.Cond.methodLink "PensionHouseModel" (499 : Nat) ({ cls := "PensionHouseModel", name := "item", desc := "(II)I" } : Jvm.MethodName)) ∈ jw := jt8 (List.mem_of_getElem? (i := 168) (by decide +kernel)) rfl
set_option maxRecDepth 20000 in
theorem lk_8_170 : (Jvm.Cond.instanceMethod ({ cls := "PensionHouseModel", name := "item", desc := "(II)I" } : Jvm.MethodName)) ∈ jw := jt8 (List.mem_of_getElem? (i := 170) (by decide +kernel)) rfl
set_option maxRecDepth 20000 in
theorem lk_8_171 : (Jvm.Cond.code ({ cls := "PensionHouseModel", name := "item", desc := "(II)I" } : Jvm.MethodName) prog_14_method_69_code (7 : Nat) (Option.some Jvm.ClassFile.FieldType.int)) ∈ jw := jt8 (List.mem_of_getElem? (i := 171) (by exact rfl)) rfl
set_option maxRecDepth 20000 in
theorem lk_8_172 : (Jvm.Cond.methodLink "PensionHouseModel" (502 : Nat) ({ cls := "PensionHouseModel", name := "extreme", desc := "(III)I" } : Jvm.MethodName)) ∈ jw := jt8 (List.mem_of_getElem? (i := 172) (by decide +kernel)) rfl
set_option maxRecDepth 20000 in
theorem lk_8_174 : (Jvm.Cond.instanceMethod ({ cls := "PensionHouseModel", name := "extreme", desc := "(III)I" } : Jvm.MethodName)) ∈ jw := jt8 (List.mem_of_getElem? (i := 174) (by decide +kernel)) rfl
set_option maxRecDepth 20000 in
theorem lk_8_175 : (Jvm.Cond.code ({ cls := "PensionHouseModel", name := "extreme", desc := "(III)I" } : Jvm.MethodName) prog_14_method_71_code (8 : Nat) (Option.some Jvm.ClassFile.FieldType.int)) ∈ jw := jt8 (List.mem_of_getElem? (i := 175) (by exact rfl)) rfl
set_option maxRecDepth 20000 in
theorem lk_8_176 : (Jvm.Cond.methodLink "PensionHouseModel" (558 : Nat) ({ cls := "PensionHouseModel", name := "isAbove", desc := "(DD)Z" } : Jvm.MethodName)) ∈ jw := jt8 (List.mem_of_getElem? (i := 176) (by decide +kernel)) rfl
set_option maxRecDepth 20000 in
theorem lk_8_177 : (Jvm.Cond.static ({ cls := "PensionHouseModel", name := "isAbove", desc := "(DD)Z" } : Jvm.MethodName)) ∈ jw := jt8 (List.mem_of_getElem? (i := 177) (by decide +kernel)) rfl
set_option maxRecDepth 20000 in
theorem lk_8_178 : (Jvm.Cond.code ({ cls := "PensionHouseModel", name := "isAbove", desc := "(DD)Z" } : Jvm.MethodName) prog_14_method_70_code (4 : Nat) (Option.some Jvm.ClassFile.FieldType.boolean)) ∈ jw := jt8 (List.mem_of_getElem? (i := 178) (by exact rfl)) rfl
set_option maxRecDepth 20000 in
theorem lk_8_179 : (Jvm.Cond.methodLink "PensionHouseModel" (555 : Nat) ({ cls := "PensionHouseModel", name := "isBelowZero", desc := "(D)Z" } : Jvm.MethodName)) ∈ jw := jt8 (List.mem_of_getElem? (i := 179) (by decide +kernel)) rfl
set_option maxRecDepth 20000 in
theorem lk_8_180 : (Jvm.Cond.static ({ cls := "PensionHouseModel", name := "isBelowZero", desc := "(D)Z" } : Jvm.MethodName)) ∈ jw := jt8 (List.mem_of_getElem? (i := 180) (by decide +kernel)) rfl
set_option maxRecDepth 20000 in
theorem lk_8_181 : (Jvm.Cond.code ({ cls := "PensionHouseModel", name := "isBelowZero", desc := "(D)Z" } : Jvm.MethodName) prog_14_method_14_code (2 : Nat) (Option.some Jvm.ClassFile.FieldType.boolean)) ∈ jw := jt8 (List.mem_of_getElem? (i := 181) (by exact rfl)) rfl
set_option maxRecDepth 20000 in
theorem lk_8_182 : (Jvm.Cond.methodLink "PensionHouseModel" (505 : Nat) ({ cls := "PensionHouseModel", name := "last", desc := "(II)I" } : Jvm.MethodName)) ∈ jw := jt8 (List.mem_of_getElem? (i := 182) (by decide +kernel)) rfl
set_option maxRecDepth 20000 in
theorem lk_8_184 : (Jvm.Cond.instanceMethod ({ cls := "PensionHouseModel", name := "last", desc := "(II)I" } : Jvm.MethodName)) ∈ jw := jt8 (List.mem_of_getElem? (i := 184) (by decide +kernel)) rfl
set_option maxRecDepth 20000 in
theorem lk_8_185 : (Jvm.Cond.code ({ cls := "PensionHouseModel", name := "last", desc := "(II)I" } : Jvm.MethodName) prog_14_method_72_code (6 : Nat) (Option.some Jvm.ClassFile.FieldType.int)) ∈ jw := jt8 (List.mem_of_getElem? (i := 185) (by exact rfl)) rfl
set_option maxRecDepth 20000 in
theorem lk_8_186 : (Jvm.Cond.methodLink "PensionHouseModel" (562 : Nat) ({ cls := "PensionHouseModel", name := "put", desc := "(IIIII)V" } : Jvm.MethodName)) ∈ jw := jt8 (List.mem_of_getElem? (i := 186) (by decide +kernel)) rfl
set_option maxRecDepth 20000 in
theorem lk_8_188 : (Jvm.Cond.instanceMethod ({ cls := "PensionHouseModel", name := "put", desc := "(IIIII)V" } : Jvm.MethodName)) ∈ jw := jt8 (List.mem_of_getElem? (i := 188) (by decide +kernel)) rfl
set_option maxRecDepth 20000 in
theorem lk_8_189 : (Jvm.Cond.code ({ cls := "PensionHouseModel", name := "put", desc := "(IIIII)V" } : Jvm.MethodName) prog_14_method_73_code (7 : Nat) (Option.none : Option Jvm.ClassFile.FieldType)) ∈ jw := jt8 (List.mem_of_getElem? (i := 189) (by exact rfl)) rfl
set_option maxRecDepth 20000 in
theorem lk_8_190 : (Jvm.Cond.methodLink "PensionHouseModel" (508 : Nat) ({ cls := "PensionHouseModel", name := "join", desc := "(II)I" } : Jvm.MethodName)) ∈ jw := jt8 (List.mem_of_getElem? (i := 190) (by decide +kernel)) rfl
set_option maxRecDepth 20000 in
theorem lk_8_192 : (Jvm.Cond.instanceMethod ({ cls := "PensionHouseModel", name := "join", desc := "(II)I" } : Jvm.MethodName)) ∈ jw := jt8 (List.mem_of_getElem? (i := 192) (by decide +kernel)) rfl
set_option maxRecDepth 20000 in
theorem lk_8_193 : (Jvm.Cond.code ({ cls := "PensionHouseModel", name := "join", desc := "(II)I" } : Jvm.MethodName) prog_14_method_75_code (4 : Nat) (Option.some Jvm.ClassFile.FieldType.int)) ∈ jw := jt8 (List.mem_of_getElem? (i := 193) (by exact rfl)) rfl
set_option maxRecDepth 20000 in
theorem lk_8_194 : (Jvm.Cond.methodLink "PensionHouseModel" (511 : Nat) ({ cls := "PensionHouseModel", name := "with", desc := "(III)I" } : Jvm.MethodName)) ∈ jw := jt8 (List.mem_of_getElem? (i := 194) (by decide +kernel)) rfl
set_option maxRecDepth 20000 in
theorem lk_8_196 : (Jvm.Cond.instanceMethod ({ cls := "PensionHouseModel", name := "with", desc := "(III)I" } : Jvm.MethodName)) ∈ jw := jt8 (List.mem_of_getElem? (i := 196) (by decide +kernel)) rfl
set_option maxRecDepth 20000 in
theorem lk_8_197 : (Jvm.Cond.code ({ cls := "PensionHouseModel", name := "with", desc := "(III)I" } : Jvm.MethodName) prog_14_method_76_code (10 : Nat) (Option.some Jvm.ClassFile.FieldType.int)) ∈ jw := jt8 (List.mem_of_getElem? (i := 197) (by exact rfl)) rfl
set_option maxRecDepth 20000 in
theorem lk_8_198 : (Jvm.Cond.methodLink "PensionHouseModel" (514 : Nat) ({ cls := "PensionHouseModel", name := "best", desc := "(II)I" } : Jvm.MethodName)) ∈ jw := jt8 (List.mem_of_getElem? (i := 198) (by decide +kernel)) rfl
set_option maxRecDepth 20000 in
theorem lk_8_200 : (Jvm.Cond.instanceMethod ({ cls := "PensionHouseModel", name := "best", desc := "(II)I" } : Jvm.MethodName)) ∈ jw := jt8 (List.mem_of_getElem? (i := 200) (by decide +kernel)) rfl
set_option maxRecDepth 20000 in
theorem lk_8_201 : (Jvm.Cond.code ({ cls := "PensionHouseModel", name := "best", desc := "(II)I" } : Jvm.MethodName) prog_14_method_77_code (15 : Nat) (Option.some Jvm.ClassFile.FieldType.int)) ∈ jw := jt8 (List.mem_of_getElem? (i := 201) (by exact rfl)) rfl
set_option maxRecDepth 20000 in
theorem lk_8_202 : (Jvm.Cond.methodLink "PensionHouseModel" (517 : Nat) ({ cls := "PensionHouseModel", name := "function", desc := "(II)I" } : Jvm.MethodName)) ∈ jw := jt8 (List.mem_of_getElem? (i := 202) (by decide +kernel)) rfl
set_option maxRecDepth 20000 in
theorem lk_8_204 : (Jvm.Cond.instanceMethod ({ cls := "PensionHouseModel", name := "function", desc := "(II)I" } : Jvm.MethodName)) ∈ jw := jt8 (List.mem_of_getElem? (i := 204) (by decide +kernel)) rfl
set_option maxRecDepth 20000 in
theorem lk_8_205 : (Jvm.Cond.code ({ cls := "PensionHouseModel", name := "function", desc := "(II)I" } : Jvm.MethodName) prog_14_method_78_code (6 : Nat) (Option.some Jvm.ClassFile.FieldType.int)) ∈ jw := jt8 (List.mem_of_getElem? (i := 205) (by exact rfl)) rfl
set_option maxRecDepth 20000 in
theorem lk_8_206 : (Jvm.Cond.methodLink "PensionHouseModel" (572 : Nat) ({ cls := "PensionHouseModel", name := "floor", desc := "(D)D" } : Jvm.MethodName)) ∈ jw := jt8 (List.mem_of_getElem? (i := 206) (by decide +kernel)) rfl
set_option maxRecDepth 20000 in
theorem lk_8_207 : (Jvm.Cond.static ({ cls := "PensionHouseModel", name := "floor", desc := "(D)D" } : Jvm.MethodName)) ∈ jw := jt8 (List.mem_of_getElem? (i := 207) (by decide +kernel)) rfl
set_option maxRecDepth 20000 in
theorem lk_8_208 : (Jvm.Cond.code ({ cls := "PensionHouseModel", name := "floor", desc := "(D)D" } : Jvm.MethodName) prog_14_method_15_code (4 : Nat) (Option.some Jvm.ClassFile.FieldType.double)) ∈ jw := jt8 (List.mem_of_getElem? (i := 208) (by exact rfl)) rfl
set_option maxRecDepth 20000 in
theorem lk_8_209 : (Jvm.Cond.constantDouble "PensionHouseModel" (226 : Nat) (14064741636278059008 : UInt64)) ∈ jw := jt8 (List.mem_of_getElem? (i := 209) (by decide +kernel)) rfl
set_option maxRecDepth 20000 in
theorem lk_8_210 : (Jvm.Cond.constantDouble "PensionHouseModel" (228 : Nat) (9223372036854775808 : UInt64)) ∈ jw := jt8 (List.mem_of_getElem? (i := 210) (by decide +kernel)) rfl
set_option maxRecDepth 20000 in
theorem lk_8_211 : (Jvm.Cond.methodLink "PensionHouseModel" (576 : Nat) ({ cls := "PensionHouseModel", name := "near", desc := "(D)D" } : Jvm.MethodName)) ∈ jw := jt8 (List.mem_of_getElem? (i := 211) (by decide +kernel)) rfl
set_option maxRecDepth 20000 in
theorem lk_8_212 : (Jvm.Cond.static ({ cls := "PensionHouseModel", name := "near", desc := "(D)D" } : Jvm.MethodName)) ∈ jw := jt8 (List.mem_of_getElem? (i := 212) (by decide +kernel)) rfl
set_option maxRecDepth 20000 in
theorem lk_8_213 : (Jvm.Cond.code ({ cls := "PensionHouseModel", name := "near", desc := "(D)D" } : Jvm.MethodName) prog_14_method_16_code (4 : Nat) (Option.some Jvm.ClassFile.FieldType.double)) ∈ jw := jt8 (List.mem_of_getElem? (i := 213) (by exact rfl)) rfl
set_option maxRecDepth 20000 in
theorem lk_8_214 : (Jvm.Cond.methodLink "PensionHouseModel" (579 : Nat) ({ cls := "PensionHouseModel", name := "root", desc := "(D)D" } : Jvm.MethodName)) ∈ jw := jt8 (List.mem_of_getElem? (i := 214) (by decide +kernel)) rfl
set_option maxRecDepth 20000 in
theorem lk_8_215 : (Jvm.Cond.static ({ cls := "PensionHouseModel", name := "root", desc := "(D)D" } : Jvm.MethodName)) ∈ jw := jt8 (List.mem_of_getElem? (i := 215) (by decide +kernel)) rfl
set_option maxRecDepth 20000 in
theorem lk_8_216 : (Jvm.Cond.code ({ cls := "PensionHouseModel", name := "root", desc := "(D)D" } : Jvm.MethodName) prog_14_method_17_code (17 : Nat) (Option.some Jvm.ClassFile.FieldType.double)) ∈ jw := jt8 (List.mem_of_getElem? (i := 216) (by exact rfl)) rfl
set_option maxRecDepth 20000 in
theorem lk_8_217 : (Jvm.Cond.constantLong "PensionHouseModel" (234 : Nat) (9007199254740992 : Int64)) ∈ jw := jt8 (List.mem_of_getElem? (i := 217) (by decide +kernel)) rfl
set_option maxRecDepth 20000 in
theorem lk_8_218 : (Jvm.Cond.methodLink "PensionHouseLaw" (95 : Nat) ({ cls := "PensionHouseModel", name := "told", desc := "(I)I" } : Jvm.MethodName)) ∈ jw := jt8 (List.mem_of_getElem? (i := 218) (by decide +kernel)) rfl
set_option maxRecDepth 20000 in
theorem lk_8_219 : (Jvm.Cond.instanceMethod ({ cls := "PensionHouseModel", name := "told", desc := "(I)I" } : Jvm.MethodName)) ∈ jw := jt8 (List.mem_of_getElem? (i := 219) (by decide +kernel)) rfl
set_option maxRecDepth 20000 in
theorem lk_8_220 : (Jvm.Cond.selects "PensionHouseModel" ({ cls := "PensionHouseModel", name := "told", desc := "(I)I" } : Jvm.MethodName) ({ cls := "PensionHouseModel", name := "told", desc := "(I)I" } : Jvm.MethodName)) ∈ jw := jt8 (List.mem_of_getElem? (i := 220) (by decide +kernel)) rfl
set_option maxRecDepth 20000 in
theorem lk_8_221 : (Jvm.Cond.code ({ cls := "PensionHouseModel", name := "told", desc := "(I)I" } : Jvm.MethodName) prog_14_method_101_code (2 : Nat) (Option.some Jvm.ClassFile.FieldType.int)) ∈ jw := jt8 (List.mem_of_getElem? (i := 221) (by exact rfl)) rfl
set_option maxRecDepth 20000 in
theorem lk_8_222 : (Jvm.Cond.methodLink "PensionHouseLaw" (99 : Nat) ({ cls := "PensionHouseModel", name := "step", desc := "(I)I" } : Jvm.MethodName)) ∈ jw := jt8 (List.mem_of_getElem? (i := 222) (by decide +kernel)) rfl
set_option maxRecDepth 20000 in
theorem lk_8_223 : (Jvm.Cond.instanceMethod ({ cls := "PensionHouseModel", name := "step", desc := "(I)I" } : Jvm.MethodName)) ∈ jw := jt8 (List.mem_of_getElem? (i := 223) (by decide +kernel)) rfl
set_option maxRecDepth 20000 in
theorem lk_8_224 : (Jvm.Cond.selects "PensionHouseModel" ({ cls := "PensionHouseModel", name := "step", desc := "(I)I" } : Jvm.MethodName) ({ cls := "PensionHouseModel", name := "step", desc := "(I)I" } : Jvm.MethodName)) ∈ jw := jt8 (List.mem_of_getElem? (i := 224) (by decide +kernel)) rfl
set_option maxRecDepth 20000 in
theorem lk_8_225 : (Jvm.Cond.code ({ cls := "PensionHouseModel", name := "step", desc := "(I)I" } : Jvm.MethodName) prog_14_method_102_code (2 : Nat) (Option.some Jvm.ClassFile.FieldType.int)) ∈ jw := jt8 (List.mem_of_getElem? (i := 225) (by exact rfl)) rfl
set_option maxRecDepth 20000 in
theorem lk_8_226 : (Jvm.Cond.methodLink "PensionHouseLaw" (103 : Nat) ({ cls := "PensionHouseModel", name := "trial", desc := "(III)I" } : Jvm.MethodName)) ∈ jw := jt8 (List.mem_of_getElem? (i := 226) (by decide +kernel)) rfl
set_option maxRecDepth 20000 in
theorem lk_8_227 : (Jvm.Cond.instanceMethod ({ cls := "PensionHouseModel", name := "trial", desc := "(III)I" } : Jvm.MethodName)) ∈ jw := jt8 (List.mem_of_getElem? (i := 227) (by decide +kernel)) rfl
set_option maxRecDepth 20000 in
theorem lk_8_228 : (Jvm.Cond.selects "PensionHouseModel" ({ cls := "PensionHouseModel", name := "trial", desc := "(III)I" } : Jvm.MethodName) ({ cls := "PensionHouseModel", name := "trial", desc := "(III)I" } : Jvm.MethodName)) ∈ jw := jt8 (List.mem_of_getElem? (i := 228) (by decide +kernel)) rfl
set_option maxRecDepth 20000 in
theorem lk_8_229 : (Jvm.Cond.code ({ cls := "PensionHouseModel", name := "trial", desc := "(III)I" } : Jvm.MethodName) prog_14_method_105_code (10 : Nat) (Option.some Jvm.ClassFile.FieldType.int)) ∈ jw := jt8 (List.mem_of_getElem? (i := 229) (by exact rfl)) rfl
set_option maxRecDepth 20000 in
theorem lk_8_230 : (Jvm.Cond.methodLink "PensionHouseModel" (653 : Nat) ({ cls := "PensionHouseModel", name := "workDue", desc := "(IIII)I" } : Jvm.MethodName)) ∈ jw := jt8 (List.mem_of_getElem? (i := 230) (by decide +kernel)) rfl
set_option maxRecDepth 20000 in
theorem lk_8_232 : (Jvm.Cond.instanceMethod ({ cls := "PensionHouseModel", name := "workDue", desc := "(IIII)I" } : Jvm.MethodName)) ∈ jw := jt8 (List.mem_of_getElem? (i := 232) (by decide +kernel)) rfl
set_option maxRecDepth 20000 in
theorem lk_8_233 : (Jvm.Cond.code ({ cls := "PensionHouseModel", name := "workDue", desc := "(IIII)I" } : Jvm.MethodName) prog_14_method_103_code (6 : Nat) (Option.some Jvm.ClassFile.FieldType.int)) ∈ jw := jt8 (List.mem_of_getElem? (i := 233) (by exact rfl)) rfl
set_option maxRecDepth 20000 in
theorem lk_8_234 : (Jvm.Cond.constantLong "PensionHouseModel" (648 : Nat) (6583653 : Int64)) ∈ jw := jt8 (List.mem_of_getElem? (i := 234) (by decide +kernel)) rfl
set_option maxRecDepth 20000 in
theorem lk_8_235 : (Jvm.Cond.methodLink "PensionHouseModel" (657 : Nat) ({ cls := "PensionHouseModel", name := "areAlike", desc := "(II)Z" } : Jvm.MethodName)) ∈ jw := jt8 (List.mem_of_getElem? (i := 235) (by decide +kernel)) rfl
set_option maxRecDepth 20000 in
theorem lk_8_237 : (Jvm.Cond.instanceMethod ({ cls := "PensionHouseModel", name := "areAlike", desc := "(II)Z" } : Jvm.MethodName)) ∈ jw := jt8 (List.mem_of_getElem? (i := 237) (by decide +kernel)) rfl
set_option maxRecDepth 20000 in
theorem lk_8_238 : (Jvm.Cond.code ({ cls := "PensionHouseModel", name := "areAlike", desc := "(II)Z" } : Jvm.MethodName) prog_14_method_104_code (6 : Nat) (Option.some Jvm.ClassFile.FieldType.boolean)) ∈ jw := jt8 (List.mem_of_getElem? (i := 238) (by exact rfl)) rfl
set_option maxRecDepth 20000 in
theorem lk_8_239 : (Jvm.Cond.methodLink "PensionHouseLaw" (107 : Nat) ({ cls := "PensionHouseModel", name := "award", desc := "(III)I" } : Jvm.MethodName)) ∈ jw := jt8 (List.mem_of_getElem? (i := 239) (by decide +kernel)) rfl
set_option maxRecDepth 20000 in
theorem lk_9_0 : (Jvm.Cond.instanceMethod ({ cls := "PensionHouseModel", name := "award", desc := "(III)I" } : Jvm.MethodName)) ∈ jw := jt9 (List.mem_of_getElem? (i := 0) (by decide +kernel)) rfl
set_option maxRecDepth 20000 in
theorem lk_9_1 : (Jvm.Cond.selects "PensionHouseModel" ({ cls := "PensionHouseModel", name := "award", desc := "(III)I" } : Jvm.MethodName) ({ cls := "PensionHouseModel", name := "award", desc := "(III)I" } : Jvm.MethodName)) ∈ jw := jt9 (List.mem_of_getElem? (i := 1) (by decide +kernel)) rfl
set_option maxRecDepth 20000 in
theorem lk_9_2 : (Jvm.Cond.code ({ cls := "PensionHouseModel", name := "award", desc := "(III)I" } : Jvm.MethodName) prog_14_method_107_code (5 : Nat) (Option.some Jvm.ClassFile.FieldType.int)) ∈ jw := jt9 (List.mem_of_getElem? (i := 2) (by exact rfl)) rfl
set_option maxRecDepth 20000 in
theorem lk_9_3 : (Jvm.Cond.methodLink "PensionHouseLaw" (111 : Nat) ({ cls := "PensionHouseModel", name := "due", desc := "(III)I" } : Jvm.MethodName)) ∈ jw := jt9 (List.mem_of_getElem? (i := 3) (by decide +kernel)) rfl
set_option maxRecDepth 20000 in
theorem lk_9_4 : (Jvm.Cond.instanceMethod ({ cls := "PensionHouseModel", name := "due", desc := "(III)I" } : Jvm.MethodName)) ∈ jw := jt9 (List.mem_of_getElem? (i := 4) (by decide +kernel)) rfl
set_option maxRecDepth 20000 in
theorem lk_9_5 : (Jvm.Cond.selects "PensionHouseModel" ({ cls := "PensionHouseModel", name := "due", desc := "(III)I" } : Jvm.MethodName) ({ cls := "PensionHouseModel", name := "due", desc := "(III)I" } : Jvm.MethodName)) ∈ jw := jt9 (List.mem_of_getElem? (i := 5) (by decide +kernel)) rfl
set_option maxRecDepth 20000 in
theorem lk_9_6 : (Jvm.Cond.code ({ cls := "PensionHouseModel", name := "due", desc := "(III)I" } : Jvm.MethodName) prog_14_method_108_code (6 : Nat) (Option.some Jvm.ClassFile.FieldType.int)) ∈ jw := jt9 (List.mem_of_getElem? (i := 6) (by exact rfl)) rfl
set_option maxRecDepth 20000 in
theorem lk_9_7 : (Jvm.Cond.methodLink "PensionHouseModel" (670 : Nat) ({ cls := "PensionHouseModel", name := "dueOf", desc := "(III)J" } : Jvm.MethodName)) ∈ jw := jt9 (List.mem_of_getElem? (i := 7) (by decide +kernel)) rfl
set_option maxRecDepth 20000 in
theorem lk_9_9 : (Jvm.Cond.instanceMethod ({ cls := "PensionHouseModel", name := "dueOf", desc := "(III)J" } : Jvm.MethodName)) ∈ jw := jt9 (List.mem_of_getElem? (i := 9) (by decide +kernel)) rfl
set_option maxRecDepth 20000 in
theorem lk_9_10 : (Jvm.Cond.code ({ cls := "PensionHouseModel", name := "dueOf", desc := "(III)J" } : Jvm.MethodName) prog_14_method_106_code (7 : Nat) (Option.some Jvm.ClassFile.FieldType.long)) ∈ jw := jt9 (List.mem_of_getElem? (i := 10) (by exact rfl)) rfl
set_option maxRecDepth 20000 in
theorem lk_9_11 : (Jvm.Cond.constantLong "PensionHouseModel" (665 : Nat) (1000000000 : Int64)) ∈ jw := jt9 (List.mem_of_getElem? (i := 11) (by decide +kernel)) rfl
set_option maxRecDepth 20000 in
theorem lk_9_12 : (Jvm.Cond.methodLink "PensionHouseLaw" (115 : Nat) ({ cls := "PensionHouseModel", name := "deduct", desc := "(III)I" } : Jvm.MethodName)) ∈ jw := jt9 (List.mem_of_getElem? (i := 12) (by decide +kernel)) rfl
set_option maxRecDepth 20000 in
theorem lk_9_13 : (Jvm.Cond.instanceMethod ({ cls := "PensionHouseModel", name := "deduct", desc := "(III)I" } : Jvm.MethodName)) ∈ jw := jt9 (List.mem_of_getElem? (i := 13) (by decide +kernel)) rfl
set_option maxRecDepth 20000 in
theorem lk_9_14 : (Jvm.Cond.selects "PensionHouseModel" ({ cls := "PensionHouseModel", name := "deduct", desc := "(III)I" } : Jvm.MethodName) ({ cls := "PensionHouseModel", name := "deduct", desc := "(III)I" } : Jvm.MethodName)) ∈ jw := jt9 (List.mem_of_getElem? (i := 14) (by decide +kernel)) rfl
set_option maxRecDepth 20000 in
theorem lk_9_15 : (Jvm.Cond.code ({ cls := "PensionHouseModel", name := "deduct", desc := "(III)I" } : Jvm.MethodName) prog_14_method_109_code (4 : Nat) (Option.some Jvm.ClassFile.FieldType.int)) ∈ jw := jt9 (List.mem_of_getElem? (i := 15) (by exact rfl)) rfl
set_option maxRecDepth 20000 in
theorem lk_9_16 : (Jvm.Cond.constantLong "PensionHouseModel" (674 : Nat) (1000000 : Int64)) ∈ jw := jt9 (List.mem_of_getElem? (i := 16) (by decide +kernel)) rfl
set_option maxRecDepth 20000 in
theorem lk_9_17 : (Jvm.Cond.methodLink "PensionHouseLaw" (119 : Nat) ({ cls := "PensionHouseModel", name := "share", desc := "(I)I" } : Jvm.MethodName)) ∈ jw := jt9 (List.mem_of_getElem? (i := 17) (by decide +kernel)) rfl
set_option maxRecDepth 20000 in
theorem lk_9_18 : (Jvm.Cond.instanceMethod ({ cls := "PensionHouseModel", name := "share", desc := "(I)I" } : Jvm.MethodName)) ∈ jw := jt9 (List.mem_of_getElem? (i := 18) (by decide +kernel)) rfl
set_option maxRecDepth 20000 in
theorem lk_9_19 : (Jvm.Cond.selects "PensionHouseModel" ({ cls := "PensionHouseModel", name := "share", desc := "(I)I" } : Jvm.MethodName) ({ cls := "PensionHouseModel", name := "share", desc := "(I)I" } : Jvm.MethodName)) ∈ jw := jt9 (List.mem_of_getElem? (i := 19) (by decide +kernel)) rfl
set_option maxRecDepth 20000 in
theorem lk_9_20 : (Jvm.Cond.code ({ cls := "PensionHouseModel", name := "share", desc := "(I)I" } : Jvm.MethodName) prog_14_method_110_code (3 : Nat) (Option.some Jvm.ClassFile.FieldType.int)) ∈ jw := jt9 (List.mem_of_getElem? (i := 20) (by exact rfl)) rfl
set_option maxRecDepth 20000 in
theorem lk_9_21 : (Jvm.Cond.constantLong "PensionHouseModel" (676 : Nat) (100 : Int64)) ∈ jw := jt9 (List.mem_of_getElem? (i := 21) (by decide +kernel)) rfl
set_option maxRecDepth 20000 in
theorem lk_9_22 : (Jvm.Cond.methodLink "PensionHouseLaw" (123 : Nat) ({ cls := "PensionHouseModel", name := "run", desc := "(I)I" } : Jvm.MethodName)) ∈ jw := jt9 (List.mem_of_getElem? (i := 22) (by decide +kernel)) rfl
set_option maxRecDepth 20000 in
theorem lk_9_23 : (Jvm.Cond.instanceMethod ({ cls := "PensionHouseModel", name := "run", desc := "(I)I" } : Jvm.MethodName)) ∈ jw := jt9 (List.mem_of_getElem? (i := 23) (by decide +kernel)) rfl
set_option maxRecDepth 20000 in
theorem lk_9_24 : (Jvm.Cond.selects "PensionHouseModel" ({ cls := "PensionHouseModel", name := "run", desc := "(I)I" } : Jvm.MethodName) ({ cls := "PensionHouseModel", name := "run", desc := "(I)I" } : Jvm.MethodName)) ∈ jw := jt9 (List.mem_of_getElem? (i := 24) (by decide +kernel)) rfl
set_option maxRecDepth 20000 in
theorem lk_9_25 : (Jvm.Cond.code ({ cls := "PensionHouseModel", name := "run", desc := "(I)I" } : Jvm.MethodName) prog_14_method_111_code (4 : Nat) (Option.some Jvm.ClassFile.FieldType.int)) ∈ jw := jt9 (List.mem_of_getElem? (i := 25) (by exact rfl)) rfl
set_option maxRecDepth 20000 in
theorem lk_9_26 : (Jvm.Cond.methodLink "PensionHouseLaw" (127 : Nat) ({ cls := "PensionHouseModel", name := "advance", desc := "(I)I" } : Jvm.MethodName)) ∈ jw := jt9 (List.mem_of_getElem? (i := 26) (by decide +kernel)) rfl
set_option maxRecDepth 20000 in
theorem lk_9_27 : (Jvm.Cond.instanceMethod ({ cls := "PensionHouseModel", name := "advance", desc := "(I)I" } : Jvm.MethodName)) ∈ jw := jt9 (List.mem_of_getElem? (i := 27) (by decide +kernel)) rfl
set_option maxRecDepth 20000 in
theorem lk_9_28 : (Jvm.Cond.selects "PensionHouseModel" ({ cls := "PensionHouseModel", name := "advance", desc := "(I)I" } : Jvm.MethodName) ({ cls := "PensionHouseModel", name := "advance", desc := "(I)I" } : Jvm.MethodName)) ∈ jw := jt9 (List.mem_of_getElem? (i := 28) (by decide +kernel)) rfl
set_option maxRecDepth 20000 in
theorem lk_9_29 : (Jvm.Cond.code ({ cls := "PensionHouseModel", name := "advance", desc := "(I)I" } : Jvm.MethodName) prog_14_method_114_code (3 : Nat) (Option.some Jvm.ClassFile.FieldType.int)) ∈ jw := jt9 (List.mem_of_getElem? (i := 29) (by exact rfl)) rfl
set_option maxRecDepth 20000 in
theorem lk_9_30 : (Jvm.Cond.constantLong "PensionHouseModel" (691 : Nat) (6 : Int64)) ∈ jw := jt9 (List.mem_of_getElem? (i := 30) (by decide +kernel)) rfl
set_option maxRecDepth 20000 in
theorem lk_9_31 : (Jvm.Cond.methodLink "PensionHouseModel" (693 : Nat) ({ cls := "PensionHouseModel", name := "pay", desc := "(I)V" } : Jvm.MethodName)) ∈ jw := jt9 (List.mem_of_getElem? (i := 31) (by decide +kernel)) rfl
set_option maxRecDepth 20000 in
theorem lk_9_33 : (Jvm.Cond.instanceMethod ({ cls := "PensionHouseModel", name := "pay", desc := "(I)V" } : Jvm.MethodName)) ∈ jw := jt9 (List.mem_of_getElem? (i := 33) (by decide +kernel)) rfl
set_option maxRecDepth 20000 in
theorem lk_9_34 : (Jvm.Cond.code ({ cls := "PensionHouseModel", name := "pay", desc := "(I)V" } : Jvm.MethodName) prog_14_method_113_code (17 : Nat) (Option.none : Option Jvm.ClassFile.FieldType)) ∈ jw := jt9 (List.mem_of_getElem? (i := 34) (by exact rfl)) rfl
set_option maxRecDepth 20000 in
theorem lk_9_35 : (Jvm.Cond.methodLink "PensionHouseModel" (687 : Nat) ({ cls := "PensionHouseModel", name := "paid", desc := "(I)J" } : Jvm.MethodName)) ∈ jw := jt9 (List.mem_of_getElem? (i := 35) (by decide +kernel)) rfl
set_option maxRecDepth 20000 in
theorem lk_9_37 : (Jvm.Cond.instanceMethod ({ cls := "PensionHouseModel", name := "paid", desc := "(I)J" } : Jvm.MethodName)) ∈ jw := jt9 (List.mem_of_getElem? (i := 37) (by decide +kernel)) rfl
set_option maxRecDepth 20000 in
theorem lk_9_38 : (Jvm.Cond.code ({ cls := "PensionHouseModel", name := "paid", desc := "(I)J" } : Jvm.MethodName) prog_14_method_112_code (5 : Nat) (Option.some Jvm.ClassFile.FieldType.long)) ∈ jw := jt9 (List.mem_of_getElem? (i := 38) (by exact rfl)) rfl
set_option maxRecDepth 20000 in
theorem lk_9_39 : (Jvm.Cond.methodLink "PensionHouseLaw" (132 : Nat) ({ cls := "PensionHouseModel", name := "payment", desc := "(II)J" } : Jvm.MethodName)) ∈ jw := jt9 (List.mem_of_getElem? (i := 39) (by decide +kernel)) rfl
set_option maxRecDepth 20000 in
theorem lk_9_40 : (Jvm.Cond.instanceMethod ({ cls := "PensionHouseModel", name := "payment", desc := "(II)J" } : Jvm.MethodName)) ∈ jw := jt9 (List.mem_of_getElem? (i := 40) (by decide +kernel)) rfl
set_option maxRecDepth 20000 in
theorem lk_9_41 : (Jvm.Cond.selects "PensionHouseModel" ({ cls := "PensionHouseModel", name := "payment", desc := "(II)J" } : Jvm.MethodName) ({ cls := "PensionHouseModel", name := "payment", desc := "(II)J" } : Jvm.MethodName)) ∈ jw := jt9 (List.mem_of_getElem? (i := 41) (by decide +kernel)) rfl
set_option maxRecDepth 20000 in
theorem lk_9_42 : (Jvm.Cond.code ({ cls := "PensionHouseModel", name := "payment", desc := "(II)J" } : Jvm.MethodName) prog_14_method_115_code (3 : Nat) (Option.some Jvm.ClassFile.FieldType.long)) ∈ jw := jt9 (List.mem_of_getElem? (i := 42) (by exact rfl)) rfl
set_option maxRecDepth 20000 in
theorem lk_9_43 : (Jvm.Cond.methodLink "PensionHouseLaw" (136 : Nat) ({ cls := "PensionHouseModel", name := "taken", desc := "(II)I" } : Jvm.MethodName)) ∈ jw := jt9 (List.mem_of_getElem? (i := 43) (by decide +kernel)) rfl
set_option maxRecDepth 20000 in
theorem lk_9_44 : (Jvm.Cond.instanceMethod ({ cls := "PensionHouseModel", name := "taken", desc := "(II)I" } : Jvm.MethodName)) ∈ jw := jt9 (List.mem_of_getElem? (i := 44) (by decide +kernel)) rfl
set_option maxRecDepth 20000 in
theorem lk_9_45 : (Jvm.Cond.selects "PensionHouseModel" ({ cls := "PensionHouseModel", name := "taken", desc := "(II)I" } : Jvm.MethodName) ({ cls := "PensionHouseModel", name := "taken", desc := "(II)I" } : Jvm.MethodName)) ∈ jw := jt9 (List.mem_of_getElem? (i := 45) (by decide +kernel)) rfl
set_option maxRecDepth 20000 in
theorem lk_9_46 : (Jvm.Cond.code ({ cls := "PensionHouseModel", name := "taken", desc := "(II)I" } : Jvm.MethodName) prog_14_method_116_code (3 : Nat) (Option.some Jvm.ClassFile.FieldType.int)) ∈ jw := jt9 (List.mem_of_getElem? (i := 46) (by exact rfl)) rfl
set_option maxRecDepth 20000 in
theorem lk_9_47 : (Jvm.Cond.constantLong "PensionHouseModel" (696 : Nat) (5 : Int64)) ∈ jw := jt9 (List.mem_of_getElem? (i := 47) (by decide +kernel)) rfl
set_option maxRecDepth 20000 in
theorem lk_9_48 : (Jvm.Cond.methodLink "PensionHouseLaw" (140 : Nat) ({ cls := "PensionHouseModel", name := "returned", desc := "(I)I" } : Jvm.MethodName)) ∈ jw := jt9 (List.mem_of_getElem? (i := 48) (by decide +kernel)) rfl
set_option maxRecDepth 20000 in
theorem lk_9_49 : (Jvm.Cond.instanceMethod ({ cls := "PensionHouseModel", name := "returned", desc := "(I)I" } : Jvm.MethodName)) ∈ jw := jt9 (List.mem_of_getElem? (i := 49) (by decide +kernel)) rfl
set_option maxRecDepth 20000 in
theorem lk_9_50 : (Jvm.Cond.selects "PensionHouseModel" ({ cls := "PensionHouseModel", name := "returned", desc := "(I)I" } : Jvm.MethodName) ({ cls := "PensionHouseModel", name := "returned", desc := "(I)I" } : Jvm.MethodName)) ∈ jw := jt9 (List.mem_of_getElem? (i := 50) (by decide +kernel)) rfl
set_option maxRecDepth 20000 in
theorem lk_9_51 : (Jvm.Cond.code ({ cls := "PensionHouseModel", name := "returned", desc := "(I)I" } : Jvm.MethodName) prog_14_method_117_code (2 : Nat) (Option.some Jvm.ClassFile.FieldType.int)) ∈ jw := jt9 (List.mem_of_getElem? (i := 51) (by exact rfl)) rfl
set_option maxRecDepth 20000 in
theorem lk_9_52 : (Jvm.Cond.methodLink "PensionHouseLaw" (144 : Nat) ({ cls := "PensionHouseModel", name := "balance", desc := "(II)J" } : Jvm.MethodName)) ∈ jw := jt9 (List.mem_of_getElem? (i := 52) (by decide +kernel)) rfl
set_option maxRecDepth 20000 in
theorem lk_9_53 : (Jvm.Cond.instanceMethod ({ cls := "PensionHouseModel", name := "balance", desc := "(II)J" } : Jvm.MethodName)) ∈ jw := jt9 (List.mem_of_getElem? (i := 53) (by decide +kernel)) rfl
set_option maxRecDepth 20000 in
theorem lk_9_54 : (Jvm.Cond.selects "PensionHouseModel" ({ cls := "PensionHouseModel", name := "balance", desc := "(II)J" } : Jvm.MethodName) ({ cls := "PensionHouseModel", name := "balance", desc := "(II)J" } : Jvm.MethodName)) ∈ jw := jt9 (List.mem_of_getElem? (i := 54) (by decide +kernel)) rfl
set_option maxRecDepth 20000 in
theorem lk_9_55 : (Jvm.Cond.code ({ cls := "PensionHouseModel", name := "balance", desc := "(II)J" } : Jvm.MethodName) prog_14_method_118_code (6 : Nat) (Option.some Jvm.ClassFile.FieldType.long)) ∈ jw := jt9 (List.mem_of_getElem? (i := 55) (by exact rfl)) rfl
set_option maxRecDepth 20000 in
theorem lk_9_56 : (Jvm.Cond.methodLink "PensionHouseLaw" (148 : Nat) ({ cls := "PensionHouseModel", name := "count", desc := "(I)I" } : Jvm.MethodName)) ∈ jw := jt9 (List.mem_of_getElem? (i := 56) (by decide +kernel)) rfl
set_option maxRecDepth 20000 in
theorem lk_9_57 : (Jvm.Cond.instanceMethod ({ cls := "PensionHouseModel", name := "count", desc := "(I)I" } : Jvm.MethodName)) ∈ jw := jt9 (List.mem_of_getElem? (i := 57) (by decide +kernel)) rfl
set_option maxRecDepth 20000 in
theorem lk_9_58 : (Jvm.Cond.selects "PensionHouseModel" ({ cls := "PensionHouseModel", name := "count", desc := "(I)I" } : Jvm.MethodName) ({ cls := "PensionHouseModel", name := "count", desc := "(I)I" } : Jvm.MethodName)) ∈ jw := jt9 (List.mem_of_getElem? (i := 58) (by decide +kernel)) rfl
set_option maxRecDepth 20000 in
theorem lk_9_59 : (Jvm.Cond.code ({ cls := "PensionHouseModel", name := "count", desc := "(I)I" } : Jvm.MethodName) prog_14_method_119_code (2 : Nat) (Option.some Jvm.ClassFile.FieldType.int)) ∈ jw := jt9 (List.mem_of_getElem? (i := 59) (by exact rfl)) rfl
set_option maxRecDepth 20000 in
theorem lk_9_60 : (Jvm.Cond.constantLong "PensionHouseLaw" (13 : Nat) (4294967295 : Int64)) ∈ jw := jt9 (List.mem_of_getElem? (i := 60) (by decide +kernel)) rfl
set_option maxRecDepth 20000 in
theorem lk_9_61 : (Jvm.Cond.fieldLink "java/lang/String" (9 : Nat) "java/lang/String" "value" "[B") ∈ jw := jt9 (List.mem_of_getElem? (i := 61) (by decide +kernel)) rfl
set_option maxRecDepth 20000 in
theorem lk_9_62 : (Jvm.Cond.fieldLink "java/lang/String" (15 : Nat) "java/lang/String" "coder" "B") ∈ jw := jt9 (List.mem_of_getElem? (i := 62) (by decide +kernel)) rfl
set_option maxRecDepth 20000 in
theorem lkp_0 : Cond.selects "PensionHouse$Tape" ⟨"PensionHouse$Tape", "byteAt", "(I)I"⟩ ⟨"PensionHouse$Tape", "byteAt", "(I)I"⟩ ∈ jw := jsel (q := (⟨"PensionHouse$Tape", "byteAt", "(I)I"⟩, 8)) (List.mem_of_getElem? (i := 0) (by decide +kernel))
set_option maxRecDepth 20000 in
theorem lkp_1 : Cond.selects "PensionHouse$Tape" ⟨"PensionHouse$Tape", "readLetters", "()V"⟩ ⟨"PensionHouse$Tape", "readLetters", "()V"⟩ ∈ jw := jsel (q := (⟨"PensionHouse$Tape", "readLetters", "()V"⟩, 8)) (List.mem_of_getElem? (i := 1) (by decide +kernel))
set_option maxRecDepth 20000 in
theorem lkp_2 : Cond.selects "PensionHouse$Tape" ⟨"PensionHouse$Tape", "readDigits", "()V"⟩ ⟨"PensionHouse$Tape", "readDigits", "()V"⟩ ∈ jw := jsel (q := (⟨"PensionHouse$Tape", "readDigits", "()V"⟩, 8)) (List.mem_of_getElem? (i := 2) (by decide +kernel))
set_option maxRecDepth 20000 in
theorem lkp_3 : Cond.selects "PensionHouse$Tape" ⟨"PensionHouse$Tape", "readSign", "(I)V"⟩ ⟨"PensionHouse$Tape", "readSign", "(I)V"⟩ ∈ jw := jsel (q := (⟨"PensionHouse$Tape", "readSign", "(I)V"⟩, 8)) (List.mem_of_getElem? (i := 3) (by decide +kernel))
set_option maxRecDepth 20000 in
theorem lkp_4 : Cond.selects "PensionHouse" ⟨"PensionHouse", "isPast", "(I)Z"⟩ ⟨"PensionHouse", "isPast", "(I)Z"⟩ ∈ jw := jsel (q := (⟨"PensionHouse", "isPast", "(I)Z"⟩, 19)) (List.mem_of_getElem? (i := 4) (by decide +kernel))
set_option maxRecDepth 20000 in
theorem lkp_5 : Cond.selects "PensionHouse" ⟨"PensionHouse", "placeForEdition", "(II)I"⟩ ⟨"PensionHouse", "placeForEdition", "(II)I"⟩ ∈ jw := jsel (q := (⟨"PensionHouse", "placeForEdition", "(II)I"⟩, 19)) (List.mem_of_getElem? (i := 5) (by decide +kernel))
set_option maxRecDepth 20000 in
theorem lkp_6 : Cond.selects "PensionHouse$Parser" ⟨"PensionHouse$Parser", "refuse", "(I)V"⟩ ⟨"PensionHouse$Parser", "refuse", "(I)V"⟩ ∈ jw := jsel (q := (⟨"PensionHouse$Parser", "refuse", "(I)V"⟩, 7)) (List.mem_of_getElem? (i := 6) (by decide +kernel))
set_option maxRecDepth 20000 in
theorem lkp_7 : Cond.selects "PensionHouse$Parser" ⟨"PensionHouse$Parser", "take", "(I)V"⟩ ⟨"PensionHouse$Parser", "take", "(I)V"⟩ ∈ jw := jsel (q := (⟨"PensionHouse$Parser", "take", "(I)V"⟩, 7)) (List.mem_of_getElem? (i := 7) (by decide +kernel))
set_option maxRecDepth 20000 in
theorem lkp_8 : Cond.selects "PensionHouse$Parser" ⟨"PensionHouse$Parser", "refuseToken", "()V"⟩ ⟨"PensionHouse$Parser", "refuseToken", "()V"⟩ ∈ jw := jsel (q := (⟨"PensionHouse$Parser", "refuseToken", "()V"⟩, 7)) (List.mem_of_getElem? (i := 8) (by decide +kernel))
set_option maxRecDepth 20000 in
theorem lkp_9 : Cond.selects "PensionHouse$Parser" ⟨"PensionHouse$Parser", "readE", "(I)I"⟩ ⟨"PensionHouse$Parser", "readE", "(I)I"⟩ ∈ jw := jsel (q := (⟨"PensionHouse$Parser", "readE", "(I)I"⟩, 7)) (List.mem_of_getElem? (i := 9) (by decide +kernel))
set_option maxRecDepth 20000 in
theorem lkp_10 : Cond.selects "PensionHouse$Parser" ⟨"PensionHouse$Parser", "beginsU", "()Z"⟩ ⟨"PensionHouse$Parser", "beginsU", "()Z"⟩ ∈ jw := jsel (q := (⟨"PensionHouse$Parser", "beginsU", "()Z"⟩, 7)) (List.mem_of_getElem? (i := 10) (by decide +kernel))
set_option maxRecDepth 20000 in
theorem lkp_11 : Cond.selects "PensionHouse$Parser" ⟨"PensionHouse$Parser", "mayBegin", "(ZI)Z"⟩ ⟨"PensionHouse$Parser", "mayBegin", "(ZI)Z"⟩ ∈ jw := jsel (q := (⟨"PensionHouse$Parser", "mayBegin", "(ZI)Z"⟩, 7)) (List.mem_of_getElem? (i := 11) (by decide +kernel))
set_option maxRecDepth 20000 in
theorem lkp_12 : Cond.selects "PensionHouse$Parser" ⟨"PensionHouse$Parser", "readC", "(I)I"⟩ ⟨"PensionHouse$Parser", "readC", "(I)I"⟩ ∈ jw := jsel (q := (⟨"PensionHouse$Parser", "readC", "(I)I"⟩, 7)) (List.mem_of_getElem? (i := 12) (by decide +kernel))
set_option maxRecDepth 20000 in
theorem lkp_13 : Cond.selects "PensionHouse$Parser" ⟨"PensionHouse$Parser", "readA", "(I)I"⟩ ⟨"PensionHouse$Parser", "readA", "(I)I"⟩ ∈ jw := jsel (q := (⟨"PensionHouse$Parser", "readA", "(I)I"⟩, 7)) (List.mem_of_getElem? (i := 13) (by decide +kernel))
set_option maxRecDepth 20000 in
theorem lkp_14 : Cond.selects "PensionHouse$Parser" ⟨"PensionHouse$Parser", "readM", "(I)I"⟩ ⟨"PensionHouse$Parser", "readM", "(I)I"⟩ ∈ jw := jsel (q := (⟨"PensionHouse$Parser", "readM", "(I)I"⟩, 7)) (List.mem_of_getElem? (i := 14) (by decide +kernel))
set_option maxRecDepth 20000 in
theorem lkp_15 : Cond.selects "PensionHouse$Parser" ⟨"PensionHouse$Parser", "readU", "(I)I"⟩ ⟨"PensionHouse$Parser", "readU", "(I)I"⟩ ∈ jw := jsel (q := (⟨"PensionHouse$Parser", "readU", "(I)I"⟩, 7)) (List.mem_of_getElem? (i := 15) (by decide +kernel))
set_option maxRecDepth 20000 in
theorem lkp_16 : Cond.selects "PensionHouse$Parser" ⟨"PensionHouse$Parser", "part", "(IJ)I"⟩ ⟨"PensionHouse$Parser", "part", "(IJ)I"⟩ ∈ jw := jsel (q := (⟨"PensionHouse$Parser", "part", "(IJ)I"⟩, 7)) (List.mem_of_getElem? (i := 16) (by decide +kernel))
set_option maxRecDepth 20000 in
theorem lkp_17 : Cond.selects "PensionHouse$Parser" ⟨"PensionHouse$Parser", "readP", "(I)I"⟩ ⟨"PensionHouse$Parser", "readP", "(I)I"⟩ ∈ jw := jsel (q := (⟨"PensionHouse$Parser", "readP", "(I)I"⟩, 7)) (List.mem_of_getElem? (i := 17) (by decide +kernel))
set_option maxRecDepth 20000 in
theorem lkp_18 : Cond.selects "PensionHouse$Parser" ⟨"PensionHouse$Parser", "sumOf", "(J)I"⟩ ⟨"PensionHouse$Parser", "sumOf", "(J)I"⟩ ∈ jw := jsel (q := (⟨"PensionHouse$Parser", "sumOf", "(J)I"⟩, 7)) (List.mem_of_getElem? (i := 18) (by decide +kernel))
set_option maxRecDepth 20000 in
theorem lkp_19 : Cond.selects "PensionHouse$Parser" ⟨"PensionHouse$Parser", "readSum", "(I)I"⟩ ⟨"PensionHouse$Parser", "readSum", "(I)I"⟩ ∈ jw := jsel (q := (⟨"PensionHouse$Parser", "readSum", "(I)I"⟩, 7)) (List.mem_of_getElem? (i := 19) (by decide +kernel))
set_option maxRecDepth 20000 in
theorem lkp_20 : Cond.selects "PensionHouse$Parser" ⟨"PensionHouse$Parser", "readFunction", "(I)I"⟩ ⟨"PensionHouse$Parser", "readFunction", "(I)I"⟩ ∈ jw := jsel (q := (⟨"PensionHouse$Parser", "readFunction", "(I)I"⟩, 7)) (List.mem_of_getElem? (i := 20) (by decide +kernel))
set_option maxRecDepth 20000 in
theorem lkp_21 : Cond.selects "PensionHouse$Parser" ⟨"PensionHouse$Parser", "isNext", "(I)Z"⟩ ⟨"PensionHouse$Parser", "isNext", "(I)Z"⟩ ∈ jw := jsel (q := (⟨"PensionHouse$Parser", "isNext", "(I)Z"⟩, 7)) (List.mem_of_getElem? (i := 21) (by decide +kernel))
set_option maxRecDepth 20000 in
theorem lkp_22 : Cond.selects "PensionHouse" ⟨"PensionHouse", "textInForce", "(II)LPensionHouse$Text;"⟩ ⟨"PensionHouse", "textInForce", "(II)LPensionHouse$Text;"⟩ ∈ jw := jsel (q := (⟨"PensionHouse", "textInForce", "(II)LPensionHouse$Text;"⟩, 19)) (List.mem_of_getElem? (i := 22) (by decide +kernel))
set_option maxRecDepth 20000 in
theorem lkp_23 : Cond.selects "PensionHouse$Worker" ⟨"PensionHouse$Worker", "enter", "(II)V"⟩ ⟨"PensionHouse$Worker", "enter", "(II)V"⟩ ∈ jw := jsel (q := (⟨"PensionHouse$Worker", "enter", "(II)V"⟩, 14)) (List.mem_of_getElem? (i := 23) (by decide +kernel))
set_option maxRecDepth 20000 in
theorem lkp_24 : Cond.selects "PensionHouse$Worker" ⟨"PensionHouse$Worker", "turn", "()V"⟩ ⟨"PensionHouse$Worker", "turn", "()V"⟩ ∈ jw := jsel (q := (⟨"PensionHouse$Worker", "turn", "()V"⟩, 14)) (List.mem_of_getElem? (i := 24) (by decide +kernel))
set_option maxRecDepth 20000 in
theorem lkp_25 : Cond.selects "PensionHouse$Worker" ⟨"PensionHouse$Worker", "spend", "(I)Z"⟩ ⟨"PensionHouse$Worker", "spend", "(I)Z"⟩ ∈ jw := jsel (q := (⟨"PensionHouse$Worker", "spend", "(I)Z"⟩, 14)) (List.mem_of_getElem? (i := 25) (by decide +kernel))
set_option maxRecDepth 20000 in
theorem lkp_26 : Cond.selects "PensionHouse$Worker" ⟨"PensionHouse$Worker", "fail", "(I)V"⟩ ⟨"PensionHouse$Worker", "fail", "(I)V"⟩ ∈ jw := jsel (q := (⟨"PensionHouse$Worker", "fail", "(I)V"⟩, 14)) (List.mem_of_getElem? (i := 26) (by decide +kernel))
set_option maxRecDepth 20000 in
theorem lkp_27 : Cond.selects "PensionHouse$Worker" ⟨"PensionHouse$Worker", "pushNumber", "(IJ)V"⟩ ⟨"PensionHouse$Worker", "pushNumber", "(IJ)V"⟩ ∈ jw := jsel (q := (⟨"PensionHouse$Worker", "pushNumber", "(IJ)V"⟩, 14)) (List.mem_of_getElem? (i := 27) (by decide +kernel))
set_option maxRecDepth 20000 in
theorem lkp_28 : Cond.selects "PensionHouse$Worker" ⟨"PensionHouse$Worker", "pushed", "()LPensionHouse$Value;"⟩ ⟨"PensionHouse$Worker", "pushed", "()LPensionHouse$Value;"⟩ ∈ jw := jsel (q := (⟨"PensionHouse$Worker", "pushed", "()LPensionHouse$Value;"⟩, 14)) (List.mem_of_getElem? (i := 28) (by decide +kernel))
set_option maxRecDepth 20000 in
theorem lkp_29 : Cond.selects "PensionHouse$Worker" ⟨"PensionHouse$Worker", "leave", "()V"⟩ ⟨"PensionHouse$Worker", "leave", "()V"⟩ ∈ jw := jsel (q := (⟨"PensionHouse$Worker", "leave", "()V"⟩, 14)) (List.mem_of_getElem? (i := 29) (by decide +kernel))
set_option maxRecDepth 20000 in
theorem lkp_30 : Cond.selects "PensionHouse$Worker" ⟨"PensionHouse$Worker", "counterOf", "(J)J"⟩ ⟨"PensionHouse$Worker", "counterOf", "(J)J"⟩ ∈ jw := jsel (q := (⟨"PensionHouse$Worker", "counterOf", "(J)J"⟩, 14)) (List.mem_of_getElem? (i := 30) (by decide +kernel))
set_option maxRecDepth 20000 in
theorem lkp_31 : Cond.selects "PensionHouse$Worker" ⟨"PensionHouse$Worker", "askFact", "(J)V"⟩ ⟨"PensionHouse$Worker", "askFact", "(J)V"⟩ ∈ jw := jsel (q := (⟨"PensionHouse$Worker", "askFact", "(J)V"⟩, 14)) (List.mem_of_getElem? (i := 31) (by decide +kernel))
set_option maxRecDepth 20000 in
theorem lkp_32 : Cond.selects "PensionHouse$Worker" ⟨"PensionHouse$Worker", "wantRule", "(II)V"⟩ ⟨"PensionHouse$Worker", "wantRule", "(II)V"⟩ ∈ jw := jsel (q := (⟨"PensionHouse$Worker", "wantRule", "(II)V"⟩, 14)) (List.mem_of_getElem? (i := 32) (by decide +kernel))
set_option maxRecDepth 20000 in
theorem lkp_33 : Cond.selects "PensionHouse$Worker" ⟨"PensionHouse$Worker", "decide", "(II)V"⟩ ⟨"PensionHouse$Worker", "decide", "(II)V"⟩ ∈ jw := jsel (q := (⟨"PensionHouse$Worker", "decide", "(II)V"⟩, 14)) (List.mem_of_getElem? (i := 33) (by decide +kernel))
set_option maxRecDepth 20000 in
theorem lkp_34 : Cond.selects "PensionHouse$Worker" ⟨"PensionHouse$Worker", "enterInner", "(II)V"⟩ ⟨"PensionHouse$Worker", "enterInner", "(II)V"⟩ ∈ jw := jsel (q := (⟨"PensionHouse$Worker", "enterInner", "(II)V"⟩, 14)) (List.mem_of_getElem? (i := 34) (by decide +kernel))
set_option maxRecDepth 20000 in
theorem lkp_35 : Cond.selects "PensionHouse$Worker" ⟨"PensionHouse$Worker", "attempt", "(II)V"⟩ ⟨"PensionHouse$Worker", "attempt", "(II)V"⟩ ∈ jw := jsel (q := (⟨"PensionHouse$Worker", "attempt", "(II)V"⟩, 14)) (List.mem_of_getElem? (i := 35) (by decide +kernel))
set_option maxRecDepth 20000 in
theorem lkp_36 : Cond.selects "PensionHouse$Worker" ⟨"PensionHouse$Worker", "addUp", "(II)V"⟩ ⟨"PensionHouse$Worker", "addUp", "(II)V"⟩ ∈ jw := jsel (q := (⟨"PensionHouse$Worker", "addUp", "(II)V"⟩, 14)) (List.mem_of_getElem? (i := 36) (by decide +kernel))
set_option maxRecDepth 20000 in
theorem lkp_37 : Cond.selects "PensionHouse$Worker" ⟨"PensionHouse$Worker", "finish", "(II)V"⟩ ⟨"PensionHouse$Worker", "finish", "(II)V"⟩ ∈ jw := jsel (q := (⟨"PensionHouse$Worker", "finish", "(II)V"⟩, 14)) (List.mem_of_getElem? (i := 37) (by decide +kernel))
set_option maxRecDepth 20000 in
theorem lkp_38 : Cond.selects "PensionHouse$Worker" ⟨"PensionHouse$Worker", "leaveFailed", "()V"⟩ ⟨"PensionHouse$Worker", "leaveFailed", "()V"⟩ ∈ jw := jsel (q := (⟨"PensionHouse$Worker", "leaveFailed", "()V"⟩, 14)) (List.mem_of_getElem? (i := 38) (by decide +kernel))
set_option maxRecDepth 20000 in
theorem lkp_39 : Cond.selects "PensionHouse" ⟨"PensionHouse", "isAward", "(I)Z"⟩ ⟨"PensionHouse", "isAward", "(I)Z"⟩ ∈ jw := jsel (q := (⟨"PensionHouse", "isAward", "(I)Z"⟩, 19)) (List.mem_of_getElem? (i := 39) (by decide +kernel))
set_option maxRecDepth 20000 in
theorem lkp_40 : Cond.selects "PensionHouse" ⟨"PensionHouse", "dues", "(LPensionHouse$Award;III)J"⟩ ⟨"PensionHouse", "dues", "(LPensionHouse$Award;III)J"⟩ ∈ jw := jsel (q := (⟨"PensionHouse", "dues", "(LPensionHouse$Award;III)J"⟩, 19)) (List.mem_of_getElem? (i := 40) (by decide +kernel))
set_option maxRecDepth 20000 in
theorem lkp_41 : Cond.selects "PensionHouse" ⟨"PensionHouse", "beginRun", "(I)V"⟩ ⟨"PensionHouse", "beginRun", "(I)V"⟩ ∈ jw := jsel (q := (⟨"PensionHouse", "beginRun", "(I)V"⟩, 19)) (List.mem_of_getElem? (i := 41) (by decide +kernel))
set_option maxRecDepth 20000 in
theorem lkp_42 : Cond.selects "PensionHouse" ⟨"PensionHouse", "paidTo", "(I)J"⟩ ⟨"PensionHouse", "paidTo", "(I)J"⟩ ∈ jw := jsel (q := (⟨"PensionHouse", "paidTo", "(I)J"⟩, 19)) (List.mem_of_getElem? (i := 42) (by decide +kernel))
set_option maxRecDepth 20000 in
theorem lkp_43 : Cond.selects "PensionHouse" ⟨"PensionHouse", "pay", "(IJJ)V"⟩ ⟨"PensionHouse", "pay", "(IJJ)V"⟩ ∈ jw := jsel (q := (⟨"PensionHouse", "pay", "(IJJ)V"⟩, 19)) (List.mem_of_getElem? (i := 43) (by decide +kernel))
set_option maxRecDepth 20000 in
theorem lkp_44 : Cond.selects "PensionHouseModel" ⟨"PensionHouseModel", "shape", "(III)V"⟩ ⟨"PensionHouseModel", "shape", "(III)V"⟩ ∈ jw := jsel (q := (⟨"PensionHouseModel", "shape", "(III)V"⟩, 89)) (List.mem_of_getElem? (i := 44) (by decide +kernel))
set_option maxRecDepth 20000 in
theorem lkp_45 : Cond.selects "PensionHouseModel" ⟨"PensionHouseModel", "belongs", "(JI)Z"⟩ ⟨"PensionHouseModel", "belongs", "(JI)Z"⟩ ∈ jw := jsel (q := (⟨"PensionHouseModel", "belongs", "(JI)Z"⟩, 89)) (List.mem_of_getElem? (i := 45) (by decide +kernel))
set_option maxRecDepth 20000 in
theorem lkp_46 : Cond.selects "PensionHouseModel" ⟨"PensionHouseModel", "takeName", "()J"⟩ ⟨"PensionHouseModel", "takeName", "()J"⟩ ∈ jw := jsel (q := (⟨"PensionHouseModel", "takeName", "()J"⟩, 89)) (List.mem_of_getElem? (i := 46) (by decide +kernel))
set_option maxRecDepth 20000 in
theorem lkp_47 : Cond.selects "PensionHouseModel" ⟨"PensionHouseModel", "tokenize", "()V"⟩ ⟨"PensionHouseModel", "tokenize", "()V"⟩ ∈ jw := jsel (q := (⟨"PensionHouseModel", "tokenize", "()V"⟩, 89)) (List.mem_of_getElem? (i := 47) (by decide +kernel))
set_option maxRecDepth 20000 in
theorem lkp_48 : Cond.selects "PensionHouseModel" ⟨"PensionHouseModel", "token", "(I)I"⟩ ⟨"PensionHouseModel", "token", "(I)I"⟩ ∈ jw := jsel (q := (⟨"PensionHouseModel", "token", "(I)I"⟩, 89)) (List.mem_of_getElem? (i := 48) (by decide +kernel))
set_option maxRecDepth 20000 in
theorem lkp_49 : Cond.selects "PensionHouseModel" ⟨"PensionHouseModel", "byteAt", "(I)I"⟩ ⟨"PensionHouseModel", "byteAt", "(I)I"⟩ ∈ jw := jsel (q := (⟨"PensionHouseModel", "byteAt", "(I)I"⟩, 89)) (List.mem_of_getElem? (i := 49) (by decide +kernel))
set_option maxRecDepth 20000 in
theorem lkp_50 : Cond.selects "PensionHouseModel" ⟨"PensionHouseModel", "number", "(I)I"⟩ ⟨"PensionHouseModel", "number", "(I)I"⟩ ∈ jw := jsel (q := (⟨"PensionHouseModel", "number", "(I)I"⟩, 89)) (List.mem_of_getElem? (i := 50) (by decide +kernel))
set_option maxRecDepth 20000 in
theorem lkp_51 : Cond.selects "PensionHouseModel" ⟨"PensionHouseModel", "copy", "(II)V"⟩ ⟨"PensionHouseModel", "copy", "(II)V"⟩ ∈ jw := jsel (q := (⟨"PensionHouseModel", "copy", "(II)V"⟩, 89)) (List.mem_of_getElem? (i := 51) (by decide +kernel))
set_option maxRecDepth 20000 in
theorem lkp_52 : Cond.selects "PensionHouseModel" ⟨"PensionHouseModel", "findKnown", "(IJII)I"⟩ ⟨"PensionHouseModel", "findKnown", "(IJII)I"⟩ ∈ jw := jsel (q := (⟨"PensionHouseModel", "findKnown", "(IJII)I"⟩, 89)) (List.mem_of_getElem? (i := 52) (by decide +kernel))
set_option maxRecDepth 20000 in
theorem lkp_53 : Cond.selects "PensionHouseModel" ⟨"PensionHouseModel", "slotOf", "(II)I"⟩ ⟨"PensionHouseModel", "slotOf", "(II)I"⟩ ∈ jw := jsel (q := (⟨"PensionHouseModel", "slotOf", "(II)I"⟩, 89)) (List.mem_of_getElem? (i := 53) (by decide +kernel))
set_option maxRecDepth 20000 in
theorem lkp_54 : Cond.selects "PensionHouseModel" ⟨"PensionHouseModel", "readText", "(I)V"⟩ ⟨"PensionHouseModel", "readText", "(I)V"⟩ ∈ jw := jsel (q := (⟨"PensionHouseModel", "readText", "(I)V"⟩, 89)) (List.mem_of_getElem? (i := 54) (by decide +kernel))
set_option maxRecDepth 20000 in
theorem lkp_55 : Cond.selects "PensionHouseModel" ⟨"PensionHouseModel", "now", "()I"⟩ ⟨"PensionHouseModel", "now", "()I"⟩ ∈ jw := jsel (q := (⟨"PensionHouseModel", "now", "()I"⟩, 89)) (List.mem_of_getElem? (i := 55) (by decide +kernel))
set_option maxRecDepth 20000 in
theorem lkp_56 : Cond.selects "PensionHouseModel" ⟨"PensionHouseModel", "wrong", "()V"⟩ ⟨"PensionHouseModel", "wrong", "()V"⟩ ∈ jw := jsel (q := (⟨"PensionHouseModel", "wrong", "()V"⟩, 89)) (List.mem_of_getElem? (i := 56) (by decide +kernel))
set_option maxRecDepth 20000 in
theorem lkp_57 : Cond.selects "PensionHouseModel" ⟨"PensionHouseModel", "fail", "(II)V"⟩ ⟨"PensionHouseModel", "fail", "(II)V"⟩ ∈ jw := jsel (q := (⟨"PensionHouseModel", "fail", "(II)V"⟩, 89)) (List.mem_of_getElem? (i := 57) (by decide +kernel))
set_option maxRecDepth 20000 in
theorem lkp_58 : Cond.selects "PensionHouseModel" ⟨"PensionHouseModel", "want", "(I)V"⟩ ⟨"PensionHouseModel", "want", "(I)V"⟩ ∈ jw := jsel (q := (⟨"PensionHouseModel", "want", "(I)V"⟩, 89)) (List.mem_of_getElem? (i := 58) (by decide +kernel))
set_option maxRecDepth 20000 in
theorem lkp_59 : Cond.selects "PensionHouseModel" ⟨"PensionHouseModel", "is", "(I)Z"⟩ ⟨"PensionHouseModel", "is", "(I)Z"⟩ ∈ jw := jsel (q := (⟨"PensionHouseModel", "is", "(I)Z"⟩, 89)) (List.mem_of_getElem? (i := 59) (by decide +kernel))
set_option maxRecDepth 20000 in
theorem lkp_60 : Cond.selects "PensionHouseModel" ⟨"PensionHouseModel", "findRule", "(IJ)I"⟩ ⟨"PensionHouseModel", "findRule", "(IJ)I"⟩ ∈ jw := jsel (q := (⟨"PensionHouseModel", "findRule", "(IJ)I"⟩, 89)) (List.mem_of_getElem? (i := 60) (by decide +kernel))
set_option maxRecDepth 20000 in
theorem lkp_61 : Cond.selects "PensionHouseModel" ⟨"PensionHouseModel", "expression", "(I)I"⟩ ⟨"PensionHouseModel", "expression", "(I)I"⟩ ∈ jw := jsel (q := (⟨"PensionHouseModel", "expression", "(I)I"⟩, 89)) (List.mem_of_getElem? (i := 61) (by decide +kernel))
set_option maxRecDepth 20000 in
theorem lkp_62 : Cond.selects "PensionHouseModel" ⟨"PensionHouseModel", "beginsUnary", "()Z"⟩ ⟨"PensionHouseModel", "beginsUnary", "()Z"⟩ ∈ jw := jsel (q := (⟨"PensionHouseModel", "beginsUnary", "()Z"⟩, 89)) (List.mem_of_getElem? (i := 62) (by decide +kernel))
set_option maxRecDepth 20000 in
theorem lkp_63 : Cond.selects "PensionHouseModel" ⟨"PensionHouseModel", "ifElse", "(I)I"⟩ ⟨"PensionHouseModel", "ifElse", "(I)I"⟩ ∈ jw := jsel (q := (⟨"PensionHouseModel", "ifElse", "(I)I"⟩, 89)) (List.mem_of_getElem? (i := 63) (by decide +kernel))
set_option maxRecDepth 20000 in
theorem lkp_64 : Cond.selects "PensionHouseModel" ⟨"PensionHouseModel", "part", "()Z"⟩ ⟨"PensionHouseModel", "part", "()Z"⟩ ∈ jw := jsel (q := (⟨"PensionHouseModel", "part", "()Z"⟩, 89)) (List.mem_of_getElem? (i := 64) (by decide +kernel))
set_option maxRecDepth 20000 in
theorem lkp_65 : Cond.selects "PensionHouseModel" ⟨"PensionHouseModel", "node", "(I)I"⟩ ⟨"PensionHouseModel", "node", "(I)I"⟩ ∈ jw := jsel (q := (⟨"PensionHouseModel", "node", "(I)I"⟩, 89)) (List.mem_of_getElem? (i := 65) (by decide +kernel))
set_option maxRecDepth 20000 in
theorem lkp_66 : Cond.selects "PensionHouseModel" ⟨"PensionHouseModel", "compared", "(I)I"⟩ ⟨"PensionHouseModel", "compared", "(I)I"⟩ ∈ jw := jsel (q := (⟨"PensionHouseModel", "compared", "(I)I"⟩, 89)) (List.mem_of_getElem? (i := 66) (by decide +kernel))
set_option maxRecDepth 20000 in
theorem lkp_67 : Cond.selects "PensionHouseModel" ⟨"PensionHouseModel", "added", "(I)I"⟩ ⟨"PensionHouseModel", "added", "(I)I"⟩ ∈ jw := jsel (q := (⟨"PensionHouseModel", "added", "(I)I"⟩, 89)) (List.mem_of_getElem? (i := 67) (by decide +kernel))
set_option maxRecDepth 20000 in
theorem lkp_68 : Cond.selects "PensionHouseModel" ⟨"PensionHouseModel", "multiplied", "(I)I"⟩ ⟨"PensionHouseModel", "multiplied", "(I)I"⟩ ∈ jw := jsel (q := (⟨"PensionHouseModel", "multiplied", "(I)I"⟩, 89)) (List.mem_of_getElem? (i := 68) (by decide +kernel))
set_option maxRecDepth 20000 in
theorem lkp_69 : Cond.selects "PensionHouseModel" ⟨"PensionHouseModel", "unary", "(I)I"⟩ ⟨"PensionHouseModel", "unary", "(I)I"⟩ ∈ jw := jsel (q := (⟨"PensionHouseModel", "unary", "(I)I"⟩, 89)) (List.mem_of_getElem? (i := 69) (by decide +kernel))
set_option maxRecDepth 20000 in
theorem lkp_70 : Cond.selects "PensionHouseModel" ⟨"PensionHouseModel", "primary", "(I)I"⟩ ⟨"PensionHouseModel", "primary", "(I)I"⟩ ∈ jw := jsel (q := (⟨"PensionHouseModel", "primary", "(I)I"⟩, 89)) (List.mem_of_getElem? (i := 70) (by decide +kernel))
set_option maxRecDepth 20000 in
theorem lkp_71 : Cond.selects "PensionHouseModel" ⟨"PensionHouseModel", "sum", "(I)I"⟩ ⟨"PensionHouseModel", "sum", "(I)I"⟩ ∈ jw := jsel (q := (⟨"PensionHouseModel", "sum", "(I)I"⟩, 89)) (List.mem_of_getElem? (i := 71) (by decide +kernel))
set_option maxRecDepth 20000 in
theorem lkp_72 : Cond.selects "PensionHouseModel" ⟨"PensionHouseModel", "named", "()I"⟩ ⟨"PensionHouseModel", "named", "()I"⟩ ∈ jw := jsel (q := (⟨"PensionHouseModel", "named", "()I"⟩, 89)) (List.mem_of_getElem? (i := 72) (by decide +kernel))
set_option maxRecDepth 20000 in
theorem lkp_73 : Cond.selects "PensionHouseModel" ⟨"PensionHouseModel", "operator", "(I)I"⟩ ⟨"PensionHouseModel", "operator", "(I)I"⟩ ∈ jw := jsel (q := (⟨"PensionHouseModel", "operator", "(I)I"⟩, 89)) (List.mem_of_getElem? (i := 73) (by decide +kernel))
set_option maxRecDepth 20000 in
theorem lkp_74 : Cond.selects "PensionHouseModel" ⟨"PensionHouseModel", "toldText", "()I"⟩ ⟨"PensionHouseModel", "toldText", "()I"⟩ ∈ jw := jsel (q := (⟨"PensionHouseModel", "toldText", "()I"⟩, 89)) (List.mem_of_getElem? (i := 74) (by decide +kernel))
set_option maxRecDepth 20000 in
theorem lkp_75 : Cond.selects "PensionHouseModel" ⟨"PensionHouseModel", "inForceAt", "(II)I"⟩ ⟨"PensionHouseModel", "inForceAt", "(II)I"⟩ ∈ jw := jsel (q := (⟨"PensionHouseModel", "inForceAt", "(II)I"⟩, 89)) (List.mem_of_getElem? (i := 75) (by decide +kernel))
set_option maxRecDepth 20000 in
theorem lkp_76 : Cond.selects "PensionHouseModel" ⟨"PensionHouseModel", "beginCase", "(IIIII)I"⟩ ⟨"PensionHouseModel", "beginCase", "(IIIII)I"⟩ ∈ jw := jsel (q := (⟨"PensionHouseModel", "beginCase", "(IIIII)I"⟩, 89)) (List.mem_of_getElem? (i := 76) (by decide +kernel))
set_option maxRecDepth 20000 in
theorem lkp_77 : Cond.selects "PensionHouseModel" ⟨"PensionHouseModel", "workRule", "(I)I"⟩ ⟨"PensionHouseModel", "workRule", "(I)I"⟩ ∈ jw := jsel (q := (⟨"PensionHouseModel", "workRule", "(I)I"⟩, 89)) (List.mem_of_getElem? (i := 77) (by decide +kernel))
set_option maxRecDepth 20000 in
theorem lkp_78 : Cond.selects "PensionHouseModel" ⟨"PensionHouseModel", "workNode", "(I)I"⟩ ⟨"PensionHouseModel", "workNode", "(I)I"⟩ ∈ jw := jsel (q := (⟨"PensionHouseModel", "workNode", "(I)I"⟩, 89)) (List.mem_of_getElem? (i := 78) (by decide +kernel))
set_option maxRecDepth 20000 in
theorem lkp_79 : Cond.selects "PensionHouseModel" ⟨"PensionHouseModel", "counted", "(I)Z"⟩ ⟨"PensionHouseModel", "counted", "(I)Z"⟩ ∈ jw := jsel (q := (⟨"PensionHouseModel", "counted", "(I)Z"⟩, 89)) (List.mem_of_getElem? (i := 79) (by decide +kernel))
set_option maxRecDepth 20000 in
theorem lkp_80 : Cond.selects "PensionHouseModel" ⟨"PensionHouseModel", "failing", "(I)I"⟩ ⟨"PensionHouseModel", "failing", "(I)I"⟩ ∈ jw := jsel (q := (⟨"PensionHouseModel", "failing", "(I)I"⟩, 89)) (List.mem_of_getElem? (i := 80) (by decide +kernel))
set_option maxRecDepth 20000 in
theorem lkp_81 : Cond.selects "PensionHouseModel" ⟨"PensionHouseModel", "ofWhole", "(J)I"⟩ ⟨"PensionHouseModel", "ofWhole", "(J)I"⟩ ∈ jw := jsel (q := (⟨"PensionHouseModel", "ofWhole", "(J)I"⟩, 89)) (List.mem_of_getElem? (i := 81) (by decide +kernel))
set_option maxRecDepth 20000 in
theorem lkp_82 : Cond.selects "PensionHouseModel" ⟨"PensionHouseModel", "made", "(II)I"⟩ ⟨"PensionHouseModel", "made", "(II)I"⟩ ∈ jw := jsel (q := (⟨"PensionHouseModel", "made", "(II)I"⟩, 89)) (List.mem_of_getElem? (i := 82) (by decide +kernel))
set_option maxRecDepth 20000 in
theorem lkp_83 : Cond.selects "PensionHouseModel" ⟨"PensionHouseModel", "ofReal", "(D)I"⟩ ⟨"PensionHouseModel", "ofReal", "(D)I"⟩ ∈ jw := jsel (q := (⟨"PensionHouseModel", "ofReal", "(D)I"⟩, 89)) (List.mem_of_getElem? (i := 83) (by decide +kernel))
set_option maxRecDepth 20000 in
theorem lkp_84 : Cond.selects "PensionHouseModel" ⟨"PensionHouseModel", "workFact", "(J)I"⟩ ⟨"PensionHouseModel", "workFact", "(J)I"⟩ ∈ jw := jsel (q := (⟨"PensionHouseModel", "workFact", "(J)I"⟩, 89)) (List.mem_of_getElem? (i := 84) (by decide +kernel))
set_option maxRecDepth 20000 in
theorem lkp_85 : Cond.selects "PensionHouseModel" ⟨"PensionHouseModel", "negative", "(I)I"⟩ ⟨"PensionHouseModel", "negative", "(I)I"⟩ ∈ jw := jsel (q := (⟨"PensionHouseModel", "negative", "(I)I"⟩, 89)) (List.mem_of_getElem? (i := 85) (by decide +kernel))
set_option maxRecDepth 20000 in
theorem lkp_86 : Cond.selects "PensionHouseModel" ⟨"PensionHouseModel", "workIf", "(I)I"⟩ ⟨"PensionHouseModel", "workIf", "(I)I"⟩ ∈ jw := jsel (q := (⟨"PensionHouseModel", "workIf", "(I)I"⟩, 89)) (List.mem_of_getElem? (i := 86) (by decide +kernel))
set_option maxRecDepth 20000 in
theorem lkp_87 : Cond.selects "PensionHouseModel" ⟨"PensionHouseModel", "workTry", "(I)I"⟩ ⟨"PensionHouseModel", "workTry", "(I)I"⟩ ∈ jw := jsel (q := (⟨"PensionHouseModel", "workTry", "(I)I"⟩, 89)) (List.mem_of_getElem? (i := 87) (by decide +kernel))
set_option maxRecDepth 20000 in
theorem lkp_88 : Cond.selects "PensionHouseModel" ⟨"PensionHouseModel", "workSum", "(I)I"⟩ ⟨"PensionHouseModel", "workSum", "(I)I"⟩ ∈ jw := jsel (q := (⟨"PensionHouseModel", "workSum", "(I)I"⟩, 89)) (List.mem_of_getElem? (i := 88) (by decide +kernel))
set_option maxRecDepth 20000 in
theorem lkp_89 : Cond.selects "PensionHouseModel" ⟨"PensionHouseModel", "arithmetic", "(III)I"⟩ ⟨"PensionHouseModel", "arithmetic", "(III)I"⟩ ∈ jw := jsel (q := (⟨"PensionHouseModel", "arithmetic", "(III)I"⟩, 89)) (List.mem_of_getElem? (i := 89) (by decide +kernel))
set_option maxRecDepth 20000 in
theorem lkp_90 : Cond.selects "PensionHouseModel" ⟨"PensionHouseModel", "asReal", "(I)D"⟩ ⟨"PensionHouseModel", "asReal", "(I)D"⟩ ∈ jw := jsel (q := (⟨"PensionHouseModel", "asReal", "(I)D"⟩, 89)) (List.mem_of_getElem? (i := 90) (by decide +kernel))
set_option maxRecDepth 20000 in
theorem lkp_91 : Cond.selects "PensionHouseModel" ⟨"PensionHouseModel", "whole", "(IJJ)I"⟩ ⟨"PensionHouseModel", "whole", "(IJJ)I"⟩ ∈ jw := jsel (q := (⟨"PensionHouseModel", "whole", "(IJJ)I"⟩, 89)) (List.mem_of_getElem? (i := 91) (by decide +kernel))
set_option maxRecDepth 20000 in
theorem lkp_92 : Cond.selects "PensionHouseModel" ⟨"PensionHouseModel", "workMore", "(II)I"⟩ ⟨"PensionHouseModel", "workMore", "(II)I"⟩ ∈ jw := jsel (q := (⟨"PensionHouseModel", "workMore", "(II)I"⟩, 89)) (List.mem_of_getElem? (i := 92) (by decide +kernel))
set_option maxRecDepth 20000 in
theorem lkp_93 : Cond.selects "PensionHouseModel" ⟨"PensionHouseModel", "compare", "(III)I"⟩ ⟨"PensionHouseModel", "compare", "(III)I"⟩ ∈ jw := jsel (q := (⟨"PensionHouseModel", "compare", "(III)I"⟩, 89)) (List.mem_of_getElem? (i := 93) (by decide +kernel))
set_option maxRecDepth 20000 in
theorem lkp_94 : Cond.selects "PensionHouseModel" ⟨"PensionHouseModel", "item", "(II)I"⟩ ⟨"PensionHouseModel", "item", "(II)I"⟩ ∈ jw := jsel (q := (⟨"PensionHouseModel", "item", "(II)I"⟩, 89)) (List.mem_of_getElem? (i := 94) (by decide +kernel))
set_option maxRecDepth 20000 in
theorem lkp_95 : Cond.selects "PensionHouseModel" ⟨"PensionHouseModel", "extreme", "(III)I"⟩ ⟨"PensionHouseModel", "extreme", "(III)I"⟩ ∈ jw := jsel (q := (⟨"PensionHouseModel", "extreme", "(III)I"⟩, 89)) (List.mem_of_getElem? (i := 95) (by decide +kernel))
set_option maxRecDepth 20000 in
theorem lkp_96 : Cond.selects "PensionHouseModel" ⟨"PensionHouseModel", "last", "(II)I"⟩ ⟨"PensionHouseModel", "last", "(II)I"⟩ ∈ jw := jsel (q := (⟨"PensionHouseModel", "last", "(II)I"⟩, 89)) (List.mem_of_getElem? (i := 96) (by decide +kernel))
set_option maxRecDepth 20000 in
theorem lkp_97 : Cond.selects "PensionHouseModel" ⟨"PensionHouseModel", "put", "(IIIII)V"⟩ ⟨"PensionHouseModel", "put", "(IIIII)V"⟩ ∈ jw := jsel (q := (⟨"PensionHouseModel", "put", "(IIIII)V"⟩, 89)) (List.mem_of_getElem? (i := 97) (by decide +kernel))
set_option maxRecDepth 20000 in
theorem lkp_98 : Cond.selects "PensionHouseModel" ⟨"PensionHouseModel", "join", "(II)I"⟩ ⟨"PensionHouseModel", "join", "(II)I"⟩ ∈ jw := jsel (q := (⟨"PensionHouseModel", "join", "(II)I"⟩, 89)) (List.mem_of_getElem? (i := 98) (by decide +kernel))
set_option maxRecDepth 20000 in
theorem lkp_99 : Cond.selects "PensionHouseModel" ⟨"PensionHouseModel", "with", "(III)I"⟩ ⟨"PensionHouseModel", "with", "(III)I"⟩ ∈ jw := jsel (q := (⟨"PensionHouseModel", "with", "(III)I"⟩, 89)) (List.mem_of_getElem? (i := 99) (by decide +kernel))
set_option maxRecDepth 20000 in
theorem lkp_100 : Cond.selects "PensionHouseModel" ⟨"PensionHouseModel", "best", "(II)I"⟩ ⟨"PensionHouseModel", "best", "(II)I"⟩ ∈ jw := jsel (q := (⟨"PensionHouseModel", "best", "(II)I"⟩, 89)) (List.mem_of_getElem? (i := 100) (by decide +kernel))
set_option maxRecDepth 20000 in
theorem lkp_101 : Cond.selects "PensionHouseModel" ⟨"PensionHouseModel", "function", "(II)I"⟩ ⟨"PensionHouseModel", "function", "(II)I"⟩ ∈ jw := jsel (q := (⟨"PensionHouseModel", "function", "(II)I"⟩, 89)) (List.mem_of_getElem? (i := 101) (by decide +kernel))
set_option maxRecDepth 20000 in
theorem lkp_102 : Cond.selects "PensionHouseModel" ⟨"PensionHouseModel", "workDue", "(IIII)I"⟩ ⟨"PensionHouseModel", "workDue", "(IIII)I"⟩ ∈ jw := jsel (q := (⟨"PensionHouseModel", "workDue", "(IIII)I"⟩, 89)) (List.mem_of_getElem? (i := 102) (by decide +kernel))
set_option maxRecDepth 20000 in
theorem lkp_103 : Cond.selects "PensionHouseModel" ⟨"PensionHouseModel", "areAlike", "(II)Z"⟩ ⟨"PensionHouseModel", "areAlike", "(II)Z"⟩ ∈ jw := jsel (q := (⟨"PensionHouseModel", "areAlike", "(II)Z"⟩, 89)) (List.mem_of_getElem? (i := 103) (by decide +kernel))
set_option maxRecDepth 20000 in
theorem lkp_104 : Cond.selects "PensionHouseModel" ⟨"PensionHouseModel", "dueOf", "(III)J"⟩ ⟨"PensionHouseModel", "dueOf", "(III)J"⟩ ∈ jw := jsel (q := (⟨"PensionHouseModel", "dueOf", "(III)J"⟩, 89)) (List.mem_of_getElem? (i := 104) (by decide +kernel))
set_option maxRecDepth 20000 in
theorem lkp_105 : Cond.selects "PensionHouseModel" ⟨"PensionHouseModel", "pay", "(I)V"⟩ ⟨"PensionHouseModel", "pay", "(I)V"⟩ ∈ jw := jsel (q := (⟨"PensionHouseModel", "pay", "(I)V"⟩, 89)) (List.mem_of_getElem? (i := 105) (by decide +kernel))
set_option maxRecDepth 20000 in
theorem lkp_106 : Cond.selects "PensionHouseModel" ⟨"PensionHouseModel", "paid", "(I)J"⟩ ⟨"PensionHouseModel", "paid", "(I)J"⟩ ∈ jw := jsel (q := (⟨"PensionHouseModel", "paid", "(I)J"⟩, 89)) (List.mem_of_getElem? (i := 106) (by decide +kernel))
