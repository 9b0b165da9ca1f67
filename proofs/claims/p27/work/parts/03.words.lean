theorem mt_1 {i : Nat} {w : Cond} (h : tables_1_1[i]? = some w) : w ∈ lw_tbl := List.mem_append_right _ (List.mem_append_left _ (List.mem_of_getElem? h))
theorem mt_2 {i : Nat} {w : Cond} (h : tables_1_2[i]? = some w) : w ∈ lw_tbl := List.mem_append_right _ (List.mem_append_right _ (List.mem_append_left _ (List.mem_of_getElem? h)))
theorem mt_3 {i : Nat} {w : Cond} (h : tables_1_3[i]? = some w) : w ∈ lw_tbl := List.mem_append_right _ (List.mem_append_right _ (List.mem_append_right _ (List.mem_append_left _ (List.mem_of_getElem? h))))
theorem mt_4 {i : Nat} {w : Cond} (h : tables_1_4[i]? = some w) : w ∈ lw_tbl := List.mem_append_right _ (List.mem_append_right _ (List.mem_append_right _ (List.mem_append_right _ (List.mem_append_left _ (List.mem_of_getElem? h)))))
theorem mt_5 {i : Nat} {w : Cond} (h : tables_1_5[i]? = some w) : w ∈ lw_tbl := List.mem_append_right _ (List.mem_append_right _ (List.mem_append_right _ (List.mem_append_right _ (List.mem_append_right _ (List.mem_append_left _ (List.mem_of_getElem? h))))))
theorem mt_6 {i : Nat} {w : Cond} (h : tables_1_6[i]? = some w) : w ∈ lw_tbl := List.mem_append_right _ (List.mem_append_right _ (List.mem_append_right _ (List.mem_append_right _ (List.mem_append_right _ (List.mem_append_right _ (List.mem_of_getElem? h))))))
theorem mt_0 {i : Nat} {w : Cond} (h : (k2_sels lw_privs)[i]? = some w) : w ∈ lw_tbl := List.mem_append_left _ (List.mem_of_getElem? h)
/-- the words that a callee may have: those that stand on the tables -/
def WA : List Cond := lw_tbl.filter goodWord
theorem wa_of {w : Cond} (h : w ∈ lw_tbl) (g : goodWord w = true) : w ∈ WA := List.mem_filter.mpr ⟨h, g⟩
theorem q1_0 : (Jvm.Cond.initialized "LeanTowerLaw") ∈ WA := wa_of (mt_1 (i := 0) rfl) rfl
theorem q1_1 : (Jvm.Cond.initialized "LeanTower") ∈ WA := wa_of (mt_1 (i := 1) rfl) rfl
theorem q1_2 : (Jvm.Cond.initialized "LeanTower$Reader") ∈ WA := wa_of (mt_1 (i := 2) rfl) rfl
theorem q1_3 : (Jvm.Cond.initialized "LeanTower$Tower") ∈ WA := wa_of (mt_1 (i := 3) rfl) rfl
theorem q1_4 : (Jvm.Cond.initialized "LeanTower$Trace") ∈ WA := wa_of (mt_1 (i := 4) rfl) rfl
theorem q1_5 : (Jvm.Cond.initialized "LeanTower$Bells") ∈ WA := wa_of (mt_1 (i := 5) rfl) rfl
theorem q1_6 : (Jvm.Cond.initialized "LeanTower$Row") ∈ WA := wa_of (mt_1 (i := 6) rfl) rfl
theorem q1_7 : (Jvm.Cond.initialized "LeanTowerModel") ∈ WA := wa_of (mt_1 (i := 7) rfl) rfl
theorem q1_8 : (Jvm.Cond.initialized "java/lang/System") ∈ WA := wa_of (mt_1 (i := 8) rfl) rfl
theorem q1_9 : (Jvm.Cond.initialized "java/lang/String") ∈ WA := wa_of (mt_1 (i := 9) rfl) rfl
theorem q1_10 : (Jvm.Cond.initialized "java/lang/StringLatin1") ∈ WA := wa_of (mt_1 (i := 10) rfl) rfl
theorem q1_11 : (Jvm.Cond.initialized "jdk/internal/util/Preconditions") ∈ WA := wa_of (mt_1 (i := 11) rfl) rfl
theorem q1_12 : (Jvm.Cond.initialized "java/lang/StringUTF16") ∈ WA := wa_of (mt_1 (i := 12) rfl) rfl
theorem q1_13 : (Jvm.Cond.initialized "LeanTower$Person") ∈ WA := wa_of (mt_1 (i := 13) rfl) rfl
theorem q1_14 : (Jvm.Cond.initialized "LeanTower$Pilgrim") ∈ WA := wa_of (mt_1 (i := 14) rfl) rfl
theorem q1_15 : (Jvm.Cond.initialized "LeanTower$Widow") ∈ WA := wa_of (mt_1 (i := 15) rfl) rfl
theorem q1_16 : (Jvm.Cond.initialized "LeanTower$Boy") ∈ WA := wa_of (mt_1 (i := 16) rfl) rfl
theorem q1_17 : (Jvm.Cond.initialized "LeanTower$Monk") ∈ WA := wa_of (mt_1 (i := 17) rfl) rfl
theorem q1_18 : (Jvm.Cond.initialized "LeanTower$Bishop") ∈ WA := wa_of (mt_1 (i := 18) rfl) rfl
theorem q1_19 : (Jvm.Cond.initialized "java/lang/Math") ∈ WA := wa_of (mt_1 (i := 19) rfl) rfl
theorem q1_20 : (Jvm.Cond.initialized "java/lang/Integer") ∈ WA := wa_of (mt_1 (i := 20) rfl) rfl
theorem q1_21 : (Jvm.Cond.classLink "LeanTowerLaw" (7 : Nat) "LeanTower") ∈ WA := wa_of (mt_1 (i := 21) rfl) rfl
theorem q1_22 : (Jvm.Cond.instantiable "LeanTower" (13 : Nat)) ∈ WA := wa_of (mt_1 (i := 22) rfl) rfl
theorem q1_23 : (Jvm.Cond.methodLink "LeanTowerLaw" (9 : Nat) ({ cls := "LeanTower", name := "<init>", desc := "()V" } : Jvm.MethodName)) ∈ WA := wa_of (mt_1 (i := 23) rfl) rfl
theorem q1_24 : (Jvm.Cond.instanceMethod ({ cls := "LeanTower", name := "<init>", desc := "()V" } : Jvm.MethodName)) ∈ WA := wa_of (mt_1 (i := 24) rfl) rfl
theorem q1_25 : (Jvm.Cond.code ({ cls := "LeanTower", name := "<init>", desc := "()V" } : Jvm.MethodName) prog_1_method_1_code (2 : Nat) (Option.none : Option Jvm.ClassFile.FieldType)) ∈ WA := wa_of (mt_1 (i := 25) rfl) rfl
theorem q1_26 : (Jvm.Cond.methodLink "LeanTower" (3 : Nat) ({ cls := "java/lang/Object", name := "<init>", desc := "()V" } : Jvm.MethodName)) ∈ WA := wa_of (mt_1 (i := 26) rfl) rfl
theorem q1_27 : (Jvm.Cond.instanceMethod ({ cls := "java/lang/Object", name := "<init>", desc := "()V" } : Jvm.MethodName)) ∈ WA := wa_of (mt_1 (i := 27) rfl) rfl
theorem q1_28 : (Jvm.Cond.code ({ cls := "java/lang/Object", name := "<init>", desc := "()V" } : Jvm.MethodName) object_method_1_code (1 : Nat) (Option.none : Option Jvm.ClassFile.FieldType)) ∈ WA := wa_of (mt_1 (i := 28) rfl) rfl
theorem q1_29 : (Jvm.Cond.classLink "LeanTower" (9 : Nat) "LeanTower$Row") ∈ WA := wa_of (mt_1 (i := 29) rfl) rfl
theorem q1_30 : (Jvm.Cond.arrayOver (Jvm.ClassFile.FieldType.object "LeanTower$Row")) ∈ lw_tbl := mt_1 (i := 30) rfl
theorem q1_31 : (Jvm.Cond.classLink "LeanTower" (15 : Nat) "LeanTower$Reader") ∈ WA := wa_of (mt_1 (i := 31) rfl) rfl
theorem q1_32 : (Jvm.Cond.instantiable "LeanTower$Reader" (8 : Nat)) ∈ WA := wa_of (mt_1 (i := 32) rfl) rfl
theorem q1_33 : (Jvm.Cond.methodLinkNest "LeanTower" (17 : Nat) ({ cls := "LeanTower$Reader", name := "<init>", desc := "()V" } : Jvm.MethodName) "LeanTower") ∈ lw_tbl := mt_1 (i := 33) rfl
theorem q1_34 : (Jvm.Cond.instanceMethod ({ cls := "LeanTower$Reader", name := "<init>", desc := "()V" } : Jvm.MethodName)) ∈ WA := wa_of (mt_1 (i := 34) rfl) rfl
theorem q1_35 : (Jvm.Cond.code ({ cls := "LeanTower$Reader", name := "<init>", desc := "()V" } : Jvm.MethodName) prog_8_method_1_code (1 : Nat) (Option.none : Option Jvm.ClassFile.FieldType)) ∈ WA := wa_of (mt_1 (i := 35) rfl) rfl
theorem q1_36 : (Jvm.Cond.methodLink "LeanTower$Reader" (3 : Nat) ({ cls := "java/lang/Object", name := "<init>", desc := "()V" } : Jvm.MethodName)) ∈ WA := wa_of (mt_1 (i := 36) rfl) rfl
theorem q1_37 : (Jvm.Cond.fieldLink "LeanTower$Reader" (11 : Nat) "LeanTower$Reader" "tape" "[B") ∈ WA := wa_of (mt_1 (i := 37) rfl) rfl
theorem q1_38 : (Jvm.Cond.fieldLink "LeanTower$Reader" (15 : Nat) "LeanTower$Reader" "bytes" "I") ∈ WA := wa_of (mt_1 (i := 38) rfl) rfl
theorem q1_39 : (Jvm.Cond.fieldLink "LeanTower" (108 : Nat) "LeanTower$Reader" "bytes" "I") ∈ WA := wa_of (mt_1 (i := 39) rfl) rfl
theorem q1_40 : (Jvm.Cond.fieldLink "LeanTower" (134 : Nat) "LeanTower$Reader" "latestFault" "I") ∈ WA := wa_of (mt_1 (i := 40) rfl) rfl
theorem q1_41 : (Jvm.Cond.fieldLink "LeanTower$Reader" (122 : Nat) "LeanTower$Reader" "latestFault" "I") ∈ WA := wa_of (mt_1 (i := 41) rfl) rfl
theorem q1_42 : (Jvm.Cond.fieldLink "LeanTower" (121 : Nat) "LeanTower$Reader" "faultPlace" "I") ∈ WA := wa_of (mt_1 (i := 42) rfl) rfl
theorem q1_43 : (Jvm.Cond.fieldLink "LeanTower$Reader" (128 : Nat) "LeanTower$Reader" "faultPlace" "I") ∈ WA := wa_of (mt_1 (i := 43) rfl) rfl
theorem q1_44 : (Jvm.Cond.fieldLink "LeanTower$Reader" (125 : Nat) "LeanTower$Reader" "tokenStart" "I") ∈ WA := wa_of (mt_1 (i := 44) rfl) rfl
theorem q1_45 : (Jvm.Cond.fieldLink "LeanTower$Reader" (24 : Nat) "LeanTower$Reader" "tokenEnd" "I") ∈ WA := wa_of (mt_1 (i := 45) rfl) rfl
theorem q1_46 : (Jvm.Cond.fieldLink "LeanTower$Reader" (48 : Nat) "LeanTower$Reader" "token" "I") ∈ WA := wa_of (mt_1 (i := 46) rfl) rfl
theorem q1_47 : (Jvm.Cond.fieldLink "LeanTower$Reader" (77 : Nat) "LeanTower$Reader" "tokenValue" "I") ∈ WA := wa_of (mt_1 (i := 47) rfl) rfl
theorem q1_48 : (Jvm.Cond.laysFinal "LeanTower$Reader" "LeanTower$Reader" "tape" "[B") ∈ WA := wa_of (mt_1 (i := 48) rfl) rfl
theorem q1_49 : (Jvm.Cond.soleField "LeanTower$Reader" "tape") ∈ WA := wa_of (mt_1 (i := 49) rfl) rfl
theorem q1_50 : (Jvm.Cond.lays "LeanTower$Reader" "LeanTower$Reader" "bytes" "I") ∈ WA := wa_of (mt_1 (i := 50) rfl) rfl
theorem q1_51 : (Jvm.Cond.soleField "LeanTower$Reader" "bytes") ∈ WA := wa_of (mt_1 (i := 51) rfl) rfl
theorem q1_52 : (Jvm.Cond.lays "LeanTower$Reader" "LeanTower$Reader" "latestFault" "I") ∈ WA := wa_of (mt_1 (i := 52) rfl) rfl
theorem q1_53 : (Jvm.Cond.soleField "LeanTower$Reader" "latestFault") ∈ WA := wa_of (mt_1 (i := 53) rfl) rfl
theorem q1_54 : (Jvm.Cond.lays "LeanTower$Reader" "LeanTower$Reader" "faultPlace" "I") ∈ WA := wa_of (mt_1 (i := 54) rfl) rfl
theorem q1_55 : (Jvm.Cond.soleField "LeanTower$Reader" "faultPlace") ∈ WA := wa_of (mt_1 (i := 55) rfl) rfl
theorem q1_56 : (Jvm.Cond.lays "LeanTower$Reader" "LeanTower$Reader" "tokenStart" "I") ∈ WA := wa_of (mt_1 (i := 56) rfl) rfl
theorem q1_57 : (Jvm.Cond.soleField "LeanTower$Reader" "tokenStart") ∈ WA := wa_of (mt_1 (i := 57) rfl) rfl
theorem q1_58 : (Jvm.Cond.lays "LeanTower$Reader" "LeanTower$Reader" "tokenEnd" "I") ∈ WA := wa_of (mt_1 (i := 58) rfl) rfl
theorem q1_59 : (Jvm.Cond.soleField "LeanTower$Reader" "tokenEnd") ∈ WA := wa_of (mt_1 (i := 59) rfl) rfl
theorem q1_60 : (Jvm.Cond.lays "LeanTower$Reader" "LeanTower$Reader" "token" "I") ∈ WA := wa_of (mt_1 (i := 60) rfl) rfl
theorem q1_61 : (Jvm.Cond.soleField "LeanTower$Reader" "token") ∈ WA := wa_of (mt_1 (i := 61) rfl) rfl
theorem q1_62 : (Jvm.Cond.lays "LeanTower$Reader" "LeanTower$Reader" "tokenValue" "I") ∈ WA := wa_of (mt_1 (i := 62) rfl) rfl
theorem q1_63 : (Jvm.Cond.soleField "LeanTower$Reader" "tokenValue") ∈ WA := wa_of (mt_1 (i := 63) rfl) rfl
theorem q1_64 : (Jvm.Cond.superclass "LeanTower$Reader" "java/lang/Object") ∈ WA := wa_of (mt_1 (i := 64) rfl) rfl
theorem q1_65 : (Jvm.Cond.arrayClass Jvm.ClassFile.FieldType.byte) ∈ WA := wa_of (mt_1 (i := 65) rfl) rfl
theorem q1_66 : (Jvm.Cond.classLink "LeanTower" (22 : Nat) "LeanTower$Tower") ∈ WA := wa_of (mt_1 (i := 66) rfl) rfl
theorem q1_67 : (Jvm.Cond.instantiable "LeanTower$Tower" (12 : Nat)) ∈ WA := wa_of (mt_1 (i := 67) rfl) rfl
theorem q1_68 : (Jvm.Cond.methodLinkNest "LeanTower" (24 : Nat) ({ cls := "LeanTower$Tower", name := "<init>", desc := "()V" } : Jvm.MethodName) "LeanTower") ∈ lw_tbl := mt_1 (i := 68) rfl
theorem q1_69 : (Jvm.Cond.instanceMethod ({ cls := "LeanTower$Tower", name := "<init>", desc := "()V" } : Jvm.MethodName)) ∈ WA := wa_of (mt_1 (i := 69) rfl) rfl
theorem q1_70 : (Jvm.Cond.code ({ cls := "LeanTower$Tower", name := "<init>", desc := "()V" } : Jvm.MethodName) prog_10_method_1_code (1 : Nat) (Option.none : Option Jvm.ClassFile.FieldType)) ∈ WA := wa_of (mt_1 (i := 70) rfl) rfl
theorem q1_71 : (Jvm.Cond.methodLink "LeanTower$Tower" (3 : Nat) ({ cls := "java/lang/Object", name := "<init>", desc := "()V" } : Jvm.MethodName)) ∈ WA := wa_of (mt_1 (i := 71) rfl) rfl
theorem q1_72 : (Jvm.Cond.classLink "LeanTower$Tower" (9 : Nat) "LeanTower$Person") ∈ WA := wa_of (mt_1 (i := 72) rfl) rfl
theorem q1_73 : (Jvm.Cond.arrayOver (Jvm.ClassFile.FieldType.object "LeanTower$Person")) ∈ lw_tbl := mt_1 (i := 73) rfl
theorem q1_74 : (Jvm.Cond.fieldLink "LeanTower$Tower" (30 : Nat) "LeanTower$Tower" "steps" "I") ∈ WA := wa_of (mt_1 (i := 74) rfl) rfl
theorem q1_75 : (Jvm.Cond.fieldLink "LeanTower$Reader" (61 : Nat) "LeanTower$Tower" "steps" "I") ∈ WA := wa_of (mt_1 (i := 75) rfl) rfl
theorem q1_76 : (Jvm.Cond.fieldLink "LeanTower" (246 : Nat) "LeanTower$Tower" "steps" "I") ∈ WA := wa_of (mt_1 (i := 76) rfl) rfl
theorem q1_77 : (Jvm.Cond.fieldLink "LeanTower$Tower" (34 : Nat) "LeanTower$Tower" "law" "I") ∈ WA := wa_of (mt_1 (i := 77) rfl) rfl
theorem q1_78 : (Jvm.Cond.fieldLink "LeanTower$Reader" (64 : Nat) "LeanTower$Tower" "law" "I") ∈ WA := wa_of (mt_1 (i := 78) rfl) rfl
theorem q1_79 : (Jvm.Cond.fieldLink "LeanTower" (313 : Nat) "LeanTower$Tower" "law" "I") ∈ WA := wa_of (mt_1 (i := 79) rfl) rfl
theorem q1_80 : (Jvm.Cond.fieldLink "LeanTower$Tower" (37 : Nat) "LeanTower$Tower" "people" "I") ∈ WA := wa_of (mt_1 (i := 80) rfl) rfl
theorem q1_81 : (Jvm.Cond.fieldLink "LeanTower$Reader" (70 : Nat) "LeanTower$Tower" "people" "I") ∈ WA := wa_of (mt_1 (i := 81) rfl) rfl
theorem q1_82 : (Jvm.Cond.fieldLink "LeanTower" (131 : Nat) "LeanTower$Tower" "people" "I") ∈ WA := wa_of (mt_1 (i := 82) rfl) rfl
theorem q1_83 : (Jvm.Cond.fieldLink "LeanTower$Tower" (40 : Nat) "LeanTower$Tower" "stones" "I") ∈ WA := wa_of (mt_1 (i := 83) rfl) rfl
theorem q1_84 : (Jvm.Cond.fieldLink "LeanTower$Reader" (88 : Nat) "LeanTower$Tower" "stones" "I") ∈ WA := wa_of (mt_1 (i := 84) rfl) rfl
theorem q1_85 : (Jvm.Cond.fieldLink "LeanTower" (234 : Nat) "LeanTower$Tower" "stones" "I") ∈ WA := wa_of (mt_1 (i := 85) rfl) rfl
theorem q1_86 : (Jvm.Cond.fieldLink "LeanTower$Tower" (11 : Nat) "LeanTower$Tower" "persons" "[LLeanTower$Person;") ∈ WA := wa_of (mt_1 (i := 86) rfl) rfl
theorem q1_87 : (Jvm.Cond.fieldLink "LeanTower$Tower" (17 : Nat) "LeanTower$Tower" "step" "[I") ∈ WA := wa_of (mt_1 (i := 87) rfl) rfl
theorem q1_88 : (Jvm.Cond.fieldLink "LeanTower" (188 : Nat) "LeanTower$Tower" "step" "[I") ∈ WA := wa_of (mt_1 (i := 88) rfl) rfl
theorem q1_89 : (Jvm.Cond.fieldLink "LeanTower$Tower" (21 : Nat) "LeanTower$Tower" "way" "[I") ∈ WA := wa_of (mt_1 (i := 89) rfl) rfl
theorem q1_90 : (Jvm.Cond.fieldLink "LeanTower" (141 : Nat) "LeanTower$Tower" "way" "[I") ∈ WA := wa_of (mt_1 (i := 90) rfl) rfl
theorem q1_91 : (Jvm.Cond.fieldLink "LeanTower$Tower" (24 : Nat) "LeanTower$Tower" "stoneWeight" "[I") ∈ WA := wa_of (mt_1 (i := 91) rfl) rfl
theorem q1_92 : (Jvm.Cond.fieldLink "LeanTower" (304 : Nat) "LeanTower$Tower" "stoneWeight" "[I") ∈ WA := wa_of (mt_1 (i := 92) rfl) rfl
theorem q1_93 : (Jvm.Cond.fieldLink "LeanTower$Tower" (27 : Nat) "LeanTower$Tower" "stoneSide" "[I") ∈ WA := wa_of (mt_1 (i := 93) rfl) rfl
theorem q1_94 : (Jvm.Cond.fieldLink "LeanTower" (150 : Nat) "LeanTower$Tower" "stoneSide" "[I") ∈ WA := wa_of (mt_1 (i := 94) rfl) rfl
theorem q1_95 : (Jvm.Cond.fieldLink "LeanTower$Tower" (43 : Nat) "LeanTower$Tower" "minute" "I") ∈ WA := wa_of (mt_1 (i := 95) rfl) rfl
theorem q1_96 : (Jvm.Cond.fieldLink "LeanTower" (157 : Nat) "LeanTower$Tower" "minute" "I") ∈ WA := wa_of (mt_1 (i := 96) rfl) rfl
theorem q1_97 : (Jvm.Cond.fieldLink "LeanTower$Tower" (46 : Nat) "LeanTower$Tower" "creptEast" "I") ∈ WA := wa_of (mt_1 (i := 97) rfl) rfl
theorem q1_98 : (Jvm.Cond.fieldLink "LeanTower" (167 : Nat) "LeanTower$Tower" "creptEast" "I") ∈ WA := wa_of (mt_1 (i := 98) rfl) rfl
theorem q1_99 : (Jvm.Cond.fieldLink "LeanTower$Tower" (49 : Nat) "LeanTower$Tower" "creptNorth" "I") ∈ WA := wa_of (mt_1 (i := 99) rfl) rfl
theorem q1_100 : (Jvm.Cond.fieldLink "LeanTower" (175 : Nat) "LeanTower$Tower" "creptNorth" "I") ∈ WA := wa_of (mt_1 (i := 100) rfl) rfl
theorem q1_101 : (Jvm.Cond.lays "LeanTower$Tower" "LeanTower$Tower" "steps" "I") ∈ WA := wa_of (mt_1 (i := 101) rfl) rfl
theorem q1_102 : (Jvm.Cond.soleField "LeanTower$Tower" "steps") ∈ WA := wa_of (mt_1 (i := 102) rfl) rfl
theorem q1_103 : (Jvm.Cond.lays "LeanTower$Tower" "LeanTower$Tower" "law" "I") ∈ WA := wa_of (mt_1 (i := 103) rfl) rfl
theorem q1_104 : (Jvm.Cond.soleField "LeanTower$Tower" "law") ∈ WA := wa_of (mt_1 (i := 104) rfl) rfl
theorem q1_105 : (Jvm.Cond.lays "LeanTower$Tower" "LeanTower$Tower" "people" "I") ∈ WA := wa_of (mt_1 (i := 105) rfl) rfl
theorem q1_106 : (Jvm.Cond.soleField "LeanTower$Tower" "people") ∈ WA := wa_of (mt_1 (i := 106) rfl) rfl
theorem q1_107 : (Jvm.Cond.lays "LeanTower$Tower" "LeanTower$Tower" "stones" "I") ∈ WA := wa_of (mt_1 (i := 107) rfl) rfl
theorem q1_108 : (Jvm.Cond.soleField "LeanTower$Tower" "stones") ∈ WA := wa_of (mt_1 (i := 108) rfl) rfl
theorem q1_109 : (Jvm.Cond.laysFinal "LeanTower$Tower" "LeanTower$Tower" "persons" "[LLeanTower$Person;") ∈ WA := wa_of (mt_1 (i := 109) rfl) rfl
theorem q1_110 : (Jvm.Cond.soleField "LeanTower$Tower" "persons") ∈ WA := wa_of (mt_1 (i := 110) rfl) rfl
theorem q1_111 : (Jvm.Cond.laysFinal "LeanTower$Tower" "LeanTower$Tower" "step" "[I") ∈ WA := wa_of (mt_1 (i := 111) rfl) rfl
theorem q1_112 : (Jvm.Cond.soleField "LeanTower$Tower" "step") ∈ WA := wa_of (mt_1 (i := 112) rfl) rfl
theorem q1_113 : (Jvm.Cond.laysFinal "LeanTower$Tower" "LeanTower$Tower" "way" "[I") ∈ WA := wa_of (mt_1 (i := 113) rfl) rfl
theorem q1_114 : (Jvm.Cond.soleField "LeanTower$Tower" "way") ∈ WA := wa_of (mt_1 (i := 114) rfl) rfl
theorem q1_115 : (Jvm.Cond.laysFinal "LeanTower$Tower" "LeanTower$Tower" "stoneWeight" "[I") ∈ WA := wa_of (mt_1 (i := 115) rfl) rfl
theorem q1_116 : (Jvm.Cond.soleField "LeanTower$Tower" "stoneWeight") ∈ WA := wa_of (mt_1 (i := 116) rfl) rfl
theorem q1_117 : (Jvm.Cond.laysFinal "LeanTower$Tower" "LeanTower$Tower" "stoneSide" "[I") ∈ WA := wa_of (mt_1 (i := 117) rfl) rfl
theorem q1_118 : (Jvm.Cond.soleField "LeanTower$Tower" "stoneSide") ∈ WA := wa_of (mt_1 (i := 118) rfl) rfl
theorem q1_119 : (Jvm.Cond.lays "LeanTower$Tower" "LeanTower$Tower" "minute" "I") ∈ WA := wa_of (mt_1 (i := 119) rfl) rfl
theorem q1_120 : (Jvm.Cond.soleField "LeanTower$Tower" "minute") ∈ WA := wa_of (mt_1 (i := 120) rfl) rfl
theorem q1_121 : (Jvm.Cond.lays "LeanTower$Tower" "LeanTower$Tower" "creptEast" "I") ∈ WA := wa_of (mt_1 (i := 121) rfl) rfl
theorem q1_122 : (Jvm.Cond.soleField "LeanTower$Tower" "creptEast") ∈ WA := wa_of (mt_1 (i := 122) rfl) rfl
theorem q1_123 : (Jvm.Cond.lays "LeanTower$Tower" "LeanTower$Tower" "creptNorth" "I") ∈ WA := wa_of (mt_1 (i := 123) rfl) rfl
theorem q1_124 : (Jvm.Cond.soleField "LeanTower$Tower" "creptNorth") ∈ WA := wa_of (mt_1 (i := 124) rfl) rfl
theorem q1_125 : (Jvm.Cond.superclass "LeanTower$Tower" "java/lang/Object") ∈ WA := wa_of (mt_1 (i := 125) rfl) rfl
theorem q1_126 : (Jvm.Cond.arrayClass Jvm.ClassFile.FieldType.int) ∈ WA := wa_of (mt_1 (i := 126) rfl) rfl
theorem q1_127 : (Jvm.Cond.arrayOver (Jvm.ClassFile.FieldType.object "LeanTower$Tower")) ∈ lw_tbl := mt_1 (i := 127) rfl
theorem q1_128 : (Jvm.Cond.classLink "LeanTower" (39 : Nat) "LeanTower$Trace") ∈ WA := wa_of (mt_1 (i := 128) rfl) rfl
theorem q1_129 : (Jvm.Cond.instantiable "LeanTower$Trace" (2 : Nat)) ∈ WA := wa_of (mt_1 (i := 129) rfl) rfl
theorem q1_130 : (Jvm.Cond.methodLinkNest "LeanTower" (41 : Nat) ({ cls := "LeanTower$Trace", name := "<init>", desc := "()V" } : Jvm.MethodName) "LeanTower") ∈ lw_tbl := mt_1 (i := 130) rfl
theorem q1_131 : (Jvm.Cond.instanceMethod ({ cls := "LeanTower$Trace", name := "<init>", desc := "()V" } : Jvm.MethodName)) ∈ WA := wa_of (mt_1 (i := 131) rfl) rfl
theorem q1_132 : (Jvm.Cond.code ({ cls := "LeanTower$Trace", name := "<init>", desc := "()V" } : Jvm.MethodName) prog_11_method_1_code (1 : Nat) (Option.none : Option Jvm.ClassFile.FieldType)) ∈ WA := wa_of (mt_1 (i := 132) rfl) rfl
theorem q1_133 : (Jvm.Cond.methodLink "LeanTower$Trace" (1 : Nat) ({ cls := "java/lang/Object", name := "<init>", desc := "()V" } : Jvm.MethodName)) ∈ WA := wa_of (mt_1 (i := 133) rfl) rfl
theorem q1_134 : (Jvm.Cond.fieldLink "LeanTower$Trace" (9 : Nat) "LeanTower$Trace" "numbers" "[I") ∈ WA := wa_of (mt_1 (i := 134) rfl) rfl
theorem q1_135 : (Jvm.Cond.fieldLink "LeanTower" (291 : Nat) "LeanTower$Trace" "numbers" "[I") ∈ WA := wa_of (mt_1 (i := 135) rfl) rfl
theorem q1_136 : (Jvm.Cond.fieldLink "LeanTower$Trace" (13 : Nat) "LeanTower$Trace" "length" "I") ∈ WA := wa_of (mt_1 (i := 136) rfl) rfl
theorem q1_137 : (Jvm.Cond.fieldLink "LeanTower" (283 : Nat) "LeanTower$Trace" "length" "I") ∈ WA := wa_of (mt_1 (i := 137) rfl) rfl
theorem q1_138 : (Jvm.Cond.laysFinal "LeanTower$Trace" "LeanTower$Trace" "numbers" "[I") ∈ WA := wa_of (mt_1 (i := 138) rfl) rfl
theorem q1_139 : (Jvm.Cond.soleField "LeanTower$Trace" "numbers") ∈ WA := wa_of (mt_1 (i := 139) rfl) rfl
theorem q1_140 : (Jvm.Cond.lays "LeanTower$Trace" "LeanTower$Trace" "length" "I") ∈ WA := wa_of (mt_1 (i := 140) rfl) rfl
theorem q1_141 : (Jvm.Cond.soleField "LeanTower$Trace" "length") ∈ WA := wa_of (mt_1 (i := 141) rfl) rfl
theorem q1_142 : (Jvm.Cond.superclass "LeanTower$Trace" "java/lang/Object") ∈ WA := wa_of (mt_1 (i := 142) rfl) rfl
theorem q1_143 : (Jvm.Cond.classLink "LeanTower" (46 : Nat) "LeanTower$Bells") ∈ WA := wa_of (mt_1 (i := 143) rfl) rfl
theorem q1_144 : (Jvm.Cond.instantiable "LeanTower$Bells" (5 : Nat)) ∈ WA := wa_of (mt_1 (i := 144) rfl) rfl
theorem q1_145 : (Jvm.Cond.methodLinkNest "LeanTower" (48 : Nat) ({ cls := "LeanTower$Bells", name := "<init>", desc := "()V" } : Jvm.MethodName) "LeanTower") ∈ lw_tbl := mt_1 (i := 145) rfl
theorem q1_146 : (Jvm.Cond.instanceMethod ({ cls := "LeanTower$Bells", name := "<init>", desc := "()V" } : Jvm.MethodName)) ∈ WA := wa_of (mt_1 (i := 146) rfl) rfl
theorem q1_147 : (Jvm.Cond.code ({ cls := "LeanTower$Bells", name := "<init>", desc := "()V" } : Jvm.MethodName) prog_2_method_1_code (1 : Nat) (Option.none : Option Jvm.ClassFile.FieldType)) ∈ WA := wa_of (mt_1 (i := 147) rfl) rfl
theorem q1_148 : (Jvm.Cond.methodLink "LeanTower$Bells" (3 : Nat) ({ cls := "java/lang/Object", name := "<init>", desc := "()V" } : Jvm.MethodName)) ∈ WA := wa_of (mt_1 (i := 148) rfl) rfl
theorem q1_149 : (Jvm.Cond.fieldLink "LeanTower$Bells" (9 : Nat) "LeanTower$Bells" "nods" "[I") ∈ WA := wa_of (mt_1 (i := 149) rfl) rfl
theorem q1_150 : (Jvm.Cond.fieldLink "LeanTower$Bells" (15 : Nat) "LeanTower$Bells" "order" "[I") ∈ WA := wa_of (mt_1 (i := 150) rfl) rfl
theorem q1_151 : (Jvm.Cond.fieldLink "LeanTower$Bells" (27 : Nat) "LeanTower$Bells" "bells" "I") ∈ WA := wa_of (mt_1 (i := 151) rfl) rfl
theorem q1_152 : (Jvm.Cond.fieldLink "LeanTower$Bells" (18 : Nat) "LeanTower$Bells" "best" "[I") ∈ WA := wa_of (mt_1 (i := 152) rfl) rfl
theorem q1_153 : (Jvm.Cond.fieldLink "LeanTower" (273 : Nat) "LeanTower$Bells" "best" "[I") ∈ WA := wa_of (mt_1 (i := 153) rfl) rfl
theorem q1_154 : (Jvm.Cond.fieldLink "LeanTower$Bells" (31 : Nat) "LeanTower$Bells" "least" "I") ∈ WA := wa_of (mt_1 (i := 154) rfl) rfl
theorem q1_155 : (Jvm.Cond.fieldLink "LeanTower" (270 : Nat) "LeanTower$Bells" "least" "I") ∈ WA := wa_of (mt_1 (i := 155) rfl) rfl
theorem q1_156 : (Jvm.Cond.laysFinal "LeanTower$Bells" "LeanTower$Bells" "nods" "[I") ∈ WA := wa_of (mt_1 (i := 156) rfl) rfl
theorem q1_157 : (Jvm.Cond.soleField "LeanTower$Bells" "nods") ∈ WA := wa_of (mt_1 (i := 157) rfl) rfl
theorem q1_158 : (Jvm.Cond.laysFinal "LeanTower$Bells" "LeanTower$Bells" "order" "[I") ∈ WA := wa_of (mt_1 (i := 158) rfl) rfl
theorem q1_159 : (Jvm.Cond.soleField "LeanTower$Bells" "order") ∈ WA := wa_of (mt_1 (i := 159) rfl) rfl
theorem q1_160 : (Jvm.Cond.lays "LeanTower$Bells" "LeanTower$Bells" "bells" "I") ∈ WA := wa_of (mt_1 (i := 160) rfl) rfl
theorem q1_161 : (Jvm.Cond.soleField "LeanTower$Bells" "bells") ∈ WA := wa_of (mt_1 (i := 161) rfl) rfl
theorem q1_162 : (Jvm.Cond.laysFinal "LeanTower$Bells" "LeanTower$Bells" "best" "[I") ∈ WA := wa_of (mt_1 (i := 162) rfl) rfl
theorem q1_163 : (Jvm.Cond.soleField "LeanTower$Bells" "best") ∈ WA := wa_of (mt_1 (i := 163) rfl) rfl
theorem q1_164 : (Jvm.Cond.lays "LeanTower$Bells" "LeanTower$Bells" "least" "I") ∈ WA := wa_of (mt_1 (i := 164) rfl) rfl
theorem q1_165 : (Jvm.Cond.soleField "LeanTower$Bells" "least") ∈ WA := wa_of (mt_1 (i := 165) rfl) rfl
theorem q1_166 : (Jvm.Cond.superclass "LeanTower$Bells" "java/lang/Object") ∈ WA := wa_of (mt_1 (i := 166) rfl) rfl
theorem q1_167 : (Jvm.Cond.instantiable "LeanTower$Row" (3 : Nat)) ∈ WA := wa_of (mt_1 (i := 167) rfl) rfl
theorem q1_168 : (Jvm.Cond.methodLinkNest "LeanTower" (61 : Nat) ({ cls := "LeanTower$Row", name := "<init>", desc := "()V" } : Jvm.MethodName) "LeanTower") ∈ lw_tbl := mt_1 (i := 168) rfl
theorem q1_169 : (Jvm.Cond.instanceMethod ({ cls := "LeanTower$Row", name := "<init>", desc := "()V" } : Jvm.MethodName)) ∈ WA := wa_of (mt_1 (i := 169) rfl) rfl
theorem q1_170 : (Jvm.Cond.code ({ cls := "LeanTower$Row", name := "<init>", desc := "()V" } : Jvm.MethodName) prog_9_method_1_code (1 : Nat) (Option.none : Option Jvm.ClassFile.FieldType)) ∈ WA := wa_of (mt_1 (i := 170) rfl) rfl
theorem q1_171 : (Jvm.Cond.methodLink "LeanTower$Row" (3 : Nat) ({ cls := "java/lang/Object", name := "<init>", desc := "()V" } : Jvm.MethodName)) ∈ WA := wa_of (mt_1 (i := 171) rfl) rfl
theorem q1_172 : (Jvm.Cond.fieldLink "LeanTower$Row" (9 : Nat) "LeanTower$Row" "items" "[I") ∈ WA := wa_of (mt_1 (i := 172) rfl) rfl
theorem q1_173 : (Jvm.Cond.fieldLink "LeanTower" (86 : Nat) "LeanTower$Row" "items" "[I") ∈ WA := wa_of (mt_1 (i := 173) rfl) rfl
theorem q1_174 : (Jvm.Cond.fieldLink "LeanTower$Row" (15 : Nat) "LeanTower$Row" "lane" "I") ∈ WA := wa_of (mt_1 (i := 174) rfl) rfl
theorem q1_175 : (Jvm.Cond.fieldLink "LeanTower" (92 : Nat) "LeanTower$Row" "lane" "I") ∈ WA := wa_of (mt_1 (i := 175) rfl) rfl
theorem q1_176 : (Jvm.Cond.fieldLink "LeanTower$Row" (19 : Nat) "LeanTower$Row" "length" "I") ∈ WA := wa_of (mt_1 (i := 176) rfl) rfl
theorem q1_177 : (Jvm.Cond.fieldLink "LeanTower" (82 : Nat) "LeanTower$Row" "length" "I") ∈ WA := wa_of (mt_1 (i := 177) rfl) rfl
theorem q1_178 : (Jvm.Cond.laysFinal "LeanTower$Row" "LeanTower$Row" "items" "[I") ∈ WA := wa_of (mt_1 (i := 178) rfl) rfl
theorem q1_179 : (Jvm.Cond.soleField "LeanTower$Row" "items") ∈ WA := wa_of (mt_1 (i := 179) rfl) rfl
theorem q1_180 : (Jvm.Cond.lays "LeanTower$Row" "LeanTower$Row" "lane" "I") ∈ WA := wa_of (mt_1 (i := 180) rfl) rfl
theorem q1_181 : (Jvm.Cond.soleField "LeanTower$Row" "lane") ∈ WA := wa_of (mt_1 (i := 181) rfl) rfl
theorem q1_182 : (Jvm.Cond.lays "LeanTower$Row" "LeanTower$Row" "length" "I") ∈ WA := wa_of (mt_1 (i := 182) rfl) rfl
theorem q1_183 : (Jvm.Cond.soleField "LeanTower$Row" "length") ∈ WA := wa_of (mt_1 (i := 183) rfl) rfl
theorem q1_184 : (Jvm.Cond.superclass "LeanTower$Row" "java/lang/Object") ∈ WA := wa_of (mt_1 (i := 184) rfl) rfl
theorem q1_185 : (Jvm.Cond.arrayClass Jvm.ClassFile.FieldType.boolean) ∈ WA := wa_of (mt_1 (i := 185) rfl) rfl
theorem q1_186 : (Jvm.Cond.fieldLink "LeanTower" (11 : Nat) "LeanTower" "rows" "[LLeanTower$Row;") ∈ WA := wa_of (mt_1 (i := 186) rfl) rfl
theorem q1_187 : (Jvm.Cond.fieldLink "LeanTower" (18 : Nat) "LeanTower" "reader" "LLeanTower$Reader;") ∈ WA := wa_of (mt_1 (i := 187) rfl) rfl
theorem q1_188 : (Jvm.Cond.fieldLink "LeanTower" (25 : Nat) "LeanTower" "now" "LLeanTower$Tower;") ∈ WA := wa_of (mt_1 (i := 188) rfl) rfl
theorem q1_189 : (Jvm.Cond.fieldLink "LeanTower" (29 : Nat) "LeanTower" "trial" "LLeanTower$Tower;") ∈ WA := wa_of (mt_1 (i := 189) rfl) rfl
theorem q1_190 : (Jvm.Cond.fieldLink "LeanTower" (32 : Nat) "LeanTower" "before" "[LLeanTower$Tower;") ∈ WA := wa_of (mt_1 (i := 190) rfl) rfl
theorem q1_191 : (Jvm.Cond.fieldLink "LeanTower" (181 : Nat) "LeanTower" "oldestAct" "I") ∈ WA := wa_of (mt_1 (i := 191) rfl) rfl
theorem q1_192 : (Jvm.Cond.fieldLink "LeanTower" (128 : Nat) "LeanTower" "actCount" "I") ∈ WA := wa_of (mt_1 (i := 192) rfl) rfl
theorem q1_193 : (Jvm.Cond.fieldLink "LeanTower" (36 : Nat) "LeanTower" "images" "[LLeanTower$Tower;") ∈ WA := wa_of (mt_1 (i := 193) rfl) rfl
theorem q1_194 : (Jvm.Cond.fieldLink "LeanTower" (42 : Nat) "LeanTower" "bodies" "LLeanTower$Trace;") ∈ WA := wa_of (mt_1 (i := 194) rfl) rfl
theorem q1_195 : (Jvm.Cond.fieldLink "LeanTower" (49 : Nat) "LeanTower" "belfry" "LLeanTower$Bells;") ∈ WA := wa_of (mt_1 (i := 195) rfl) rfl
theorem q1_196 : (Jvm.Cond.fieldLink "LeanTower" (53 : Nat) "LeanTower" "rescuable" "[Z") ∈ WA := wa_of (mt_1 (i := 196) rfl) rfl
theorem q1_197 : (Jvm.Cond.fieldLink "LeanTower" (57 : Nat) "LeanTower" "reach" "[I") ∈ WA := wa_of (mt_1 (i := 197) rfl) rfl
theorem q1_198 : (Jvm.Cond.fieldLink "LeanTower" (297 : Nat) "LeanTower" "latestFinding" "I") ∈ WA := wa_of (mt_1 (i := 198) rfl) rfl
theorem q1_199 : (Jvm.Cond.laysFinal "LeanTower" "LeanTower" "rows" "[LLeanTower$Row;") ∈ WA := wa_of (mt_1 (i := 199) rfl) rfl
theorem q1_200 : (Jvm.Cond.soleField "LeanTower" "rows") ∈ WA := wa_of (mt_1 (i := 200) rfl) rfl
theorem q1_201 : (Jvm.Cond.laysFinal "LeanTower" "LeanTower" "reader" "LLeanTower$Reader;") ∈ WA := wa_of (mt_1 (i := 201) rfl) rfl
theorem q1_202 : (Jvm.Cond.soleField "LeanTower" "reader") ∈ WA := wa_of (mt_1 (i := 202) rfl) rfl
theorem q1_203 : (Jvm.Cond.laysFinal "LeanTower" "LeanTower" "now" "LLeanTower$Tower;") ∈ WA := wa_of (mt_1 (i := 203) rfl) rfl
theorem q1_204 : (Jvm.Cond.soleField "LeanTower" "now") ∈ WA := wa_of (mt_1 (i := 204) rfl) rfl
theorem q1_205 : (Jvm.Cond.laysFinal "LeanTower" "LeanTower" "trial" "LLeanTower$Tower;") ∈ WA := wa_of (mt_1 (i := 205) rfl) rfl
theorem q1_206 : (Jvm.Cond.soleField "LeanTower" "trial") ∈ WA := wa_of (mt_1 (i := 206) rfl) rfl
theorem q1_207 : (Jvm.Cond.laysFinal "LeanTower" "LeanTower" "before" "[LLeanTower$Tower;") ∈ WA := wa_of (mt_1 (i := 207) rfl) rfl
theorem q1_208 : (Jvm.Cond.soleField "LeanTower" "before") ∈ WA := wa_of (mt_1 (i := 208) rfl) rfl
theorem q1_209 : (Jvm.Cond.lays "LeanTower" "LeanTower" "oldestAct" "I") ∈ WA := wa_of (mt_1 (i := 209) rfl) rfl
theorem q1_210 : (Jvm.Cond.soleField "LeanTower" "oldestAct") ∈ WA := wa_of (mt_1 (i := 210) rfl) rfl
theorem q1_211 : (Jvm.Cond.lays "LeanTower" "LeanTower" "actCount" "I") ∈ WA := wa_of (mt_1 (i := 211) rfl) rfl
theorem q1_212 : (Jvm.Cond.soleField "LeanTower" "actCount") ∈ WA := wa_of (mt_1 (i := 212) rfl) rfl
theorem q1_213 : (Jvm.Cond.laysFinal "LeanTower" "LeanTower" "images" "[LLeanTower$Tower;") ∈ WA := wa_of (mt_1 (i := 213) rfl) rfl
theorem q1_214 : (Jvm.Cond.soleField "LeanTower" "images") ∈ WA := wa_of (mt_1 (i := 214) rfl) rfl
theorem q1_215 : (Jvm.Cond.laysFinal "LeanTower" "LeanTower" "bodies" "LLeanTower$Trace;") ∈ WA := wa_of (mt_1 (i := 215) rfl) rfl
theorem q1_216 : (Jvm.Cond.soleField "LeanTower" "bodies") ∈ WA := wa_of (mt_1 (i := 216) rfl) rfl
theorem q1_217 : (Jvm.Cond.laysFinal "LeanTower" "LeanTower" "belfry" "LLeanTower$Bells;") ∈ WA := wa_of (mt_1 (i := 217) rfl) rfl
theorem q1_218 : (Jvm.Cond.soleField "LeanTower" "belfry") ∈ WA := wa_of (mt_1 (i := 218) rfl) rfl
theorem q1_219 : (Jvm.Cond.laysFinal "LeanTower" "LeanTower" "rescuable" "[Z") ∈ WA := wa_of (mt_1 (i := 219) rfl) rfl
theorem q1_220 : (Jvm.Cond.soleField "LeanTower" "rescuable") ∈ WA := wa_of (mt_1 (i := 220) rfl) rfl
theorem q1_221 : (Jvm.Cond.laysFinal "LeanTower" "LeanTower" "reach" "[I") ∈ WA := wa_of (mt_1 (i := 221) rfl) rfl
theorem q1_222 : (Jvm.Cond.soleField "LeanTower" "reach") ∈ WA := wa_of (mt_1 (i := 222) rfl) rfl
theorem q1_223 : (Jvm.Cond.lays "LeanTower" "LeanTower" "latestFinding" "I") ∈ WA := wa_of (mt_1 (i := 223) rfl) rfl
theorem q1_224 : (Jvm.Cond.soleField "LeanTower" "latestFinding") ∈ WA := wa_of (mt_1 (i := 224) rfl) rfl
theorem q1_225 : (Jvm.Cond.superclass "LeanTower" "java/lang/Object") ∈ WA := wa_of (mt_1 (i := 225) rfl) rfl
theorem q1_226 : (Jvm.Cond.methodLink "LeanTowerLaw" (13 : Nat) ({ cls := "LeanTower", name := "row", desc := "(III)I" } : Jvm.MethodName)) ∈ WA := wa_of (mt_1 (i := 226) rfl) rfl
theorem q1_227 : (Jvm.Cond.instanceMethod ({ cls := "LeanTower", name := "row", desc := "(III)I" } : Jvm.MethodName)) ∈ WA := wa_of (mt_1 (i := 227) rfl) rfl
theorem q1_228 : (Jvm.Cond.selects "LeanTower" ({ cls := "LeanTower", name := "row", desc := "(III)I" } : Jvm.MethodName) ({ cls := "LeanTower", name := "row", desc := "(III)I" } : Jvm.MethodName)) ∈ WA := wa_of (mt_1 (i := 228) rfl) rfl
theorem q1_229 : (Jvm.Cond.code ({ cls := "LeanTower", name := "row", desc := "(III)I" } : Jvm.MethodName) prog_1_method_2_code (5 : Nat) (Option.some Jvm.ClassFile.FieldType.int)) ∈ WA := wa_of (mt_1 (i := 229) rfl) rfl
theorem q1_230 : (Jvm.Cond.methodLink "LeanTower" (62 : Nat) ({ cls := "LeanTower", name := "rowAt", desc := "(I)LLeanTower$Row;" } : Jvm.MethodName)) ∈ WA := wa_of (mt_1 (i := 230) rfl) rfl
theorem q1_231 : (Jvm.Cond.privateMethod ({ cls := "LeanTower", name := "rowAt", desc := "(I)LLeanTower$Row;" } : Jvm.MethodName)) ∈ lw_tbl := mt_1 (i := 231) rfl
theorem q1_232 : (Jvm.Cond.instanceMethod ({ cls := "LeanTower", name := "rowAt", desc := "(I)LLeanTower$Row;" } : Jvm.MethodName)) ∈ WA := wa_of (mt_1 (i := 232) rfl) rfl
theorem q1_233 : (Jvm.Cond.code ({ cls := "LeanTower", name := "rowAt", desc := "(I)LLeanTower$Row;" } : Jvm.MethodName) prog_1_method_32_code (2 : Nat) (Option.some (Jvm.ClassFile.FieldType.object "LeanTower$Row"))) ∈ WA := wa_of (mt_1 (i := 233) rfl) rfl
theorem q1_234 : (Jvm.Cond.constant "LeanTower" (66 : Nat) (-1000001 : Int32)) ∈ WA := wa_of (mt_1 (i := 234) rfl) rfl
theorem q1_235 : (Jvm.Cond.methodLink "LeanTower" (67 : Nat) ({ cls := "LeanTower", name := "found", desc := "(I)I" } : Jvm.MethodName)) ∈ WA := wa_of (mt_1 (i := 235) rfl) rfl
theorem q1_236 : (Jvm.Cond.privateMethod ({ cls := "LeanTower", name := "found", desc := "(I)I" } : Jvm.MethodName)) ∈ lw_tbl := mt_1 (i := 236) rfl
theorem q1_237 : (Jvm.Cond.instanceMethod ({ cls := "LeanTower", name := "found", desc := "(I)I" } : Jvm.MethodName)) ∈ WA := wa_of (mt_1 (i := 237) rfl) rfl
theorem q1_238 : (Jvm.Cond.code ({ cls := "LeanTower", name := "found", desc := "(I)I" } : Jvm.MethodName) prog_1_method_34_code (2 : Nat) (Option.some Jvm.ClassFile.FieldType.int)) ∈ WA := wa_of (mt_1 (i := 238) rfl) rfl
theorem q1_239 : (Jvm.Cond.constant "LeanTower" (300 : Nat) (-1000010 : Int32)) ∈ WA := wa_of (mt_1 (i := 239) rfl) rfl
theorem q2_0 : (Jvm.Cond.methodLink "LeanTower" (71 : Nat) ({ cls := "LeanTower$Row", name := "begin", desc := "(II)V" } : Jvm.MethodName)) ∈ WA := wa_of (mt_2 (i := 0) rfl) rfl
theorem q2_1 : (Jvm.Cond.instanceMethod ({ cls := "LeanTower$Row", name := "begin", desc := "(II)V" } : Jvm.MethodName)) ∈ WA := wa_of (mt_2 (i := 1) rfl) rfl
theorem q2_2 : (Jvm.Cond.selects "LeanTower$Row" ({ cls := "LeanTower$Row", name := "begin", desc := "(II)V" } : Jvm.MethodName) ({ cls := "LeanTower$Row", name := "begin", desc := "(II)V" } : Jvm.MethodName)) ∈ WA := wa_of (mt_2 (i := 2) rfl) rfl
theorem q2_3 : (Jvm.Cond.code ({ cls := "LeanTower$Row", name := "begin", desc := "(II)V" } : Jvm.MethodName) prog_9_method_3_code (4 : Nat) (Option.none : Option Jvm.ClassFile.FieldType)) ∈ WA := wa_of (mt_2 (i := 3) rfl) rfl
theorem q2_4 : (Jvm.Cond.methodLink "LeanTower" (75 : Nat) ({ cls := "LeanTower", name := "clean", desc := "(I)I" } : Jvm.MethodName)) ∈ WA := wa_of (mt_2 (i := 4) rfl) rfl
theorem q2_5 : (Jvm.Cond.privateMethod ({ cls := "LeanTower", name := "clean", desc := "(I)I" } : Jvm.MethodName)) ∈ lw_tbl := mt_2 (i := 5) rfl
theorem q2_6 : (Jvm.Cond.instanceMethod ({ cls := "LeanTower", name := "clean", desc := "(I)I" } : Jvm.MethodName)) ∈ WA := wa_of (mt_2 (i := 6) rfl) rfl
theorem q2_7 : (Jvm.Cond.code ({ cls := "LeanTower", name := "clean", desc := "(I)I" } : Jvm.MethodName) prog_1_method_35_code (2 : Nat) (Option.some Jvm.ClassFile.FieldType.int)) ∈ WA := wa_of (mt_2 (i := 7) rfl) rfl
theorem q2_8 : (Jvm.Cond.methodLink "LeanTowerLaw" (18 : Nat) ({ cls := "LeanTower", name := "set", desc := "(III)I" } : Jvm.MethodName)) ∈ WA := wa_of (mt_2 (i := 8) rfl) rfl
theorem q2_9 : (Jvm.Cond.instanceMethod ({ cls := "LeanTower", name := "set", desc := "(III)I" } : Jvm.MethodName)) ∈ WA := wa_of (mt_2 (i := 9) rfl) rfl
theorem q2_10 : (Jvm.Cond.selects "LeanTower" ({ cls := "LeanTower", name := "set", desc := "(III)I" } : Jvm.MethodName) ({ cls := "LeanTower", name := "set", desc := "(III)I" } : Jvm.MethodName)) ∈ WA := wa_of (mt_2 (i := 10) rfl) rfl
theorem q2_11 : (Jvm.Cond.code ({ cls := "LeanTower", name := "set", desc := "(III)I" } : Jvm.MethodName) prog_1_method_3_code (5 : Nat) (Option.some Jvm.ClassFile.FieldType.int)) ∈ WA := wa_of (mt_2 (i := 11) rfl) rfl
theorem q2_12 : (Jvm.Cond.methodLink "LeanTower" (78 : Nat) ({ cls := "LeanTower$Row", name := "isMissing", desc := "()Z" } : Jvm.MethodName)) ∈ WA := wa_of (mt_2 (i := 12) rfl) rfl
theorem q2_13 : (Jvm.Cond.instanceMethod ({ cls := "LeanTower$Row", name := "isMissing", desc := "()Z" } : Jvm.MethodName)) ∈ WA := wa_of (mt_2 (i := 13) rfl) rfl
theorem q2_14 : (Jvm.Cond.selects "LeanTower$Row" ({ cls := "LeanTower$Row", name := "isMissing", desc := "()Z" } : Jvm.MethodName) ({ cls := "LeanTower$Row", name := "isMissing", desc := "()Z" } : Jvm.MethodName)) ∈ WA := wa_of (mt_2 (i := 14) rfl) rfl
theorem q2_15 : (Jvm.Cond.code ({ cls := "LeanTower$Row", name := "isMissing", desc := "()Z" } : Jvm.MethodName) prog_9_method_2_code (1 : Nat) (Option.some Jvm.ClassFile.FieldType.boolean)) ∈ WA := wa_of (mt_2 (i := 15) rfl) rfl
theorem q2_16 : (Jvm.Cond.methodLink "LeanTower" (89 : Nat) ({ cls := "LeanTower$Row", name := "narrowed", desc := "(I)I" } : Jvm.MethodName)) ∈ WA := wa_of (mt_2 (i := 16) rfl) rfl
theorem q2_17 : (Jvm.Cond.instanceMethod ({ cls := "LeanTower$Row", name := "narrowed", desc := "(I)I" } : Jvm.MethodName)) ∈ WA := wa_of (mt_2 (i := 17) rfl) rfl
theorem q2_18 : (Jvm.Cond.selects "LeanTower$Row" ({ cls := "LeanTower$Row", name := "narrowed", desc := "(I)I" } : Jvm.MethodName) ({ cls := "LeanTower$Row", name := "narrowed", desc := "(I)I" } : Jvm.MethodName)) ∈ WA := wa_of (mt_2 (i := 18) rfl) rfl
theorem q2_19 : (Jvm.Cond.code ({ cls := "LeanTower$Row", name := "narrowed", desc := "(I)I" } : Jvm.MethodName) prog_9_method_5_code (2 : Nat) (Option.some Jvm.ClassFile.FieldType.int)) ∈ WA := wa_of (mt_2 (i := 19) rfl) rfl
theorem q2_20 : (Jvm.Cond.methodLink "LeanTowerLaw" (22 : Nat) ({ cls := "LeanTower", name := "copy", desc := "(IIIII)I" } : Jvm.MethodName)) ∈ WA := wa_of (mt_2 (i := 20) rfl) rfl
theorem q2_21 : (Jvm.Cond.instanceMethod ({ cls := "LeanTower", name := "copy", desc := "(IIIII)I" } : Jvm.MethodName)) ∈ WA := wa_of (mt_2 (i := 21) rfl) rfl
theorem q2_22 : (Jvm.Cond.selects "LeanTower" ({ cls := "LeanTower", name := "copy", desc := "(IIIII)I" } : Jvm.MethodName) ({ cls := "LeanTower", name := "copy", desc := "(IIIII)I" } : Jvm.MethodName)) ∈ WA := wa_of (mt_2 (i := 22) rfl) rfl
theorem q2_23 : (Jvm.Cond.code ({ cls := "LeanTower", name := "copy", desc := "(IIIII)I" } : Jvm.MethodName) prog_1_method_4_code (8 : Nat) (Option.some Jvm.ClassFile.FieldType.int)) ∈ WA := wa_of (mt_2 (i := 23) rfl) rfl
theorem q2_24 : (Jvm.Cond.methodLink "LeanTower" (95 : Nat) ({ cls := "LeanTower$Row", name := "reaches", desc := "(II)Z" } : Jvm.MethodName)) ∈ WA := wa_of (mt_2 (i := 24) rfl) rfl
theorem q2_25 : (Jvm.Cond.instanceMethod ({ cls := "LeanTower$Row", name := "reaches", desc := "(II)Z" } : Jvm.MethodName)) ∈ WA := wa_of (mt_2 (i := 25) rfl) rfl
theorem q2_26 : (Jvm.Cond.selects "LeanTower$Row" ({ cls := "LeanTower$Row", name := "reaches", desc := "(II)Z" } : Jvm.MethodName) ({ cls := "LeanTower$Row", name := "reaches", desc := "(II)Z" } : Jvm.MethodName)) ∈ WA := wa_of (mt_2 (i := 26) rfl) rfl
theorem q2_27 : (Jvm.Cond.code ({ cls := "LeanTower$Row", name := "reaches", desc := "(II)Z" } : Jvm.MethodName) prog_9_method_6_code (3 : Nat) (Option.some Jvm.ClassFile.FieldType.boolean)) ∈ WA := wa_of (mt_2 (i := 27) rfl) rfl
theorem q2_28 : (Jvm.Cond.methodLink "LeanTower" (99 : Nat) ({ cls := "java/lang/System", name := "arraycopy", desc := "(Ljava/lang/Object;ILjava/lang/Object;II)V" } : Jvm.MethodName)) ∈ WA := wa_of (mt_2 (i := 28) rfl) rfl
theorem q2_29 : (Jvm.Cond.static ({ cls := "java/lang/System", name := "arraycopy", desc := "(Ljava/lang/Object;ILjava/lang/Object;II)V" } : Jvm.MethodName)) ∈ WA := wa_of (mt_2 (i := 29) rfl) rfl
theorem q2_30 : (Jvm.Cond.native ({ cls := "java/lang/System", name := "arraycopy", desc := "(Ljava/lang/Object;ILjava/lang/Object;II)V" } : Jvm.MethodName)) ∈ WA := wa_of (mt_2 (i := 30) rfl) rfl
theorem q2_31 : (Jvm.Cond.methodLink "LeanTowerLaw" (27 : Nat) ({ cls := "LeanTower", name := "drop", desc := "(I)I" } : Jvm.MethodName)) ∈ WA := wa_of (mt_2 (i := 31) rfl) rfl
theorem q2_32 : (Jvm.Cond.instanceMethod ({ cls := "LeanTower", name := "drop", desc := "(I)I" } : Jvm.MethodName)) ∈ WA := wa_of (mt_2 (i := 32) rfl) rfl
theorem q2_33 : (Jvm.Cond.selects "LeanTower" ({ cls := "LeanTower", name := "drop", desc := "(I)I" } : Jvm.MethodName) ({ cls := "LeanTower", name := "drop", desc := "(I)I" } : Jvm.MethodName)) ∈ WA := wa_of (mt_2 (i := 33) rfl) rfl
theorem q2_34 : (Jvm.Cond.code ({ cls := "LeanTower", name := "drop", desc := "(I)I" } : Jvm.MethodName) prog_1_method_5_code (4 : Nat) (Option.some Jvm.ClassFile.FieldType.int)) ∈ WA := wa_of (mt_2 (i := 34) rfl) rfl
theorem q2_35 : (Jvm.Cond.methodLink "LeanTower" (105 : Nat) ({ cls := "LeanTower$Row", name := "end", desc := "()V" } : Jvm.MethodName)) ∈ WA := wa_of (mt_2 (i := 35) rfl) rfl
theorem q2_36 : (Jvm.Cond.instanceMethod ({ cls := "LeanTower$Row", name := "end", desc := "()V" } : Jvm.MethodName)) ∈ WA := wa_of (mt_2 (i := 36) rfl) rfl
theorem q2_37 : (Jvm.Cond.selects "LeanTower$Row" ({ cls := "LeanTower$Row", name := "end", desc := "()V" } : Jvm.MethodName) ({ cls := "LeanTower$Row", name := "end", desc := "()V" } : Jvm.MethodName)) ∈ WA := wa_of (mt_2 (i := 37) rfl) rfl
theorem q2_38 : (Jvm.Cond.code ({ cls := "LeanTower$Row", name := "end", desc := "()V" } : Jvm.MethodName) prog_9_method_4_code (1 : Nat) (Option.none : Option Jvm.ClassFile.FieldType)) ∈ WA := wa_of (mt_2 (i := 38) rfl) rfl
theorem q2_39 : (Jvm.Cond.methodLink "LeanTowerLaw" (34 : Nat) ({ cls := "LeanTower", name := "feed", desc := "(JI)I" } : Jvm.MethodName)) ∈ WA := wa_of (mt_2 (i := 39) rfl) rfl
theorem q2_40 : (Jvm.Cond.instanceMethod ({ cls := "LeanTower", name := "feed", desc := "(JI)I" } : Jvm.MethodName)) ∈ WA := wa_of (mt_2 (i := 40) rfl) rfl
theorem q2_41 : (Jvm.Cond.selects "LeanTower" ({ cls := "LeanTower", name := "feed", desc := "(JI)I" } : Jvm.MethodName) ({ cls := "LeanTower", name := "feed", desc := "(JI)I" } : Jvm.MethodName)) ∈ WA := wa_of (mt_2 (i := 41) rfl) rfl
theorem q2_42 : (Jvm.Cond.code ({ cls := "LeanTower", name := "feed", desc := "(JI)I" } : Jvm.MethodName) prog_1_method_6_code (5 : Nat) (Option.some Jvm.ClassFile.FieldType.int)) ∈ WA := wa_of (mt_2 (i := 42) rfl) rfl
theorem q2_43 : (Jvm.Cond.constant "LeanTower" (111 : Nat) (-1000003 : Int32)) ∈ WA := wa_of (mt_2 (i := 43) rfl) rfl
theorem q2_44 : (Jvm.Cond.methodLink "LeanTower" (112 : Nat) ({ cls := "LeanTower$Reader", name := "append", desc := "(B)V" } : Jvm.MethodName)) ∈ WA := wa_of (mt_2 (i := 44) rfl) rfl
theorem q2_45 : (Jvm.Cond.instanceMethod ({ cls := "LeanTower$Reader", name := "append", desc := "(B)V" } : Jvm.MethodName)) ∈ WA := wa_of (mt_2 (i := 45) rfl) rfl
theorem q2_46 : (Jvm.Cond.selects "LeanTower$Reader" ({ cls := "LeanTower$Reader", name := "append", desc := "(B)V" } : Jvm.MethodName) ({ cls := "LeanTower$Reader", name := "append", desc := "(B)V" } : Jvm.MethodName)) ∈ WA := wa_of (mt_2 (i := 46) rfl) rfl
theorem q2_47 : (Jvm.Cond.code ({ cls := "LeanTower$Reader", name := "append", desc := "(B)V" } : Jvm.MethodName) prog_8_method_2_code (2 : Nat) (Option.none : Option Jvm.ClassFile.FieldType)) ∈ WA := wa_of (mt_2 (i := 47) rfl) rfl
theorem q2_48 : (Jvm.Cond.methodLink "LeanTowerLaw" (39 : Nat) ({ cls := "LeanTower", name := "tower", desc := "()I" } : Jvm.MethodName)) ∈ WA := wa_of (mt_2 (i := 48) rfl) rfl
theorem q2_49 : (Jvm.Cond.instanceMethod ({ cls := "LeanTower", name := "tower", desc := "()I" } : Jvm.MethodName)) ∈ WA := wa_of (mt_2 (i := 49) rfl) rfl
theorem q2_50 : (Jvm.Cond.selects "LeanTower" ({ cls := "LeanTower", name := "tower", desc := "()I" } : Jvm.MethodName) ({ cls := "LeanTower", name := "tower", desc := "()I" } : Jvm.MethodName)) ∈ WA := wa_of (mt_2 (i := 50) rfl) rfl
theorem q2_51 : (Jvm.Cond.code ({ cls := "LeanTower", name := "tower", desc := "()I" } : Jvm.MethodName) prog_1_method_7_code (1 : Nat) (Option.some Jvm.ClassFile.FieldType.int)) ∈ WA := wa_of (mt_2 (i := 51) rfl) rfl
theorem q2_52 : (Jvm.Cond.methodLink "LeanTower" (116 : Nat) ({ cls := "LeanTower$Reader", name := "readInto", desc := "(LLeanTower$Tower;)Z" } : Jvm.MethodName)) ∈ WA := wa_of (mt_2 (i := 52) rfl) rfl
theorem q2_53 : (Jvm.Cond.instanceMethod ({ cls := "LeanTower$Reader", name := "readInto", desc := "(LLeanTower$Tower;)Z" } : Jvm.MethodName)) ∈ WA := wa_of (mt_2 (i := 53) rfl) rfl
theorem q2_54 : (Jvm.Cond.selects "LeanTower$Reader" ({ cls := "LeanTower$Reader", name := "readInto", desc := "(LLeanTower$Tower;)Z" } : Jvm.MethodName) ({ cls := "LeanTower$Reader", name := "readInto", desc := "(LLeanTower$Tower;)Z" } : Jvm.MethodName)) ∈ WA := wa_of (mt_2 (i := 54) rfl) rfl
theorem q2_55 : (Jvm.Cond.code ({ cls := "LeanTower$Reader", name := "readInto", desc := "(LLeanTower$Tower;)Z" } : Jvm.MethodName) prog_8_method_3_code (4 : Nat) (Option.some Jvm.ClassFile.FieldType.boolean)) ∈ WA := wa_of (mt_2 (i := 55) rfl) rfl
theorem q2_56 : (Jvm.Cond.methodLink "LeanTower$Reader" (19 : Nat) ({ cls := "LeanTower$Tower", name := "clear", desc := "()V" } : Jvm.MethodName)) ∈ WA := wa_of (mt_2 (i := 56) rfl) rfl
theorem q2_57 : (Jvm.Cond.instanceMethod ({ cls := "LeanTower$Tower", name := "clear", desc := "()V" } : Jvm.MethodName)) ∈ WA := wa_of (mt_2 (i := 57) rfl) rfl
theorem q2_58 : (Jvm.Cond.selects "LeanTower$Tower" ({ cls := "LeanTower$Tower", name := "clear", desc := "()V" } : Jvm.MethodName) ({ cls := "LeanTower$Tower", name := "clear", desc := "()V" } : Jvm.MethodName)) ∈ WA := wa_of (mt_2 (i := 58) rfl) rfl
theorem q2_59 : (Jvm.Cond.code ({ cls := "LeanTower$Tower", name := "clear", desc := "()V" } : Jvm.MethodName) prog_10_method_3_code (1 : Nat) (Option.none : Option Jvm.ClassFile.FieldType)) ∈ WA := wa_of (mt_2 (i := 59) rfl) rfl
theorem q2_60 : (Jvm.Cond.methodLink "LeanTower$Reader" (27 : Nat) ({ cls := "LeanTower$Reader", name := "next", desc := "()V" } : Jvm.MethodName)) ∈ WA := wa_of (mt_2 (i := 60) rfl) rfl
theorem q2_61 : (Jvm.Cond.privateMethod ({ cls := "LeanTower$Reader", name := "next", desc := "()V" } : Jvm.MethodName)) ∈ lw_tbl := mt_2 (i := 61) rfl
theorem q2_62 : (Jvm.Cond.instanceMethod ({ cls := "LeanTower$Reader", name := "next", desc := "()V" } : Jvm.MethodName)) ∈ WA := wa_of (mt_2 (i := 62) rfl) rfl
theorem q2_63 : (Jvm.Cond.code ({ cls := "LeanTower$Reader", name := "next", desc := "()V" } : Jvm.MethodName) prog_8_method_13_code (1 : Nat) (Option.none : Option Jvm.ClassFile.FieldType)) ∈ WA := wa_of (mt_2 (i := 63) rfl) rfl
theorem q2_64 : (Jvm.Cond.methodLink "LeanTower$Reader" (140 : Nat) ({ cls := "LeanTower$Reader", name := "isBlank", desc := "(B)Z" } : Jvm.MethodName)) ∈ WA := wa_of (mt_2 (i := 64) rfl) rfl
theorem q2_65 : (Jvm.Cond.static ({ cls := "LeanTower$Reader", name := "isBlank", desc := "(B)Z" } : Jvm.MethodName)) ∈ WA := wa_of (mt_2 (i := 65) rfl) rfl
theorem q2_66 : (Jvm.Cond.code ({ cls := "LeanTower$Reader", name := "isBlank", desc := "(B)Z" } : Jvm.MethodName) prog_8_method_16_code (1 : Nat) (Option.some Jvm.ClassFile.FieldType.boolean)) ∈ WA := wa_of (mt_2 (i := 66) rfl) rfl
theorem q2_67 : (Jvm.Cond.methodLink "LeanTower$Reader" (144 : Nat) ({ cls := "LeanTower$Reader", name := "isLetter", desc := "(B)Z" } : Jvm.MethodName)) ∈ WA := wa_of (mt_2 (i := 67) rfl) rfl
theorem q2_68 : (Jvm.Cond.static ({ cls := "LeanTower$Reader", name := "isLetter", desc := "(B)Z" } : Jvm.MethodName)) ∈ WA := wa_of (mt_2 (i := 68) rfl) rfl
theorem q2_69 : (Jvm.Cond.code ({ cls := "LeanTower$Reader", name := "isLetter", desc := "(B)Z" } : Jvm.MethodName) prog_8_method_17_code (1 : Nat) (Option.some Jvm.ClassFile.FieldType.boolean)) ∈ WA := wa_of (mt_2 (i := 69) rfl) rfl
theorem q2_70 : (Jvm.Cond.methodLink "LeanTower$Reader" (147 : Nat) ({ cls := "LeanTower$Reader", name := "passLetters", desc := "()V" } : Jvm.MethodName)) ∈ WA := wa_of (mt_2 (i := 70) rfl) rfl
theorem q2_71 : (Jvm.Cond.privateMethod ({ cls := "LeanTower$Reader", name := "passLetters", desc := "()V" } : Jvm.MethodName)) ∈ lw_tbl := mt_2 (i := 71) rfl
theorem q2_72 : (Jvm.Cond.instanceMethod ({ cls := "LeanTower$Reader", name := "passLetters", desc := "()V" } : Jvm.MethodName)) ∈ WA := wa_of (mt_2 (i := 72) rfl) rfl
theorem q2_73 : (Jvm.Cond.code ({ cls := "LeanTower$Reader", name := "passLetters", desc := "()V" } : Jvm.MethodName) prog_8_method_14_code (1 : Nat) (Option.none : Option Jvm.ClassFile.FieldType)) ∈ WA := wa_of (mt_2 (i := 73) rfl) rfl
theorem q2_74 : (Jvm.Cond.methodLink "LeanTower$Reader" (150 : Nat) ({ cls := "LeanTower$Reader", name := "isFigure", desc := "(B)Z" } : Jvm.MethodName)) ∈ WA := wa_of (mt_2 (i := 74) rfl) rfl
theorem q2_75 : (Jvm.Cond.static ({ cls := "LeanTower$Reader", name := "isFigure", desc := "(B)Z" } : Jvm.MethodName)) ∈ WA := wa_of (mt_2 (i := 75) rfl) rfl
theorem q2_76 : (Jvm.Cond.code ({ cls := "LeanTower$Reader", name := "isFigure", desc := "(B)Z" } : Jvm.MethodName) prog_8_method_18_code (1 : Nat) (Option.some Jvm.ClassFile.FieldType.boolean)) ∈ WA := wa_of (mt_2 (i := 76) rfl) rfl
theorem q2_77 : (Jvm.Cond.methodLink "LeanTower$Reader" (153 : Nat) ({ cls := "LeanTower$Reader", name := "passFigures", desc := "()V" } : Jvm.MethodName)) ∈ WA := wa_of (mt_2 (i := 77) rfl) rfl
theorem q2_78 : (Jvm.Cond.privateMethod ({ cls := "LeanTower$Reader", name := "passFigures", desc := "()V" } : Jvm.MethodName)) ∈ lw_tbl := mt_2 (i := 78) rfl
theorem q2_79 : (Jvm.Cond.instanceMethod ({ cls := "LeanTower$Reader", name := "passFigures", desc := "()V" } : Jvm.MethodName)) ∈ WA := wa_of (mt_2 (i := 79) rfl) rfl
theorem q2_80 : (Jvm.Cond.code ({ cls := "LeanTower$Reader", name := "passFigures", desc := "()V" } : Jvm.MethodName) prog_8_method_15_code (1 : Nat) (Option.none : Option Jvm.ClassFile.FieldType)) ∈ WA := wa_of (mt_2 (i := 80) rfl) rfl
theorem q2_81 : (Jvm.Cond.methodLink "LeanTower$Reader" (30 : Nat) ({ cls := "LeanTower$Reader", name := "readLaw", desc := "(LLeanTower$Tower;)Z" } : Jvm.MethodName)) ∈ WA := wa_of (mt_2 (i := 81) rfl) rfl
theorem q2_82 : (Jvm.Cond.privateMethod ({ cls := "LeanTower$Reader", name := "readLaw", desc := "(LLeanTower$Tower;)Z" } : Jvm.MethodName)) ∈ lw_tbl := mt_2 (i := 82) rfl
theorem q2_83 : (Jvm.Cond.instanceMethod ({ cls := "LeanTower$Reader", name := "readLaw", desc := "(LLeanTower$Tower;)Z" } : Jvm.MethodName)) ∈ WA := wa_of (mt_2 (i := 83) rfl) rfl
theorem q2_84 : (Jvm.Cond.code ({ cls := "LeanTower$Reader", name := "readLaw", desc := "(LLeanTower$Tower;)Z" } : Jvm.MethodName) prog_8_method_4_code (2 : Nat) (Option.some Jvm.ClassFile.FieldType.boolean)) ∈ WA := wa_of (mt_2 (i := 84) rfl) rfl
theorem q2_85 : (Jvm.Cond.stringRef "LeanTower$Reader" (55 : Nat) "law") ∈ lw_tbl := mt_2 (i := 85) rfl
theorem q2_86 : (Jvm.Cond.methodLink "LeanTower$Reader" (36 : Nat) ({ cls := "LeanTower$Reader", name := "isWord", desc := "(Ljava/lang/String;)Z" } : Jvm.MethodName)) ∈ WA := wa_of (mt_2 (i := 86) rfl) rfl
theorem q2_87 : (Jvm.Cond.privateMethod ({ cls := "LeanTower$Reader", name := "isWord", desc := "(Ljava/lang/String;)Z" } : Jvm.MethodName)) ∈ lw_tbl := mt_2 (i := 87) rfl
theorem q2_88 : (Jvm.Cond.instanceMethod ({ cls := "LeanTower$Reader", name := "isWord", desc := "(Ljava/lang/String;)Z" } : Jvm.MethodName)) ∈ WA := wa_of (mt_2 (i := 88) rfl) rfl
theorem q2_89 : (Jvm.Cond.code ({ cls := "LeanTower$Reader", name := "isWord", desc := "(Ljava/lang/String;)Z" } : Jvm.MethodName) prog_8_method_12_code (3 : Nat) (Option.some Jvm.ClassFile.FieldType.boolean)) ∈ WA := wa_of (mt_2 (i := 89) rfl) rfl
theorem q2_90 : (Jvm.Cond.methodLink "LeanTower$Reader" (131 : Nat) ({ cls := "java/lang/String", name := "length", desc := "()I" } : Jvm.MethodName)) ∈ WA := wa_of (mt_2 (i := 90) rfl) rfl
theorem q2_91 : (Jvm.Cond.instanceMethod ({ cls := "java/lang/String", name := "length", desc := "()I" } : Jvm.MethodName)) ∈ WA := wa_of (mt_2 (i := 91) rfl) rfl
theorem q2_92 : (Jvm.Cond.selects "java/lang/String" ({ cls := "java/lang/String", name := "length", desc := "()I" } : Jvm.MethodName) ({ cls := "java/lang/String", name := "length", desc := "()I" } : Jvm.MethodName)) ∈ WA := wa_of (mt_2 (i := 92) rfl) rfl
theorem q2_93 : (Jvm.Cond.code ({ cls := "java/lang/String", name := "length", desc := "()I" } : Jvm.MethodName) prog_17_method_54_code (1 : Nat) (Option.some Jvm.ClassFile.FieldType.int)) ∈ WA := wa_of (mt_2 (i := 93) rfl) rfl
theorem q2_94 : (Jvm.Cond.methodLink "java/lang/String" (335 : Nat) ({ cls := "java/lang/String", name := "coder", desc := "()B" } : Jvm.MethodName)) ∈ WA := wa_of (mt_2 (i := 94) rfl) rfl
theorem q2_95 : (Jvm.Cond.instanceMethod ({ cls := "java/lang/String", name := "coder", desc := "()B" } : Jvm.MethodName)) ∈ WA := wa_of (mt_2 (i := 95) rfl) rfl
theorem q2_96 : (Jvm.Cond.selects "java/lang/String" ({ cls := "java/lang/String", name := "coder", desc := "()B" } : Jvm.MethodName) ({ cls := "java/lang/String", name := "coder", desc := "()B" } : Jvm.MethodName)) ∈ WA := wa_of (mt_2 (i := 96) rfl) rfl
theorem q2_97 : (Jvm.Cond.code ({ cls := "java/lang/String", name := "coder", desc := "()B" } : Jvm.MethodName) prog_17_method_152_code (1 : Nat) (Option.some Jvm.ClassFile.FieldType.byte)) ∈ WA := wa_of (mt_2 (i := 97) rfl) rfl
theorem q2_98 : (Jvm.Cond.fieldLink "java/lang/String" (38 : Nat) "java/lang/String" "COMPACT_STRINGS" "Z") ∈ WA := wa_of (mt_2 (i := 98) rfl) rfl
theorem q2_99 : (Jvm.Cond.laysStatic "java/lang/String" "COMPACT_STRINGS" "Z") ∈ lw_tbl := mt_2 (i := 99) rfl
theorem q2_100 : (Jvm.Cond.methodLink "LeanTower$Reader" (136 : Nat) ({ cls := "java/lang/String", name := "charAt", desc := "(I)C" } : Jvm.MethodName)) ∈ WA := wa_of (mt_2 (i := 100) rfl) rfl
theorem q2_101 : (Jvm.Cond.instanceMethod ({ cls := "java/lang/String", name := "charAt", desc := "(I)C" } : Jvm.MethodName)) ∈ WA := wa_of (mt_2 (i := 101) rfl) rfl
theorem q2_102 : (Jvm.Cond.selects "java/lang/String" ({ cls := "java/lang/String", name := "charAt", desc := "(I)C" } : Jvm.MethodName) ({ cls := "java/lang/String", name := "charAt", desc := "(I)C" } : Jvm.MethodName)) ∈ WA := wa_of (mt_2 (i := 102) rfl) rfl
theorem q2_103 : (Jvm.Cond.code ({ cls := "java/lang/String", name := "charAt", desc := "(I)C" } : Jvm.MethodName) prog_17_method_56_code (2 : Nat) (Option.some Jvm.ClassFile.FieldType.char)) ∈ WA := wa_of (mt_2 (i := 103) rfl) rfl
theorem q2_104 : (Jvm.Cond.methodLink "java/lang/String" (492 : Nat) ({ cls := "java/lang/String", name := "isLatin1", desc := "()Z" } : Jvm.MethodName)) ∈ WA := wa_of (mt_2 (i := 104) rfl) rfl
theorem q2_105 : (Jvm.Cond.instanceMethod ({ cls := "java/lang/String", name := "isLatin1", desc := "()Z" } : Jvm.MethodName)) ∈ WA := wa_of (mt_2 (i := 105) rfl) rfl
theorem q2_106 : (Jvm.Cond.selects "java/lang/String" ({ cls := "java/lang/String", name := "isLatin1", desc := "()Z" } : Jvm.MethodName) ({ cls := "java/lang/String", name := "isLatin1", desc := "()Z" } : Jvm.MethodName)) ∈ WA := wa_of (mt_2 (i := 106) rfl) rfl
theorem q2_107 : (Jvm.Cond.code ({ cls := "java/lang/String", name := "isLatin1", desc := "()Z" } : Jvm.MethodName) prog_17_method_154_code (1 : Nat) (Option.some Jvm.ClassFile.FieldType.boolean)) ∈ WA := wa_of (mt_2 (i := 107) rfl) rfl
theorem q2_108 : (Jvm.Cond.methodLink "java/lang/String" (495 : Nat) ({ cls := "java/lang/StringLatin1", name := "charAt", desc := "([BI)C" } : Jvm.MethodName)) ∈ WA := wa_of (mt_2 (i := 108) rfl) rfl
theorem q2_109 : (Jvm.Cond.static ({ cls := "java/lang/StringLatin1", name := "charAt", desc := "([BI)C" } : Jvm.MethodName)) ∈ WA := wa_of (mt_2 (i := 109) rfl) rfl
theorem q2_110 : (Jvm.Cond.code ({ cls := "java/lang/StringLatin1", name := "charAt", desc := "([BI)C" } : Jvm.MethodName) prog_18_method_2_code (2 : Nat) (Option.some Jvm.ClassFile.FieldType.char)) ∈ WA := wa_of (mt_2 (i := 110) rfl) rfl
theorem q2_111 : (Jvm.Cond.methodLink "java/lang/StringLatin1" (9 : Nat) ({ cls := "java/lang/String", name := "checkIndex", desc := "(II)V" } : Jvm.MethodName)) ∈ WA := wa_of (mt_2 (i := 111) rfl) rfl
theorem q2_112 : (Jvm.Cond.static ({ cls := "java/lang/String", name := "checkIndex", desc := "(II)V" } : Jvm.MethodName)) ∈ WA := wa_of (mt_2 (i := 112) rfl) rfl
theorem q2_113 : (Jvm.Cond.code ({ cls := "java/lang/String", name := "checkIndex", desc := "(II)V" } : Jvm.MethodName) prog_17_method_155_code (2 : Nat) (Option.none : Option Jvm.ClassFile.FieldType)) ∈ WA := wa_of (mt_2 (i := 113) rfl) rfl
theorem q2_114 : (Jvm.Cond.fieldLink "java/lang/String" (1053 : Nat) "jdk/internal/util/Preconditions" "SIOOBE_FORMATTER" "Ljava/util/function/BiFunction;") ∈ WA := wa_of (mt_2 (i := 114) rfl) rfl
theorem q2_115 : (Jvm.Cond.laysStatic "jdk/internal/util/Preconditions" "SIOOBE_FORMATTER" "Ljava/util/function/BiFunction;") ∈ lw_tbl := mt_2 (i := 115) rfl
theorem q2_116 : (Jvm.Cond.methodLink "java/lang/String" (1059 : Nat) ({ cls := "jdk/internal/util/Preconditions", name := "checkIndex", desc := "(IILjava/util/function/BiFunction;)I" } : Jvm.MethodName)) ∈ WA := wa_of (mt_2 (i := 116) rfl) rfl
theorem q2_117 : (Jvm.Cond.static ({ cls := "jdk/internal/util/Preconditions", name := "checkIndex", desc := "(IILjava/util/function/BiFunction;)I" } : Jvm.MethodName)) ∈ WA := wa_of (mt_2 (i := 117) rfl) rfl
theorem q2_118 : (Jvm.Cond.code ({ cls := "jdk/internal/util/Preconditions", name := "checkIndex", desc := "(IILjava/util/function/BiFunction;)I" } : Jvm.MethodName) prog_21_method_11_code (3 : Nat) (Option.some Jvm.ClassFile.FieldType.int)) ∈ WA := wa_of (mt_2 (i := 118) rfl) rfl
theorem q2_119 : (Jvm.Cond.methodLink "java/lang/String" (498 : Nat) ({ cls := "java/lang/StringUTF16", name := "charAt", desc := "([BI)C" } : Jvm.MethodName)) ∈ WA := wa_of (mt_2 (i := 119) rfl) rfl
theorem q2_120 : (Jvm.Cond.static ({ cls := "java/lang/StringUTF16", name := "charAt", desc := "([BI)C" } : Jvm.MethodName)) ∈ WA := wa_of (mt_2 (i := 120) rfl) rfl
theorem q2_121 : (Jvm.Cond.code ({ cls := "java/lang/StringUTF16", name := "charAt", desc := "([BI)C" } : Jvm.MethodName) prog_19_method_83_code (2 : Nat) (Option.some Jvm.ClassFile.FieldType.char)) ∈ WA := wa_of (mt_2 (i := 121) rfl) rfl
theorem q2_122 : (Jvm.Cond.methodLink "java/lang/StringUTF16" (67 : Nat) ({ cls := "java/lang/StringUTF16", name := "checkIndex", desc := "(I[B)V" } : Jvm.MethodName)) ∈ WA := wa_of (mt_2 (i := 122) rfl) rfl
theorem q2_123 : (Jvm.Cond.static ({ cls := "java/lang/StringUTF16", name := "checkIndex", desc := "(I[B)V" } : Jvm.MethodName)) ∈ WA := wa_of (mt_2 (i := 123) rfl) rfl
theorem q2_124 : (Jvm.Cond.code ({ cls := "java/lang/StringUTF16", name := "checkIndex", desc := "(I[B)V" } : Jvm.MethodName) prog_19_method_91_code (2 : Nat) (Option.none : Option Jvm.ClassFile.FieldType)) ∈ WA := wa_of (mt_2 (i := 124) rfl) rfl
theorem q2_125 : (Jvm.Cond.methodLink "java/lang/StringUTF16" (48 : Nat) ({ cls := "java/lang/StringUTF16", name := "length", desc := "([B)I" } : Jvm.MethodName)) ∈ WA := wa_of (mt_2 (i := 125) rfl) rfl
theorem q2_126 : (Jvm.Cond.static ({ cls := "java/lang/StringUTF16", name := "length", desc := "([B)I" } : Jvm.MethodName)) ∈ WA := wa_of (mt_2 (i := 126) rfl) rfl
theorem q2_127 : (Jvm.Cond.code ({ cls := "java/lang/StringUTF16", name := "length", desc := "([B)I" } : Jvm.MethodName) prog_19_method_6_code (1 : Nat) (Option.some Jvm.ClassFile.FieldType.int)) ∈ WA := wa_of (mt_2 (i := 127) rfl) rfl
theorem q2_128 : (Jvm.Cond.methodLink "java/lang/StringUTF16" (414 : Nat) ({ cls := "java/lang/String", name := "checkIndex", desc := "(II)V" } : Jvm.MethodName)) ∈ WA := wa_of (mt_2 (i := 128) rfl) rfl
theorem q2_129 : (Jvm.Cond.methodLink "java/lang/StringUTF16" (71 : Nat) ({ cls := "java/lang/StringUTF16", name := "getChar", desc := "([BI)C" } : Jvm.MethodName)) ∈ WA := wa_of (mt_2 (i := 129) rfl) rfl
theorem q2_130 : (Jvm.Cond.static ({ cls := "java/lang/StringUTF16", name := "getChar", desc := "([BI)C" } : Jvm.MethodName)) ∈ WA := wa_of (mt_2 (i := 130) rfl) rfl
theorem q2_131 : (Jvm.Cond.code ({ cls := "java/lang/StringUTF16", name := "getChar", desc := "([BI)C" } : Jvm.MethodName) prog_19_method_5_code (2 : Nat) (Option.some Jvm.ClassFile.FieldType.char)) ∈ WA := wa_of (mt_2 (i := 131) rfl) rfl
theorem q2_132 : (Jvm.Cond.fieldLink "java/lang/StringUTF16" (44 : Nat) "java/lang/StringUTF16" "$assertionsDisabled" "Z") ∈ WA := wa_of (mt_2 (i := 132) rfl) rfl
theorem q2_133 : (Jvm.Cond.laysStatic "java/lang/StringUTF16" "$assertionsDisabled" "Z") ∈ lw_tbl := mt_2 (i := 133) rfl
theorem q2_134 : (Jvm.Cond.fieldLink "java/lang/StringUTF16" (59 : Nat) "java/lang/StringUTF16" "HI_BYTE_SHIFT" "I") ∈ WA := wa_of (mt_2 (i := 134) rfl) rfl
theorem q2_135 : (Jvm.Cond.laysStatic "java/lang/StringUTF16" "HI_BYTE_SHIFT" "I") ∈ lw_tbl := mt_2 (i := 135) rfl
theorem q2_136 : (Jvm.Cond.fieldLink "java/lang/StringUTF16" (63 : Nat) "java/lang/StringUTF16" "LO_BYTE_SHIFT" "I") ∈ WA := wa_of (mt_2 (i := 136) rfl) rfl
theorem q2_137 : (Jvm.Cond.laysStatic "java/lang/StringUTF16" "LO_BYTE_SHIFT" "I") ∈ lw_tbl := mt_2 (i := 137) rfl
theorem q2_138 : (Jvm.Cond.methodLink "LeanTower$Reader" (51 : Nat) ({ cls := "LeanTower$Reader", name := "refuse", desc := "(I)Z" } : Jvm.MethodName)) ∈ WA := wa_of (mt_2 (i := 138) rfl) rfl
theorem q2_139 : (Jvm.Cond.privateMethod ({ cls := "LeanTower$Reader", name := "refuse", desc := "(I)Z" } : Jvm.MethodName)) ∈ lw_tbl := mt_2 (i := 139) rfl
theorem q2_140 : (Jvm.Cond.instanceMethod ({ cls := "LeanTower$Reader", name := "refuse", desc := "(I)Z" } : Jvm.MethodName)) ∈ WA := wa_of (mt_2 (i := 140) rfl) rfl
theorem q2_141 : (Jvm.Cond.code ({ cls := "LeanTower$Reader", name := "refuse", desc := "(I)Z" } : Jvm.MethodName) prog_8_method_11_code (2 : Nat) (Option.some Jvm.ClassFile.FieldType.boolean)) ∈ WA := wa_of (mt_2 (i := 141) rfl) rfl
theorem q2_142 : (Jvm.Cond.methodLink "LeanTower$Reader" (57 : Nat) ({ cls := "LeanTower$Reader", name := "number", desc := "(II)I" } : Jvm.MethodName)) ∈ WA := wa_of (mt_2 (i := 142) rfl) rfl
theorem q2_143 : (Jvm.Cond.privateMethod ({ cls := "LeanTower$Reader", name := "number", desc := "(II)I" } : Jvm.MethodName)) ∈ lw_tbl := mt_2 (i := 143) rfl
theorem q2_144 : (Jvm.Cond.instanceMethod ({ cls := "LeanTower$Reader", name := "number", desc := "(II)I" } : Jvm.MethodName)) ∈ WA := wa_of (mt_2 (i := 144) rfl) rfl
theorem q2_145 : (Jvm.Cond.code ({ cls := "LeanTower$Reader", name := "number", desc := "(II)I" } : Jvm.MethodName) prog_8_method_9_code (4 : Nat) (Option.some Jvm.ClassFile.FieldType.int)) ∈ WA := wa_of (mt_2 (i := 145) rfl) rfl
theorem q2_146 : (Jvm.Cond.methodLink "LeanTower$Reader" (66 : Nat) ({ cls := "LeanTower$Reader", name := "passSemicolon", desc := "()Z" } : Jvm.MethodName)) ∈ WA := wa_of (mt_2 (i := 146) rfl) rfl
theorem q2_147 : (Jvm.Cond.privateMethod ({ cls := "LeanTower$Reader", name := "passSemicolon", desc := "()Z" } : Jvm.MethodName)) ∈ lw_tbl := mt_2 (i := 147) rfl
theorem q2_148 : (Jvm.Cond.instanceMethod ({ cls := "LeanTower$Reader", name := "passSemicolon", desc := "()Z" } : Jvm.MethodName)) ∈ WA := wa_of (mt_2 (i := 148) rfl) rfl
theorem q2_149 : (Jvm.Cond.code ({ cls := "LeanTower$Reader", name := "passSemicolon", desc := "()Z" } : Jvm.MethodName) prog_8_method_10_code (1 : Nat) (Option.some Jvm.ClassFile.FieldType.boolean)) ∈ WA := wa_of (mt_2 (i := 149) rfl) rfl
theorem q2_150 : (Jvm.Cond.stringRef "LeanTower$Reader" (34 : Nat) "person") ∈ lw_tbl := mt_2 (i := 150) rfl
theorem q2_151 : (Jvm.Cond.methodLink "LeanTower$Reader" (40 : Nat) ({ cls := "LeanTower$Reader", name := "readPerson", desc := "(LLeanTower$Tower;)Z" } : Jvm.MethodName)) ∈ WA := wa_of (mt_2 (i := 151) rfl) rfl
theorem q2_152 : (Jvm.Cond.privateMethod ({ cls := "LeanTower$Reader", name := "readPerson", desc := "(LLeanTower$Tower;)Z" } : Jvm.MethodName)) ∈ lw_tbl := mt_2 (i := 152) rfl
theorem q2_153 : (Jvm.Cond.instanceMethod ({ cls := "LeanTower$Reader", name := "readPerson", desc := "(LLeanTower$Tower;)Z" } : Jvm.MethodName)) ∈ WA := wa_of (mt_2 (i := 153) rfl) rfl
theorem q2_154 : (Jvm.Cond.code ({ cls := "LeanTower$Reader", name := "readPerson", desc := "(LLeanTower$Tower;)Z" } : Jvm.MethodName) prog_8_method_5_code (7 : Nat) (Option.some Jvm.ClassFile.FieldType.boolean)) ∈ WA := wa_of (mt_2 (i := 154) rfl) rfl
theorem q2_155 : (Jvm.Cond.methodLink "LeanTower$Reader" (73 : Nat) ({ cls := "LeanTower$Reader", name := "kindAtHand", desc := "()I" } : Jvm.MethodName)) ∈ WA := wa_of (mt_2 (i := 155) rfl) rfl
theorem q2_156 : (Jvm.Cond.privateMethod ({ cls := "LeanTower$Reader", name := "kindAtHand", desc := "()I" } : Jvm.MethodName)) ∈ lw_tbl := mt_2 (i := 156) rfl
theorem q2_157 : (Jvm.Cond.instanceMethod ({ cls := "LeanTower$Reader", name := "kindAtHand", desc := "()I" } : Jvm.MethodName)) ∈ WA := wa_of (mt_2 (i := 157) rfl) rfl
theorem q2_158 : (Jvm.Cond.code ({ cls := "LeanTower$Reader", name := "kindAtHand", desc := "()I" } : Jvm.MethodName) prog_8_method_7_code (1 : Nat) (Option.some Jvm.ClassFile.FieldType.int)) ∈ WA := wa_of (mt_2 (i := 158) rfl) rfl
theorem q2_159 : (Jvm.Cond.stringRef "LeanTower$Reader" (95 : Nat) "pilgrim") ∈ lw_tbl := mt_2 (i := 159) rfl
theorem q2_160 : (Jvm.Cond.stringRef "LeanTower$Reader" (97 : Nat) "widow") ∈ lw_tbl := mt_2 (i := 160) rfl
theorem q2_161 : (Jvm.Cond.stringRef "LeanTower$Reader" (99 : Nat) "boy") ∈ lw_tbl := mt_2 (i := 161) rfl
theorem q2_162 : (Jvm.Cond.stringRef "LeanTower$Reader" (101 : Nat) "monk") ∈ lw_tbl := mt_2 (i := 162) rfl
theorem q2_163 : (Jvm.Cond.stringRef "LeanTower$Reader" (103 : Nat) "bishop") ∈ lw_tbl := mt_2 (i := 163) rfl
theorem q2_164 : (Jvm.Cond.methodLink "LeanTower$Reader" (80 : Nat) ({ cls := "LeanTower$Reader", name := "newPerson", desc := "(IIII)LLeanTower$Person;" } : Jvm.MethodName)) ∈ WA := wa_of (mt_2 (i := 164) rfl) rfl
theorem q2_165 : (Jvm.Cond.static ({ cls := "LeanTower$Reader", name := "newPerson", desc := "(IIII)LLeanTower$Person;" } : Jvm.MethodName)) ∈ WA := wa_of (mt_2 (i := 165) rfl) rfl
theorem q2_166 : (Jvm.Cond.code ({ cls := "LeanTower$Reader", name := "newPerson", desc := "(IIII)LLeanTower$Person;" } : Jvm.MethodName) prog_8_method_8_code (4 : Nat) (Option.some (Jvm.ClassFile.FieldType.object "LeanTower$Person"))) ∈ WA := wa_of (mt_2 (i := 166) rfl) rfl
theorem q2_167 : (Jvm.Cond.classLink "LeanTower$Reader" (105 : Nat) "LeanTower$Widow") ∈ WA := wa_of (mt_2 (i := 167) rfl) rfl
theorem q2_168 : (Jvm.Cond.instantiable "LeanTower$Widow" (3 : Nat)) ∈ WA := wa_of (mt_2 (i := 168) rfl) rfl
theorem q2_169 : (Jvm.Cond.methodLink "LeanTower$Reader" (107 : Nat) ({ cls := "LeanTower$Widow", name := "<init>", desc := "(III)V" } : Jvm.MethodName)) ∈ WA := wa_of (mt_2 (i := 169) rfl) rfl
theorem q2_170 : (Jvm.Cond.instanceMethod ({ cls := "LeanTower$Widow", name := "<init>", desc := "(III)V" } : Jvm.MethodName)) ∈ WA := wa_of (mt_2 (i := 170) rfl) rfl
theorem q2_171 : (Jvm.Cond.code ({ cls := "LeanTower$Widow", name := "<init>", desc := "(III)V" } : Jvm.MethodName) prog_12_method_1_code (4 : Nat) (Option.none : Option Jvm.ClassFile.FieldType)) ∈ WA := wa_of (mt_2 (i := 171) rfl) rfl
theorem q2_172 : (Jvm.Cond.methodLink "LeanTower$Widow" (3 : Nat) ({ cls := "LeanTower$Pilgrim", name := "<init>", desc := "(III)V" } : Jvm.MethodName)) ∈ WA := wa_of (mt_2 (i := 172) rfl) rfl
theorem q2_173 : (Jvm.Cond.instanceMethod ({ cls := "LeanTower$Pilgrim", name := "<init>", desc := "(III)V" } : Jvm.MethodName)) ∈ WA := wa_of (mt_2 (i := 173) rfl) rfl
theorem q2_174 : (Jvm.Cond.code ({ cls := "LeanTower$Pilgrim", name := "<init>", desc := "(III)V" } : Jvm.MethodName) prog_7_method_1_code (4 : Nat) (Option.none : Option Jvm.ClassFile.FieldType)) ∈ WA := wa_of (mt_2 (i := 174) rfl) rfl
theorem q2_175 : (Jvm.Cond.methodLink "LeanTower$Pilgrim" (3 : Nat) ({ cls := "LeanTower$Person", name := "<init>", desc := "(III)V" } : Jvm.MethodName)) ∈ WA := wa_of (mt_2 (i := 175) rfl) rfl
theorem q2_176 : (Jvm.Cond.instanceMethod ({ cls := "LeanTower$Person", name := "<init>", desc := "(III)V" } : Jvm.MethodName)) ∈ WA := wa_of (mt_2 (i := 176) rfl) rfl
theorem q2_177 : (Jvm.Cond.code ({ cls := "LeanTower$Person", name := "<init>", desc := "(III)V" } : Jvm.MethodName) prog_6_method_1_code (4 : Nat) (Option.none : Option Jvm.ClassFile.FieldType)) ∈ WA := wa_of (mt_2 (i := 177) rfl) rfl
theorem q2_178 : (Jvm.Cond.methodLink "LeanTower$Person" (1 : Nat) ({ cls := "java/lang/Object", name := "<init>", desc := "()V" } : Jvm.MethodName)) ∈ WA := wa_of (mt_2 (i := 178) rfl) rfl
theorem q2_179 : (Jvm.Cond.fieldLink "LeanTower$Person" (7 : Nat) "LeanTower$Person" "number" "I") ∈ WA := wa_of (mt_2 (i := 179) rfl) rfl
theorem q2_180 : (Jvm.Cond.fieldLink "LeanTower$Person" (13 : Nat) "LeanTower$Person" "burden" "I") ∈ WA := wa_of (mt_2 (i := 180) rfl) rfl
theorem q2_181 : (Jvm.Cond.fieldLink "LeanTower" (191 : Nat) "LeanTower$Person" "burden" "I") ∈ WA := wa_of (mt_2 (i := 181) rfl) rfl
theorem q2_182 : (Jvm.Cond.fieldLink "LeanTower$Tower" (65 : Nat) "LeanTower$Person" "burden" "I") ∈ WA := wa_of (mt_2 (i := 182) rfl) rfl
theorem q2_183 : (Jvm.Cond.fieldLink "LeanTower$Person" (16 : Nat) "LeanTower$Person" "pace" "I") ∈ WA := wa_of (mt_2 (i := 183) rfl) rfl
theorem q2_184 : (Jvm.Cond.fieldLink "LeanTower$Pilgrim" (25 : Nat) "LeanTower$Pilgrim" "pace" "I") ∈ WA := wa_of (mt_2 (i := 184) rfl) rfl
theorem q2_185 : (Jvm.Cond.sameField "LeanTower$Pilgrim" "LeanTower$Person" "pace" "I") ∈ WA := wa_of (mt_2 (i := 185) rfl) rfl
theorem q2_186 : (Jvm.Cond.fieldLink "LeanTower" (196 : Nat) "LeanTower$Person" "pace" "I") ∈ WA := wa_of (mt_2 (i := 186) rfl) rfl
theorem q2_187 : (Jvm.Cond.fieldLink "LeanTower$Tower" (87 : Nat) "LeanTower$Person" "pace" "I") ∈ WA := wa_of (mt_2 (i := 187) rfl) rfl
theorem q2_188 : (Jvm.Cond.laysFinal "LeanTower$Widow" "LeanTower$Person" "number" "I") ∈ WA := wa_of (mt_2 (i := 188) rfl) rfl
theorem q2_189 : (Jvm.Cond.soleField "LeanTower$Person" "number") ∈ WA := wa_of (mt_2 (i := 189) rfl) rfl
theorem q2_190 : (Jvm.Cond.laysFinal "LeanTower$Widow" "LeanTower$Person" "burden" "I") ∈ WA := wa_of (mt_2 (i := 190) rfl) rfl
theorem q2_191 : (Jvm.Cond.soleField "LeanTower$Person" "burden") ∈ WA := wa_of (mt_2 (i := 191) rfl) rfl
theorem q2_192 : (Jvm.Cond.laysFinal "LeanTower$Widow" "LeanTower$Person" "pace" "I") ∈ WA := wa_of (mt_2 (i := 192) rfl) rfl
theorem q2_193 : (Jvm.Cond.soleField "LeanTower$Person" "pace") ∈ WA := wa_of (mt_2 (i := 193) rfl) rfl
theorem q2_194 : (Jvm.Cond.superclass "LeanTower$Widow" "LeanTower$Pilgrim") ∈ WA := wa_of (mt_2 (i := 194) rfl) rfl
theorem q2_195 : (Jvm.Cond.classLink "LeanTower$Reader" (110 : Nat) "LeanTower$Boy") ∈ WA := wa_of (mt_2 (i := 195) rfl) rfl
theorem q2_196 : (Jvm.Cond.instantiable "LeanTower$Boy" (3 : Nat)) ∈ WA := wa_of (mt_2 (i := 196) rfl) rfl
theorem q2_197 : (Jvm.Cond.methodLink "LeanTower$Reader" (112 : Nat) ({ cls := "LeanTower$Boy", name := "<init>", desc := "(III)V" } : Jvm.MethodName)) ∈ WA := wa_of (mt_2 (i := 197) rfl) rfl
theorem q2_198 : (Jvm.Cond.instanceMethod ({ cls := "LeanTower$Boy", name := "<init>", desc := "(III)V" } : Jvm.MethodName)) ∈ WA := wa_of (mt_2 (i := 198) rfl) rfl
theorem q2_199 : (Jvm.Cond.code ({ cls := "LeanTower$Boy", name := "<init>", desc := "(III)V" } : Jvm.MethodName) prog_4_method_1_code (4 : Nat) (Option.none : Option Jvm.ClassFile.FieldType)) ∈ WA := wa_of (mt_2 (i := 199) rfl) rfl
theorem q2_200 : (Jvm.Cond.methodLink "LeanTower$Boy" (3 : Nat) ({ cls := "LeanTower$Pilgrim", name := "<init>", desc := "(III)V" } : Jvm.MethodName)) ∈ WA := wa_of (mt_2 (i := 200) rfl) rfl
theorem q2_201 : (Jvm.Cond.laysFinal "LeanTower$Boy" "LeanTower$Person" "number" "I") ∈ WA := wa_of (mt_2 (i := 201) rfl) rfl
theorem q2_202 : (Jvm.Cond.laysFinal "LeanTower$Boy" "LeanTower$Person" "burden" "I") ∈ WA := wa_of (mt_2 (i := 202) rfl) rfl
theorem q2_203 : (Jvm.Cond.laysFinal "LeanTower$Boy" "LeanTower$Person" "pace" "I") ∈ WA := wa_of (mt_2 (i := 203) rfl) rfl
theorem q2_204 : (Jvm.Cond.superclass "LeanTower$Boy" "LeanTower$Pilgrim") ∈ WA := wa_of (mt_2 (i := 204) rfl) rfl
theorem q2_205 : (Jvm.Cond.classLink "LeanTower$Reader" (113 : Nat) "LeanTower$Monk") ∈ WA := wa_of (mt_2 (i := 205) rfl) rfl
theorem q2_206 : (Jvm.Cond.instantiable "LeanTower$Monk" (3 : Nat)) ∈ WA := wa_of (mt_2 (i := 206) rfl) rfl
theorem q2_207 : (Jvm.Cond.methodLink "LeanTower$Reader" (115 : Nat) ({ cls := "LeanTower$Monk", name := "<init>", desc := "(III)V" } : Jvm.MethodName)) ∈ WA := wa_of (mt_2 (i := 207) rfl) rfl
theorem q2_208 : (Jvm.Cond.instanceMethod ({ cls := "LeanTower$Monk", name := "<init>", desc := "(III)V" } : Jvm.MethodName)) ∈ WA := wa_of (mt_2 (i := 208) rfl) rfl
theorem q2_209 : (Jvm.Cond.code ({ cls := "LeanTower$Monk", name := "<init>", desc := "(III)V" } : Jvm.MethodName) prog_5_method_1_code (4 : Nat) (Option.none : Option Jvm.ClassFile.FieldType)) ∈ WA := wa_of (mt_2 (i := 209) rfl) rfl
theorem q2_210 : (Jvm.Cond.methodLink "LeanTower$Monk" (3 : Nat) ({ cls := "LeanTower$Person", name := "<init>", desc := "(III)V" } : Jvm.MethodName)) ∈ WA := wa_of (mt_2 (i := 210) rfl) rfl
theorem q2_211 : (Jvm.Cond.laysFinal "LeanTower$Monk" "LeanTower$Person" "number" "I") ∈ WA := wa_of (mt_2 (i := 211) rfl) rfl
theorem q2_212 : (Jvm.Cond.laysFinal "LeanTower$Monk" "LeanTower$Person" "burden" "I") ∈ WA := wa_of (mt_2 (i := 212) rfl) rfl
theorem q2_213 : (Jvm.Cond.laysFinal "LeanTower$Monk" "LeanTower$Person" "pace" "I") ∈ WA := wa_of (mt_2 (i := 213) rfl) rfl
theorem q2_214 : (Jvm.Cond.superclass "LeanTower$Monk" "LeanTower$Person") ∈ WA := wa_of (mt_2 (i := 214) rfl) rfl
theorem q2_215 : (Jvm.Cond.classLink "LeanTower$Reader" (116 : Nat) "LeanTower$Bishop") ∈ WA := wa_of (mt_2 (i := 215) rfl) rfl
theorem q2_216 : (Jvm.Cond.instantiable "LeanTower$Bishop" (3 : Nat)) ∈ WA := wa_of (mt_2 (i := 216) rfl) rfl
theorem q2_217 : (Jvm.Cond.methodLink "LeanTower$Reader" (118 : Nat) ({ cls := "LeanTower$Bishop", name := "<init>", desc := "(III)V" } : Jvm.MethodName)) ∈ WA := wa_of (mt_2 (i := 217) rfl) rfl
theorem q2_218 : (Jvm.Cond.instanceMethod ({ cls := "LeanTower$Bishop", name := "<init>", desc := "(III)V" } : Jvm.MethodName)) ∈ WA := wa_of (mt_2 (i := 218) rfl) rfl
theorem q2_219 : (Jvm.Cond.code ({ cls := "LeanTower$Bishop", name := "<init>", desc := "(III)V" } : Jvm.MethodName) prog_3_method_1_code (4 : Nat) (Option.none : Option Jvm.ClassFile.FieldType)) ∈ WA := wa_of (mt_2 (i := 219) rfl) rfl
theorem q2_220 : (Jvm.Cond.methodLink "LeanTower$Bishop" (3 : Nat) ({ cls := "LeanTower$Monk", name := "<init>", desc := "(III)V" } : Jvm.MethodName)) ∈ WA := wa_of (mt_2 (i := 220) rfl) rfl
theorem q2_221 : (Jvm.Cond.laysFinal "LeanTower$Bishop" "LeanTower$Person" "number" "I") ∈ WA := wa_of (mt_2 (i := 221) rfl) rfl
theorem q2_222 : (Jvm.Cond.laysFinal "LeanTower$Bishop" "LeanTower$Person" "burden" "I") ∈ WA := wa_of (mt_2 (i := 222) rfl) rfl
theorem q2_223 : (Jvm.Cond.laysFinal "LeanTower$Bishop" "LeanTower$Person" "pace" "I") ∈ WA := wa_of (mt_2 (i := 223) rfl) rfl
theorem q2_224 : (Jvm.Cond.superclass "LeanTower$Bishop" "LeanTower$Monk") ∈ WA := wa_of (mt_2 (i := 224) rfl) rfl
theorem q2_225 : (Jvm.Cond.classLink "LeanTower$Reader" (119 : Nat) "LeanTower$Pilgrim") ∈ WA := wa_of (mt_2 (i := 225) rfl) rfl
theorem q2_226 : (Jvm.Cond.instantiable "LeanTower$Pilgrim" (3 : Nat)) ∈ WA := wa_of (mt_2 (i := 226) rfl) rfl
theorem q2_227 : (Jvm.Cond.methodLink "LeanTower$Reader" (121 : Nat) ({ cls := "LeanTower$Pilgrim", name := "<init>", desc := "(III)V" } : Jvm.MethodName)) ∈ WA := wa_of (mt_2 (i := 227) rfl) rfl
theorem q2_228 : (Jvm.Cond.laysFinal "LeanTower$Pilgrim" "LeanTower$Person" "number" "I") ∈ WA := wa_of (mt_2 (i := 228) rfl) rfl
theorem q2_229 : (Jvm.Cond.laysFinal "LeanTower$Pilgrim" "LeanTower$Person" "burden" "I") ∈ WA := wa_of (mt_2 (i := 229) rfl) rfl
theorem q2_230 : (Jvm.Cond.laysFinal "LeanTower$Pilgrim" "LeanTower$Person" "pace" "I") ∈ WA := wa_of (mt_2 (i := 230) rfl) rfl
theorem q2_231 : (Jvm.Cond.superclass "LeanTower$Pilgrim" "LeanTower$Person") ∈ WA := wa_of (mt_2 (i := 231) rfl) rfl
theorem q2_232 : (Jvm.Cond.methodLink "LeanTower$Reader" (84 : Nat) ({ cls := "LeanTower$Tower", name := "addPerson", desc := "(LLeanTower$Person;I)V" } : Jvm.MethodName)) ∈ WA := wa_of (mt_2 (i := 232) rfl) rfl
theorem q2_233 : (Jvm.Cond.instanceMethod ({ cls := "LeanTower$Tower", name := "addPerson", desc := "(LLeanTower$Person;I)V" } : Jvm.MethodName)) ∈ WA := wa_of (mt_2 (i := 233) rfl) rfl
theorem q2_234 : (Jvm.Cond.selects "LeanTower$Tower" ({ cls := "LeanTower$Tower", name := "addPerson", desc := "(LLeanTower$Person;I)V" } : Jvm.MethodName) ({ cls := "LeanTower$Tower", name := "addPerson", desc := "(LLeanTower$Person;I)V" } : Jvm.MethodName)) ∈ WA := wa_of (mt_2 (i := 234) rfl) rfl
theorem q2_235 : (Jvm.Cond.code ({ cls := "LeanTower$Tower", name := "addPerson", desc := "(LLeanTower$Person;I)V" } : Jvm.MethodName) prog_10_method_5_code (3 : Nat) (Option.none : Option Jvm.ClassFile.FieldType)) ∈ WA := wa_of (mt_2 (i := 235) rfl) rfl
theorem q2_236 : (Jvm.Cond.stringRef "LeanTower$Reader" (43 : Nat) "stone") ∈ lw_tbl := mt_2 (i := 236) rfl
theorem q2_237 : (Jvm.Cond.methodLink "LeanTower$Reader" (45 : Nat) ({ cls := "LeanTower$Reader", name := "readStone", desc := "(LLeanTower$Tower;)Z" } : Jvm.MethodName)) ∈ WA := wa_of (mt_2 (i := 237) rfl) rfl
theorem q2_238 : (Jvm.Cond.privateMethod ({ cls := "LeanTower$Reader", name := "readStone", desc := "(LLeanTower$Tower;)Z" } : Jvm.MethodName)) ∈ lw_tbl := mt_2 (i := 238) rfl
theorem q2_239 : (Jvm.Cond.instanceMethod ({ cls := "LeanTower$Reader", name := "readStone", desc := "(LLeanTower$Tower;)Z" } : Jvm.MethodName)) ∈ WA := wa_of (mt_2 (i := 239) rfl) rfl
theorem q3_0 : (Jvm.Cond.code ({ cls := "LeanTower$Reader", name := "readStone", desc := "(LLeanTower$Tower;)Z" } : Jvm.MethodName) prog_8_method_6_code (4 : Nat) (Option.some Jvm.ClassFile.FieldType.boolean)) ∈ WA := wa_of (mt_3 (i := 0) rfl) rfl
theorem q3_1 : (Jvm.Cond.methodLink "LeanTower$Reader" (91 : Nat) ({ cls := "LeanTower$Tower", name := "addStone", desc := "(II)V" } : Jvm.MethodName)) ∈ WA := wa_of (mt_3 (i := 1) rfl) rfl
theorem q3_2 : (Jvm.Cond.instanceMethod ({ cls := "LeanTower$Tower", name := "addStone", desc := "(II)V" } : Jvm.MethodName)) ∈ WA := wa_of (mt_3 (i := 2) rfl) rfl
theorem q3_3 : (Jvm.Cond.selects "LeanTower$Tower" ({ cls := "LeanTower$Tower", name := "addStone", desc := "(II)V" } : Jvm.MethodName) ({ cls := "LeanTower$Tower", name := "addStone", desc := "(II)V" } : Jvm.MethodName)) ∈ WA := wa_of (mt_3 (i := 3) rfl) rfl
theorem q3_4 : (Jvm.Cond.code ({ cls := "LeanTower$Tower", name := "addStone", desc := "(II)V" } : Jvm.MethodName) prog_10_method_6_code (3 : Nat) (Option.none : Option Jvm.ClassFile.FieldType)) ∈ WA := wa_of (mt_3 (i := 4) rfl) rfl
theorem q3_5 : (Jvm.Cond.constant "LeanTower" (120 : Nat) (-1000100 : Int32)) ∈ WA := wa_of (mt_3 (i := 5) rfl) rfl
theorem q3_6 : (Jvm.Cond.methodLink "LeanTower" (124 : Nat) ({ cls := "LeanTower$Tower", name := "takeFrom", desc := "(LLeanTower$Tower;)V" } : Jvm.MethodName)) ∈ WA := wa_of (mt_3 (i := 6) rfl) rfl
theorem q3_7 : (Jvm.Cond.instanceMethod ({ cls := "LeanTower$Tower", name := "takeFrom", desc := "(LLeanTower$Tower;)V" } : Jvm.MethodName)) ∈ WA := wa_of (mt_3 (i := 7) rfl) rfl
theorem q3_8 : (Jvm.Cond.selects "LeanTower$Tower" ({ cls := "LeanTower$Tower", name := "takeFrom", desc := "(LLeanTower$Tower;)V" } : Jvm.MethodName) ({ cls := "LeanTower$Tower", name := "takeFrom", desc := "(LLeanTower$Tower;)V" } : Jvm.MethodName)) ∈ WA := wa_of (mt_3 (i := 8) rfl) rfl
theorem q3_9 : (Jvm.Cond.code ({ cls := "LeanTower$Tower", name := "takeFrom", desc := "(LLeanTower$Tower;)V" } : Jvm.MethodName) prog_10_method_4_code (3 : Nat) (Option.none : Option Jvm.ClassFile.FieldType)) ∈ WA := wa_of (mt_3 (i := 9) rfl) rfl
theorem q3_10 : (Jvm.Cond.methodLink "LeanTowerLaw" (44 : Nat) ({ cls := "LeanTower", name := "fault", desc := "()I" } : Jvm.MethodName)) ∈ WA := wa_of (mt_3 (i := 10) rfl) rfl
theorem q3_11 : (Jvm.Cond.instanceMethod ({ cls := "LeanTower", name := "fault", desc := "()I" } : Jvm.MethodName)) ∈ WA := wa_of (mt_3 (i := 11) rfl) rfl
theorem q3_12 : (Jvm.Cond.selects "LeanTower" ({ cls := "LeanTower", name := "fault", desc := "()I" } : Jvm.MethodName) ({ cls := "LeanTower", name := "fault", desc := "()I" } : Jvm.MethodName)) ∈ WA := wa_of (mt_3 (i := 12) rfl) rfl
theorem q3_13 : (Jvm.Cond.code ({ cls := "LeanTower", name := "fault", desc := "()I" } : Jvm.MethodName) prog_1_method_8_code (1 : Nat) (Option.some Jvm.ClassFile.FieldType.int)) ∈ WA := wa_of (mt_3 (i := 13) rfl) rfl
theorem q3_14 : (Jvm.Cond.methodLink "LeanTowerLaw" (48 : Nat) ({ cls := "LeanTower", name := "go", desc := "(II)I" } : Jvm.MethodName)) ∈ WA := wa_of (mt_3 (i := 14) rfl) rfl
theorem q3_15 : (Jvm.Cond.instanceMethod ({ cls := "LeanTower", name := "go", desc := "(II)I" } : Jvm.MethodName)) ∈ WA := wa_of (mt_3 (i := 15) rfl) rfl
theorem q3_16 : (Jvm.Cond.selects "LeanTower" ({ cls := "LeanTower", name := "go", desc := "(II)I" } : Jvm.MethodName) ({ cls := "LeanTower", name := "go", desc := "(II)I" } : Jvm.MethodName)) ∈ WA := wa_of (mt_3 (i := 16) rfl) rfl
theorem q3_17 : (Jvm.Cond.code ({ cls := "LeanTower", name := "go", desc := "(II)I" } : Jvm.MethodName) prog_1_method_9_code (4 : Nat) (Option.some Jvm.ClassFile.FieldType.int)) ∈ WA := wa_of (mt_3 (i := 17) rfl) rfl
theorem q3_18 : (Jvm.Cond.methodLink "LeanTower" (137 : Nat) ({ cls := "LeanTower$Tower", name := "hasPerson", desc := "(I)Z" } : Jvm.MethodName)) ∈ WA := wa_of (mt_3 (i := 18) rfl) rfl
theorem q3_19 : (Jvm.Cond.instanceMethod ({ cls := "LeanTower$Tower", name := "hasPerson", desc := "(I)Z" } : Jvm.MethodName)) ∈ WA := wa_of (mt_3 (i := 19) rfl) rfl
theorem q3_20 : (Jvm.Cond.selects "LeanTower$Tower" ({ cls := "LeanTower$Tower", name := "hasPerson", desc := "(I)Z" } : Jvm.MethodName) ({ cls := "LeanTower$Tower", name := "hasPerson", desc := "(I)Z" } : Jvm.MethodName)) ∈ WA := wa_of (mt_3 (i := 20) rfl) rfl
theorem q3_21 : (Jvm.Cond.code ({ cls := "LeanTower$Tower", name := "hasPerson", desc := "(I)Z" } : Jvm.MethodName) prog_10_method_7_code (2 : Nat) (Option.some Jvm.ClassFile.FieldType.boolean)) ∈ WA := wa_of (mt_3 (i := 21) rfl) rfl
theorem q3_22 : (Jvm.Cond.methodLink "LeanTower" (144 : Nat) ({ cls := "LeanTower", name := "keepAct", desc := "()V" } : Jvm.MethodName)) ∈ WA := wa_of (mt_3 (i := 22) rfl) rfl
theorem q3_23 : (Jvm.Cond.privateMethod ({ cls := "LeanTower", name := "keepAct", desc := "()V" } : Jvm.MethodName)) ∈ lw_tbl := mt_3 (i := 23) rfl
theorem q3_24 : (Jvm.Cond.instanceMethod ({ cls := "LeanTower", name := "keepAct", desc := "()V" } : Jvm.MethodName)) ∈ WA := wa_of (mt_3 (i := 24) rfl) rfl
theorem q3_25 : (Jvm.Cond.code ({ cls := "LeanTower", name := "keepAct", desc := "()V" } : Jvm.MethodName) prog_1_method_36_code (1 : Nat) (Option.none : Option Jvm.ClassFile.FieldType)) ∈ WA := wa_of (mt_3 (i := 25) rfl) rfl
theorem q3_26 : (Jvm.Cond.methodLink "LeanTowerLaw" (53 : Nat) ({ cls := "LeanTower", name := "hang", desc := "(II)I" } : Jvm.MethodName)) ∈ WA := wa_of (mt_3 (i := 26) rfl) rfl
theorem q3_27 : (Jvm.Cond.instanceMethod ({ cls := "LeanTower", name := "hang", desc := "(II)I" } : Jvm.MethodName)) ∈ WA := wa_of (mt_3 (i := 27) rfl) rfl
theorem q3_28 : (Jvm.Cond.selects "LeanTower" ({ cls := "LeanTower", name := "hang", desc := "(II)I" } : Jvm.MethodName) ({ cls := "LeanTower", name := "hang", desc := "(II)I" } : Jvm.MethodName)) ∈ WA := wa_of (mt_3 (i := 28) rfl) rfl
theorem q3_29 : (Jvm.Cond.code ({ cls := "LeanTower", name := "hang", desc := "(II)I" } : Jvm.MethodName) prog_1_method_10_code (4 : Nat) (Option.some Jvm.ClassFile.FieldType.int)) ∈ WA := wa_of (mt_3 (i := 29) rfl) rfl
theorem q3_30 : (Jvm.Cond.methodLink "LeanTower" (147 : Nat) ({ cls := "LeanTower$Tower", name := "hasStone", desc := "(I)Z" } : Jvm.MethodName)) ∈ WA := wa_of (mt_3 (i := 30) rfl) rfl
theorem q3_31 : (Jvm.Cond.instanceMethod ({ cls := "LeanTower$Tower", name := "hasStone", desc := "(I)Z" } : Jvm.MethodName)) ∈ WA := wa_of (mt_3 (i := 31) rfl) rfl
theorem q3_32 : (Jvm.Cond.selects "LeanTower$Tower" ({ cls := "LeanTower$Tower", name := "hasStone", desc := "(I)Z" } : Jvm.MethodName) ({ cls := "LeanTower$Tower", name := "hasStone", desc := "(I)Z" } : Jvm.MethodName)) ∈ WA := wa_of (mt_3 (i := 32) rfl) rfl
theorem q3_33 : (Jvm.Cond.code ({ cls := "LeanTower$Tower", name := "hasStone", desc := "(I)Z" } : Jvm.MethodName) prog_10_method_8_code (2 : Nat) (Option.some Jvm.ClassFile.FieldType.boolean)) ∈ WA := wa_of (mt_3 (i := 33) rfl) rfl
theorem q3_34 : (Jvm.Cond.methodLink "LeanTowerLaw" (57 : Nat) ({ cls := "LeanTower", name := "halves", desc := "(I)I" } : Jvm.MethodName)) ∈ WA := wa_of (mt_3 (i := 34) rfl) rfl
theorem q3_35 : (Jvm.Cond.instanceMethod ({ cls := "LeanTower", name := "halves", desc := "(I)I" } : Jvm.MethodName)) ∈ WA := wa_of (mt_3 (i := 35) rfl) rfl
theorem q3_36 : (Jvm.Cond.selects "LeanTower" ({ cls := "LeanTower", name := "halves", desc := "(I)I" } : Jvm.MethodName) ({ cls := "LeanTower", name := "halves", desc := "(I)I" } : Jvm.MethodName)) ∈ WA := wa_of (mt_3 (i := 36) rfl) rfl
theorem q3_37 : (Jvm.Cond.code ({ cls := "LeanTower", name := "halves", desc := "(I)I" } : Jvm.MethodName) prog_1_method_11_code (4 : Nat) (Option.some Jvm.ClassFile.FieldType.int)) ∈ WA := wa_of (mt_3 (i := 37) rfl) rfl
theorem q3_38 : (Jvm.Cond.methodLink "LeanTower" (153 : Nat) ({ cls := "LeanTower$Tower", name := "stands", desc := "()Z" } : Jvm.MethodName)) ∈ WA := wa_of (mt_3 (i := 38) rfl) rfl
theorem q3_39 : (Jvm.Cond.instanceMethod ({ cls := "LeanTower$Tower", name := "stands", desc := "()Z" } : Jvm.MethodName)) ∈ WA := wa_of (mt_3 (i := 39) rfl) rfl
theorem q3_40 : (Jvm.Cond.selects "LeanTower$Tower" ({ cls := "LeanTower$Tower", name := "stands", desc := "()Z" } : Jvm.MethodName) ({ cls := "LeanTower$Tower", name := "stands", desc := "()Z" } : Jvm.MethodName)) ∈ WA := wa_of (mt_3 (i := 40) rfl) rfl
theorem q3_41 : (Jvm.Cond.code ({ cls := "LeanTower$Tower", name := "stands", desc := "()Z" } : Jvm.MethodName) prog_10_method_2_code (1 : Nat) (Option.some Jvm.ClassFile.FieldType.boolean)) ∈ WA := wa_of (mt_3 (i := 41) rfl) rfl
theorem q3_42 : (Jvm.Cond.constant "LeanTower" (156 : Nat) (-1000002 : Int32)) ∈ WA := wa_of (mt_3 (i := 42) rfl) rfl
theorem q3_43 : (Jvm.Cond.constant "LeanTower" (160 : Nat) (-1000000 : Int32)) ∈ WA := wa_of (mt_3 (i := 43) rfl) rfl
theorem q3_44 : (Jvm.Cond.methodLink "LeanTower" (161 : Nat) ({ cls := "LeanTower$Tower", name := "passHalf", desc := "()V" } : Jvm.MethodName)) ∈ WA := wa_of (mt_3 (i := 44) rfl) rfl
theorem q3_45 : (Jvm.Cond.instanceMethod ({ cls := "LeanTower$Tower", name := "passHalf", desc := "()V" } : Jvm.MethodName)) ∈ WA := wa_of (mt_3 (i := 45) rfl) rfl
theorem q3_46 : (Jvm.Cond.selects "LeanTower$Tower" ({ cls := "LeanTower$Tower", name := "passHalf", desc := "()V" } : Jvm.MethodName) ({ cls := "LeanTower$Tower", name := "passHalf", desc := "()V" } : Jvm.MethodName)) ∈ WA := wa_of (mt_3 (i := 46) rfl) rfl
theorem q3_47 : (Jvm.Cond.code ({ cls := "LeanTower$Tower", name := "passHalf", desc := "()V" } : Jvm.MethodName) prog_10_method_18_code (3 : Nat) (Option.none : Option Jvm.ClassFile.FieldType)) ∈ WA := wa_of (mt_3 (i := 47) rfl) rfl
theorem q3_48 : (Jvm.Cond.methodLink "LeanTower$Tower" (90 : Nat) ({ cls := "LeanTower$Person", name := "stride", desc := "()I" } : Jvm.MethodName)) ∈ WA := wa_of (mt_3 (i := 48) rfl) rfl
theorem q3_49 : (Jvm.Cond.instanceMethod ({ cls := "LeanTower$Person", name := "stride", desc := "()I" } : Jvm.MethodName)) ∈ WA := wa_of (mt_3 (i := 49) rfl) rfl
theorem q3_50 : (Jvm.Cond.sameMethod "LeanTower$Person" "LeanTower$Person" "stride" "()I") ∈ WA := wa_of (mt_3 (i := 50) rfl) rfl
theorem q3_51 : (Jvm.Cond.selects "LeanTower$Bishop" ({ cls := "LeanTower$Person", name := "stride", desc := "()I" } : Jvm.MethodName) ({ cls := "LeanTower$Bishop", name := "stride", desc := "()I" } : Jvm.MethodName)) ∈ WA := wa_of (mt_3 (i := 51) rfl) rfl
theorem q3_52 : (Jvm.Cond.instanceMethod ({ cls := "LeanTower$Bishop", name := "stride", desc := "()I" } : Jvm.MethodName)) ∈ WA := wa_of (mt_3 (i := 52) rfl) rfl
theorem q3_53 : (Jvm.Cond.code ({ cls := "LeanTower$Bishop", name := "stride", desc := "()I" } : Jvm.MethodName) prog_3_method_3_code (1 : Nat) (Option.some Jvm.ClassFile.FieldType.int)) ∈ WA := wa_of (mt_3 (i := 53) rfl) rfl
theorem q3_54 : (Jvm.Cond.selects "LeanTower$Boy" ({ cls := "LeanTower$Person", name := "stride", desc := "()I" } : Jvm.MethodName) ({ cls := "LeanTower$Person", name := "stride", desc := "()I" } : Jvm.MethodName)) ∈ WA := wa_of (mt_3 (i := 54) rfl) rfl
theorem q3_55 : (Jvm.Cond.selects "LeanTower$Monk" ({ cls := "LeanTower$Person", name := "stride", desc := "()I" } : Jvm.MethodName) ({ cls := "LeanTower$Monk", name := "stride", desc := "()I" } : Jvm.MethodName)) ∈ WA := wa_of (mt_3 (i := 55) rfl) rfl
theorem q3_56 : (Jvm.Cond.instanceMethod ({ cls := "LeanTower$Monk", name := "stride", desc := "()I" } : Jvm.MethodName)) ∈ WA := wa_of (mt_3 (i := 56) rfl) rfl
theorem q3_57 : (Jvm.Cond.code ({ cls := "LeanTower$Monk", name := "stride", desc := "()I" } : Jvm.MethodName) prog_5_method_3_code (1 : Nat) (Option.some Jvm.ClassFile.FieldType.int)) ∈ WA := wa_of (mt_3 (i := 57) rfl) rfl
theorem q3_58 : (Jvm.Cond.selects "LeanTower$Pilgrim" ({ cls := "LeanTower$Person", name := "stride", desc := "()I" } : Jvm.MethodName) ({ cls := "LeanTower$Person", name := "stride", desc := "()I" } : Jvm.MethodName)) ∈ WA := wa_of (mt_3 (i := 58) rfl) rfl
theorem q3_59 : (Jvm.Cond.selects "LeanTower$Widow" ({ cls := "LeanTower$Person", name := "stride", desc := "()I" } : Jvm.MethodName) ({ cls := "LeanTower$Person", name := "stride", desc := "()I" } : Jvm.MethodName)) ∈ WA := wa_of (mt_3 (i := 59) rfl) rfl
theorem q3_60 : (Jvm.Cond.code ({ cls := "LeanTower$Person", name := "stride", desc := "()I" } : Jvm.MethodName) prog_6_method_3_code (1 : Nat) (Option.some Jvm.ClassFile.FieldType.int)) ∈ WA := wa_of (mt_3 (i := 60) rfl) rfl
theorem q3_61 : (Jvm.Cond.methodLink "LeanTower$Tower" (93 : Nat) ({ cls := "LeanTower$Tower", name := "move", desc := "(II)V" } : Jvm.MethodName)) ∈ WA := wa_of (mt_3 (i := 61) rfl) rfl
theorem q3_62 : (Jvm.Cond.privateMethod ({ cls := "LeanTower$Tower", name := "move", desc := "(II)V" } : Jvm.MethodName)) ∈ lw_tbl := mt_3 (i := 62) rfl
theorem q3_63 : (Jvm.Cond.instanceMethod ({ cls := "LeanTower$Tower", name := "move", desc := "(II)V" } : Jvm.MethodName)) ∈ WA := wa_of (mt_3 (i := 63) rfl) rfl
theorem q3_64 : (Jvm.Cond.code ({ cls := "LeanTower$Tower", name := "move", desc := "(II)V" } : Jvm.MethodName) prog_10_method_19_code (5 : Nat) (Option.none : Option Jvm.ClassFile.FieldType)) ∈ WA := wa_of (mt_3 (i := 64) rfl) rfl
theorem q3_65 : (Jvm.Cond.methodLink "LeanTower$Tower" (76 : Nat) ({ cls := "java/lang/Math", name := "abs", desc := "(I)I" } : Jvm.MethodName)) ∈ WA := wa_of (mt_3 (i := 65) rfl) rfl
theorem q3_66 : (Jvm.Cond.static ({ cls := "java/lang/Math", name := "abs", desc := "(I)I" } : Jvm.MethodName)) ∈ WA := wa_of (mt_3 (i := 66) rfl) rfl
theorem q3_67 : (Jvm.Cond.code ({ cls := "java/lang/Math", name := "abs", desc := "(I)I" } : Jvm.MethodName) prog_16_method_59_code (1 : Nat) (Option.some Jvm.ClassFile.FieldType.int)) ∈ WA := wa_of (mt_3 (i := 67) rfl) rfl
theorem q3_68 : (Jvm.Cond.methodLink "LeanTower$Tower" (97 : Nat) ({ cls := "java/lang/Math", name := "min", desc := "(II)I" } : Jvm.MethodName)) ∈ WA := wa_of (mt_3 (i := 68) rfl) rfl
theorem q3_69 : (Jvm.Cond.static ({ cls := "java/lang/Math", name := "min", desc := "(II)I" } : Jvm.MethodName)) ∈ WA := wa_of (mt_3 (i := 69) rfl) rfl
theorem q3_70 : (Jvm.Cond.code ({ cls := "java/lang/Math", name := "min", desc := "(II)I" } : Jvm.MethodName) prog_16_method_69_code (2 : Nat) (Option.some Jvm.ClassFile.FieldType.int)) ∈ WA := wa_of (mt_3 (i := 70) rfl) rfl
theorem q3_71 : (Jvm.Cond.methodLink "LeanTower" (164 : Nat) ({ cls := "LeanTower$Tower", name := "isBeyond", desc := "()Z" } : Jvm.MethodName)) ∈ WA := wa_of (mt_3 (i := 71) rfl) rfl
theorem q3_72 : (Jvm.Cond.instanceMethod ({ cls := "LeanTower$Tower", name := "isBeyond", desc := "()Z" } : Jvm.MethodName)) ∈ WA := wa_of (mt_3 (i := 72) rfl) rfl
theorem q3_73 : (Jvm.Cond.selects "LeanTower$Tower" ({ cls := "LeanTower$Tower", name := "isBeyond", desc := "()Z" } : Jvm.MethodName) ({ cls := "LeanTower$Tower", name := "isBeyond", desc := "()Z" } : Jvm.MethodName)) ∈ WA := wa_of (mt_3 (i := 73) rfl) rfl
theorem q3_74 : (Jvm.Cond.code ({ cls := "LeanTower$Tower", name := "isBeyond", desc := "()Z" } : Jvm.MethodName) prog_10_method_17_code (1 : Nat) (Option.some Jvm.ClassFile.FieldType.boolean)) ∈ WA := wa_of (mt_3 (i := 74) rfl) rfl
theorem q3_75 : (Jvm.Cond.methodLink "LeanTower$Tower" (84 : Nat) ({ cls := "LeanTower$Tower", name := "tiltWith", desc := "(I)I" } : Jvm.MethodName)) ∈ WA := wa_of (mt_3 (i := 75) rfl) rfl
theorem q3_76 : (Jvm.Cond.instanceMethod ({ cls := "LeanTower$Tower", name := "tiltWith", desc := "(I)I" } : Jvm.MethodName)) ∈ WA := wa_of (mt_3 (i := 76) rfl) rfl
theorem q3_77 : (Jvm.Cond.selects "LeanTower$Tower" ({ cls := "LeanTower$Tower", name := "tiltWith", desc := "(I)I" } : Jvm.MethodName) ({ cls := "LeanTower$Tower", name := "tiltWith", desc := "(I)I" } : Jvm.MethodName)) ∈ WA := wa_of (mt_3 (i := 77) rfl) rfl
theorem q3_78 : (Jvm.Cond.code ({ cls := "LeanTower$Tower", name := "tiltWith", desc := "(I)I" } : Jvm.MethodName) prog_10_method_16_code (2 : Nat) (Option.some Jvm.ClassFile.FieldType.int)) ∈ WA := wa_of (mt_3 (i := 78) rfl) rfl
theorem q3_79 : (Jvm.Cond.methodLink "LeanTower$Tower" (72 : Nat) ({ cls := "LeanTower$Tower", name := "leanWith", desc := "(II)I" } : Jvm.MethodName)) ∈ WA := wa_of (mt_3 (i := 79) rfl) rfl
theorem q3_80 : (Jvm.Cond.instanceMethod ({ cls := "LeanTower$Tower", name := "leanWith", desc := "(II)I" } : Jvm.MethodName)) ∈ WA := wa_of (mt_3 (i := 80) rfl) rfl
theorem q3_81 : (Jvm.Cond.selects "LeanTower$Tower" ({ cls := "LeanTower$Tower", name := "leanWith", desc := "(II)I" } : Jvm.MethodName) ({ cls := "LeanTower$Tower", name := "leanWith", desc := "(II)I" } : Jvm.MethodName)) ∈ WA := wa_of (mt_3 (i := 81) rfl) rfl
theorem q3_82 : (Jvm.Cond.code ({ cls := "LeanTower$Tower", name := "leanWith", desc := "(II)I" } : Jvm.MethodName) prog_10_method_15_code (6 : Nat) (Option.some Jvm.ClassFile.FieldType.int)) ∈ WA := wa_of (mt_3 (i := 82) rfl) rfl
theorem q3_83 : (Jvm.Cond.methodLink "LeanTower$Tower" (61 : Nat) ({ cls := "LeanTower$Tower", name := "pull", desc := "(III)I" } : Jvm.MethodName)) ∈ WA := wa_of (mt_3 (i := 83) rfl) rfl
theorem q3_84 : (Jvm.Cond.static ({ cls := "LeanTower$Tower", name := "pull", desc := "(III)I" } : Jvm.MethodName)) ∈ WA := wa_of (mt_3 (i := 84) rfl) rfl
theorem q3_85 : (Jvm.Cond.code ({ cls := "LeanTower$Tower", name := "pull", desc := "(III)I" } : Jvm.MethodName) prog_10_method_14_code (3 : Nat) (Option.some Jvm.ClassFile.FieldType.int)) ∈ WA := wa_of (mt_3 (i := 85) rfl) rfl
theorem q3_86 : (Jvm.Cond.methodLink "LeanTower$Tower" (68 : Nat) ({ cls := "LeanTower$Tower", name := "sideOf", desc := "(I)I" } : Jvm.MethodName)) ∈ WA := wa_of (mt_3 (i := 86) rfl) rfl
theorem q3_87 : (Jvm.Cond.instanceMethod ({ cls := "LeanTower$Tower", name := "sideOf", desc := "(I)I" } : Jvm.MethodName)) ∈ WA := wa_of (mt_3 (i := 87) rfl) rfl
theorem q3_88 : (Jvm.Cond.selects "LeanTower$Tower" ({ cls := "LeanTower$Tower", name := "sideOf", desc := "(I)I" } : Jvm.MethodName) ({ cls := "LeanTower$Tower", name := "sideOf", desc := "(I)I" } : Jvm.MethodName)) ∈ WA := wa_of (mt_3 (i := 88) rfl) rfl
theorem q3_89 : (Jvm.Cond.code ({ cls := "LeanTower$Tower", name := "sideOf", desc := "(I)I" } : Jvm.MethodName) prog_10_method_13_code (3 : Nat) (Option.some Jvm.ClassFile.FieldType.int)) ∈ WA := wa_of (mt_3 (i := 89) rfl) rfl
theorem q3_90 : (Jvm.Cond.constant "LeanTower$Tower" (60 : Nat) (-1000000 : Int32)) ∈ WA := wa_of (mt_3 (i := 90) rfl) rfl
theorem q3_91 : (Jvm.Cond.methodLink "LeanTower$Tower" (81 : Nat) ({ cls := "java/lang/Math", name := "max", desc := "(II)I" } : Jvm.MethodName)) ∈ WA := wa_of (mt_3 (i := 91) rfl) rfl
theorem q3_92 : (Jvm.Cond.static ({ cls := "java/lang/Math", name := "max", desc := "(II)I" } : Jvm.MethodName)) ∈ WA := wa_of (mt_3 (i := 92) rfl) rfl
theorem q3_93 : (Jvm.Cond.code ({ cls := "java/lang/Math", name := "max", desc := "(II)I" } : Jvm.MethodName) prog_16_method_65_code (2 : Nat) (Option.some Jvm.ClassFile.FieldType.int)) ∈ WA := wa_of (mt_3 (i := 93) rfl) rfl
theorem q3_94 : (Jvm.Cond.methodLink "LeanTowerLaw" (61 : Nat) ({ cls := "LeanTower", name := "year", desc := "()I" } : Jvm.MethodName)) ∈ WA := wa_of (mt_3 (i := 94) rfl) rfl
theorem q3_95 : (Jvm.Cond.instanceMethod ({ cls := "LeanTower", name := "year", desc := "()I" } : Jvm.MethodName)) ∈ WA := wa_of (mt_3 (i := 95) rfl) rfl
theorem q3_96 : (Jvm.Cond.selects "LeanTower" ({ cls := "LeanTower", name := "year", desc := "()I" } : Jvm.MethodName) ({ cls := "LeanTower", name := "year", desc := "()I" } : Jvm.MethodName)) ∈ WA := wa_of (mt_3 (i := 96) rfl) rfl
theorem q3_97 : (Jvm.Cond.code ({ cls := "LeanTower", name := "year", desc := "()I" } : Jvm.MethodName) prog_1_method_12_code (1 : Nat) (Option.some Jvm.ClassFile.FieldType.int)) ∈ WA := wa_of (mt_3 (i := 97) rfl) rfl
theorem q3_98 : (Jvm.Cond.methodLink "LeanTower" (170 : Nat) ({ cls := "java/lang/Math", name := "abs", desc := "(I)I" } : Jvm.MethodName)) ∈ WA := wa_of (mt_3 (i := 98) rfl) rfl
theorem q3_99 : (Jvm.Cond.methodLink "LeanTower" (178 : Nat) ({ cls := "LeanTower$Tower", name := "passYear", desc := "()V" } : Jvm.MethodName)) ∈ WA := wa_of (mt_3 (i := 99) rfl) rfl
theorem q3_100 : (Jvm.Cond.instanceMethod ({ cls := "LeanTower$Tower", name := "passYear", desc := "()V" } : Jvm.MethodName)) ∈ WA := wa_of (mt_3 (i := 100) rfl) rfl
theorem q3_101 : (Jvm.Cond.selects "LeanTower$Tower" ({ cls := "LeanTower$Tower", name := "passYear", desc := "()V" } : Jvm.MethodName) ({ cls := "LeanTower$Tower", name := "passYear", desc := "()V" } : Jvm.MethodName)) ∈ WA := wa_of (mt_3 (i := 101) rfl) rfl
theorem q3_102 : (Jvm.Cond.code ({ cls := "LeanTower$Tower", name := "passYear", desc := "()V" } : Jvm.MethodName) prog_10_method_20_code (3 : Nat) (Option.none : Option Jvm.ClassFile.FieldType)) ∈ WA := wa_of (mt_3 (i := 102) rfl) rfl
theorem q3_103 : (Jvm.Cond.methodLink "LeanTowerLaw" (65 : Nat) ({ cls := "LeanTower", name := "undo", desc := "()I" } : Jvm.MethodName)) ∈ WA := wa_of (mt_3 (i := 103) rfl) rfl
theorem q3_104 : (Jvm.Cond.instanceMethod ({ cls := "LeanTower", name := "undo", desc := "()I" } : Jvm.MethodName)) ∈ WA := wa_of (mt_3 (i := 104) rfl) rfl
theorem q3_105 : (Jvm.Cond.selects "LeanTower" ({ cls := "LeanTower", name := "undo", desc := "()I" } : Jvm.MethodName) ({ cls := "LeanTower", name := "undo", desc := "()I" } : Jvm.MethodName)) ∈ WA := wa_of (mt_3 (i := 105) rfl) rfl
theorem q3_106 : (Jvm.Cond.code ({ cls := "LeanTower", name := "undo", desc := "()I" } : Jvm.MethodName) prog_1_method_13_code (1 : Nat) (Option.some Jvm.ClassFile.FieldType.int)) ∈ WA := wa_of (mt_3 (i := 106) rfl) rfl
theorem q3_107 : (Jvm.Cond.methodLink "LeanTowerLaw" (69 : Nat) ({ cls := "LeanTower", name := "person", desc := "(II)I" } : Jvm.MethodName)) ∈ WA := wa_of (mt_3 (i := 107) rfl) rfl
theorem q3_108 : (Jvm.Cond.instanceMethod ({ cls := "LeanTower", name := "person", desc := "(II)I" } : Jvm.MethodName)) ∈ WA := wa_of (mt_3 (i := 108) rfl) rfl
theorem q3_109 : (Jvm.Cond.selects "LeanTower" ({ cls := "LeanTower", name := "person", desc := "(II)I" } : Jvm.MethodName) ({ cls := "LeanTower", name := "person", desc := "(II)I" } : Jvm.MethodName)) ∈ WA := wa_of (mt_3 (i := 109) rfl) rfl
theorem q3_110 : (Jvm.Cond.code ({ cls := "LeanTower", name := "person", desc := "(II)I" } : Jvm.MethodName) prog_1_method_14_code (4 : Nat) (Option.some Jvm.ClassFile.FieldType.int)) ∈ WA := wa_of (mt_3 (i := 110) rfl) rfl
theorem q3_111 : (Jvm.Cond.methodLink "LeanTower" (184 : Nat) ({ cls := "LeanTower$Tower", name := "who", desc := "(I)LLeanTower$Person;" } : Jvm.MethodName)) ∈ WA := wa_of (mt_3 (i := 111) rfl) rfl
theorem q3_112 : (Jvm.Cond.instanceMethod ({ cls := "LeanTower$Tower", name := "who", desc := "(I)LLeanTower$Person;" } : Jvm.MethodName)) ∈ WA := wa_of (mt_3 (i := 112) rfl) rfl
theorem q3_113 : (Jvm.Cond.selects "LeanTower$Tower" ({ cls := "LeanTower$Tower", name := "who", desc := "(I)LLeanTower$Person;" } : Jvm.MethodName) ({ cls := "LeanTower$Tower", name := "who", desc := "(I)LLeanTower$Person;" } : Jvm.MethodName)) ∈ WA := wa_of (mt_3 (i := 113) rfl) rfl
theorem q3_114 : (Jvm.Cond.code ({ cls := "LeanTower$Tower", name := "who", desc := "(I)LLeanTower$Person;" } : Jvm.MethodName) prog_10_method_9_code (2 : Nat) (Option.some (Jvm.ClassFile.FieldType.object "LeanTower$Person"))) ∈ WA := wa_of (mt_3 (i := 114) rfl) rfl
theorem q3_115 : (Jvm.Cond.methodLink "LeanTower$Tower" (52 : Nat) ({ cls := "LeanTower$Tower", name := "hasPerson", desc := "(I)Z" } : Jvm.MethodName)) ∈ WA := wa_of (mt_3 (i := 115) rfl) rfl
theorem q3_116 : (Jvm.Cond.methodLink "LeanTower" (199 : Nat) ({ cls := "LeanTower$Tower", name := "sideOf", desc := "(I)I" } : Jvm.MethodName)) ∈ WA := wa_of (mt_3 (i := 116) rfl) rfl
theorem q3_117 : (Jvm.Cond.methodLink "LeanTowerLaw" (73 : Nat) ({ cls := "LeanTower", name := "lean", desc := "(I)I" } : Jvm.MethodName)) ∈ WA := wa_of (mt_3 (i := 117) rfl) rfl
theorem q3_118 : (Jvm.Cond.instanceMethod ({ cls := "LeanTower", name := "lean", desc := "(I)I" } : Jvm.MethodName)) ∈ WA := wa_of (mt_3 (i := 118) rfl) rfl
theorem q3_119 : (Jvm.Cond.selects "LeanTower" ({ cls := "LeanTower", name := "lean", desc := "(I)I" } : Jvm.MethodName) ({ cls := "LeanTower", name := "lean", desc := "(I)I" } : Jvm.MethodName)) ∈ WA := wa_of (mt_3 (i := 119) rfl) rfl
theorem q3_120 : (Jvm.Cond.code ({ cls := "LeanTower", name := "lean", desc := "(I)I" } : Jvm.MethodName) prog_1_method_15_code (2 : Nat) (Option.some Jvm.ClassFile.FieldType.int)) ∈ WA := wa_of (mt_3 (i := 120) rfl) rfl
theorem q3_121 : (Jvm.Cond.methodLink "LeanTower" (202 : Nat) ({ cls := "LeanTower$Tower", name := "leanWith", desc := "(II)I" } : Jvm.MethodName)) ∈ WA := wa_of (mt_3 (i := 121) rfl) rfl
theorem q3_122 : (Jvm.Cond.methodLink "LeanTowerLaw" (77 : Nat) ({ cls := "LeanTower", name := "worst", desc := "(I)I" } : Jvm.MethodName)) ∈ WA := wa_of (mt_3 (i := 122) rfl) rfl
theorem q3_123 : (Jvm.Cond.instanceMethod ({ cls := "LeanTower", name := "worst", desc := "(I)I" } : Jvm.MethodName)) ∈ WA := wa_of (mt_3 (i := 123) rfl) rfl
theorem q3_124 : (Jvm.Cond.selects "LeanTower" ({ cls := "LeanTower", name := "worst", desc := "(I)I" } : Jvm.MethodName) ({ cls := "LeanTower", name := "worst", desc := "(I)I" } : Jvm.MethodName)) ∈ WA := wa_of (mt_3 (i := 124) rfl) rfl
theorem q3_125 : (Jvm.Cond.code ({ cls := "LeanTower", name := "worst", desc := "(I)I" } : Jvm.MethodName) prog_1_method_16_code (2 : Nat) (Option.some Jvm.ClassFile.FieldType.int)) ∈ WA := wa_of (mt_3 (i := 125) rfl) rfl
theorem q3_126 : (Jvm.Cond.methodLink "LeanTower" (206 : Nat) ({ cls := "LeanTower$Tower", name := "worstOver", desc := "(I)I" } : Jvm.MethodName)) ∈ WA := wa_of (mt_3 (i := 126) rfl) rfl
theorem q3_127 : (Jvm.Cond.instanceMethod ({ cls := "LeanTower$Tower", name := "worstOver", desc := "(I)I" } : Jvm.MethodName)) ∈ WA := wa_of (mt_3 (i := 127) rfl) rfl
theorem q3_128 : (Jvm.Cond.selects "LeanTower$Tower" ({ cls := "LeanTower$Tower", name := "worstOver", desc := "(I)I" } : Jvm.MethodName) ({ cls := "LeanTower$Tower", name := "worstOver", desc := "(I)I" } : Jvm.MethodName)) ∈ WA := wa_of (mt_3 (i := 128) rfl) rfl
theorem q3_129 : (Jvm.Cond.code ({ cls := "LeanTower$Tower", name := "worstOver", desc := "(I)I" } : Jvm.MethodName) prog_10_method_21_code (4 : Nat) (Option.some Jvm.ClassFile.FieldType.int)) ∈ WA := wa_of (mt_3 (i := 129) rfl) rfl
theorem q3_130 : (Jvm.Cond.methodLink "LeanTower$Tower" (100 : Nat) ({ cls := "LeanTower$Tower", name := "passHalf", desc := "()V" } : Jvm.MethodName)) ∈ WA := wa_of (mt_3 (i := 130) rfl) rfl
theorem q3_131 : (Jvm.Cond.methodLink "LeanTower" (209 : Nat) ({ cls := "LeanTower$Tower", name := "firstBeyond", desc := "(I)I" } : Jvm.MethodName)) ∈ WA := wa_of (mt_3 (i := 131) rfl) rfl
theorem q3_132 : (Jvm.Cond.instanceMethod ({ cls := "LeanTower$Tower", name := "firstBeyond", desc := "(I)I" } : Jvm.MethodName)) ∈ WA := wa_of (mt_3 (i := 132) rfl) rfl
theorem q3_133 : (Jvm.Cond.selects "LeanTower$Tower" ({ cls := "LeanTower$Tower", name := "firstBeyond", desc := "(I)I" } : Jvm.MethodName) ({ cls := "LeanTower$Tower", name := "firstBeyond", desc := "(I)I" } : Jvm.MethodName)) ∈ WA := wa_of (mt_3 (i := 133) rfl) rfl
theorem q3_134 : (Jvm.Cond.code ({ cls := "LeanTower$Tower", name := "firstBeyond", desc := "(I)I" } : Jvm.MethodName) prog_10_method_22_code (3 : Nat) (Option.some Jvm.ClassFile.FieldType.int)) ∈ WA := wa_of (mt_3 (i := 134) rfl) rfl
theorem q3_135 : (Jvm.Cond.methodLink "LeanTower$Tower" (103 : Nat) ({ cls := "LeanTower$Tower", name := "isBeyond", desc := "()Z" } : Jvm.MethodName)) ∈ WA := wa_of (mt_3 (i := 135) rfl) rfl
theorem q3_136 : (Jvm.Cond.methodLink "LeanTowerLaw" (81 : Nat) ({ cls := "LeanTower", name := "most", desc := "()I" } : Jvm.MethodName)) ∈ WA := wa_of (mt_3 (i := 136) rfl) rfl
theorem q3_137 : (Jvm.Cond.instanceMethod ({ cls := "LeanTower", name := "most", desc := "()I" } : Jvm.MethodName)) ∈ WA := wa_of (mt_3 (i := 137) rfl) rfl
theorem q3_138 : (Jvm.Cond.selects "LeanTower" ({ cls := "LeanTower", name := "most", desc := "()I" } : Jvm.MethodName) ({ cls := "LeanTower", name := "most", desc := "()I" } : Jvm.MethodName)) ∈ WA := wa_of (mt_3 (i := 138) rfl) rfl
theorem q3_139 : (Jvm.Cond.code ({ cls := "LeanTower", name := "most", desc := "()I" } : Jvm.MethodName) prog_1_method_17_code (6 : Nat) (Option.some Jvm.ClassFile.FieldType.int)) ∈ WA := wa_of (mt_3 (i := 139) rfl) rfl
theorem q3_140 : (Jvm.Cond.methodLink "LeanTower" (212 : Nat) ({ cls := "LeanTower$Tower", name := "outsideSet", desc := "()I" } : Jvm.MethodName)) ∈ WA := wa_of (mt_3 (i := 140) rfl) rfl
theorem q3_141 : (Jvm.Cond.instanceMethod ({ cls := "LeanTower$Tower", name := "outsideSet", desc := "()I" } : Jvm.MethodName)) ∈ WA := wa_of (mt_3 (i := 141) rfl) rfl
theorem q3_142 : (Jvm.Cond.selects "LeanTower$Tower" ({ cls := "LeanTower$Tower", name := "outsideSet", desc := "()I" } : Jvm.MethodName) ({ cls := "LeanTower$Tower", name := "outsideSet", desc := "()I" } : Jvm.MethodName)) ∈ WA := wa_of (mt_3 (i := 142) rfl) rfl
theorem q3_143 : (Jvm.Cond.code ({ cls := "LeanTower$Tower", name := "outsideSet", desc := "()I" } : Jvm.MethodName) prog_10_method_11_code (3 : Nat) (Option.some Jvm.ClassFile.FieldType.int)) ∈ WA := wa_of (mt_3 (i := 143) rfl) rfl
theorem q3_144 : (Jvm.Cond.methodLink "LeanTower" (216 : Nat) ({ cls := "java/lang/Integer", name := "bitCount", desc := "(I)I" } : Jvm.MethodName)) ∈ WA := wa_of (mt_3 (i := 144) rfl) rfl
theorem q3_145 : (Jvm.Cond.static ({ cls := "java/lang/Integer", name := "bitCount", desc := "(I)I" } : Jvm.MethodName)) ∈ WA := wa_of (mt_3 (i := 145) rfl) rfl
theorem q3_146 : (Jvm.Cond.code ({ cls := "java/lang/Integer", name := "bitCount", desc := "(I)I" } : Jvm.MethodName) prog_15_method_49_code (1 : Nat) (Option.some Jvm.ClassFile.FieldType.int)) ∈ WA := wa_of (mt_3 (i := 146) rfl) rfl
theorem q3_147 : (Jvm.Cond.constant "java/lang/Integer" (265 : Nat) (1431655765 : Int32)) ∈ WA := wa_of (mt_3 (i := 147) rfl) rfl
theorem q3_148 : (Jvm.Cond.constant "java/lang/Integer" (266 : Nat) (858993459 : Int32)) ∈ WA := wa_of (mt_3 (i := 148) rfl) rfl
theorem q3_149 : (Jvm.Cond.constant "java/lang/Integer" (267 : Nat) (252645135 : Int32)) ∈ WA := wa_of (mt_3 (i := 149) rfl) rfl
theorem q3_150 : (Jvm.Cond.methodLink "LeanTower" (221 : Nat) ({ cls := "LeanTower", name := "mayGoUp", desc := "(I)Z" } : Jvm.MethodName)) ∈ WA := wa_of (mt_3 (i := 150) rfl) rfl
theorem q3_151 : (Jvm.Cond.privateMethod ({ cls := "LeanTower", name := "mayGoUp", desc := "(I)Z" } : Jvm.MethodName)) ∈ lw_tbl := mt_3 (i := 151) rfl
theorem q3_152 : (Jvm.Cond.instanceMethod ({ cls := "LeanTower", name := "mayGoUp", desc := "(I)Z" } : Jvm.MethodName)) ∈ WA := wa_of (mt_3 (i := 152) rfl) rfl
theorem q3_153 : (Jvm.Cond.code ({ cls := "LeanTower", name := "mayGoUp", desc := "(I)Z" } : Jvm.MethodName) prog_1_method_37_code (3 : Nat) (Option.some Jvm.ClassFile.FieldType.boolean)) ∈ WA := wa_of (mt_3 (i := 153) rfl) rfl
theorem q3_154 : (Jvm.Cond.methodLink "LeanTowerLaw" (85 : Nat) ({ cls := "LeanTower", name := "two", desc := "(III)I" } : Jvm.MethodName)) ∈ WA := wa_of (mt_3 (i := 154) rfl) rfl
theorem q3_155 : (Jvm.Cond.instanceMethod ({ cls := "LeanTower", name := "two", desc := "(III)I" } : Jvm.MethodName)) ∈ WA := wa_of (mt_3 (i := 155) rfl) rfl
theorem q3_156 : (Jvm.Cond.selects "LeanTower" ({ cls := "LeanTower", name := "two", desc := "(III)I" } : Jvm.MethodName) ({ cls := "LeanTower", name := "two", desc := "(III)I" } : Jvm.MethodName)) ∈ WA := wa_of (mt_3 (i := 156) rfl) rfl
theorem q3_157 : (Jvm.Cond.code ({ cls := "LeanTower", name := "two", desc := "(III)I" } : Jvm.MethodName) prog_1_method_18_code (8 : Nat) (Option.some Jvm.ClassFile.FieldType.int)) ∈ WA := wa_of (mt_3 (i := 157) rfl) rfl
theorem q3_158 : (Jvm.Cond.methodLink "LeanTower" (224 : Nat) ({ cls := "LeanTower$Tower", name := "isOutside", desc := "(I)Z" } : Jvm.MethodName)) ∈ WA := wa_of (mt_3 (i := 158) rfl) rfl
theorem q3_159 : (Jvm.Cond.instanceMethod ({ cls := "LeanTower$Tower", name := "isOutside", desc := "(I)Z" } : Jvm.MethodName)) ∈ WA := wa_of (mt_3 (i := 159) rfl) rfl
theorem q3_160 : (Jvm.Cond.selects "LeanTower$Tower" ({ cls := "LeanTower$Tower", name := "isOutside", desc := "(I)Z" } : Jvm.MethodName) ({ cls := "LeanTower$Tower", name := "isOutside", desc := "(I)Z" } : Jvm.MethodName)) ∈ WA := wa_of (mt_3 (i := 160) rfl) rfl
theorem q3_161 : (Jvm.Cond.code ({ cls := "LeanTower$Tower", name := "isOutside", desc := "(I)Z" } : Jvm.MethodName) prog_10_method_10_code (2 : Nat) (Option.some Jvm.ClassFile.FieldType.boolean)) ∈ WA := wa_of (mt_3 (i := 161) rfl) rfl
theorem q3_162 : (Jvm.Cond.methodLink "LeanTower" (227 : Nat) ({ cls := "LeanTower", name := "worstOfTwo", desc := "(III)I" } : Jvm.MethodName)) ∈ WA := wa_of (mt_3 (i := 162) rfl) rfl
theorem q3_163 : (Jvm.Cond.privateMethod ({ cls := "LeanTower", name := "worstOfTwo", desc := "(III)I" } : Jvm.MethodName)) ∈ lw_tbl := mt_3 (i := 163) rfl
theorem q3_164 : (Jvm.Cond.instanceMethod ({ cls := "LeanTower", name := "worstOfTwo", desc := "(III)I" } : Jvm.MethodName)) ∈ WA := wa_of (mt_3 (i := 164) rfl) rfl
theorem q3_165 : (Jvm.Cond.code ({ cls := "LeanTower", name := "worstOfTwo", desc := "(III)I" } : Jvm.MethodName) prog_1_method_38_code (5 : Nat) (Option.some Jvm.ClassFile.FieldType.int)) ∈ WA := wa_of (mt_3 (i := 165) rfl) rfl
theorem q3_166 : (Jvm.Cond.methodLink "LeanTower" (301 : Nat) ({ cls := "java/lang/Math", name := "max", desc := "(II)I" } : Jvm.MethodName)) ∈ WA := wa_of (mt_3 (i := 166) rfl) rfl
theorem q3_167 : (Jvm.Cond.methodLink "LeanTowerLaw" (89 : Nat) ({ cls := "LeanTower", name := "stones", desc := "(I)I" } : Jvm.MethodName)) ∈ WA := wa_of (mt_3 (i := 167) rfl) rfl
theorem q3_168 : (Jvm.Cond.instanceMethod ({ cls := "LeanTower", name := "stones", desc := "(I)I" } : Jvm.MethodName)) ∈ WA := wa_of (mt_3 (i := 168) rfl) rfl
theorem q3_169 : (Jvm.Cond.selects "LeanTower" ({ cls := "LeanTower", name := "stones", desc := "(I)I" } : Jvm.MethodName) ({ cls := "LeanTower", name := "stones", desc := "(I)I" } : Jvm.MethodName)) ∈ WA := wa_of (mt_3 (i := 169) rfl) rfl
theorem q3_170 : (Jvm.Cond.code ({ cls := "LeanTower", name := "stones", desc := "(I)I" } : Jvm.MethodName) prog_1_method_19_code (7 : Nat) (Option.some Jvm.ClassFile.FieldType.int)) ∈ WA := wa_of (mt_3 (i := 170) rfl) rfl
theorem q3_171 : (Jvm.Cond.methodLink "LeanTower" (231 : Nat) ({ cls := "LeanTower", name := "measureReach", desc := "()V" } : Jvm.MethodName)) ∈ WA := wa_of (mt_3 (i := 171) rfl) rfl
theorem q3_172 : (Jvm.Cond.privateMethod ({ cls := "LeanTower", name := "measureReach", desc := "()V" } : Jvm.MethodName)) ∈ lw_tbl := mt_3 (i := 172) rfl
theorem q3_173 : (Jvm.Cond.instanceMethod ({ cls := "LeanTower", name := "measureReach", desc := "()V" } : Jvm.MethodName)) ∈ WA := wa_of (mt_3 (i := 173) rfl) rfl
theorem q3_174 : (Jvm.Cond.code ({ cls := "LeanTower", name := "measureReach", desc := "()V" } : Jvm.MethodName) prog_1_method_39_code (4 : Nat) (Option.none : Option Jvm.ClassFile.FieldType)) ∈ WA := wa_of (mt_3 (i := 174) rfl) rfl
theorem q3_175 : (Jvm.Cond.methodLink "LeanTower" (237 : Nat) ({ cls := "LeanTower", name := "worstOfHanging", desc := "(I)I" } : Jvm.MethodName)) ∈ WA := wa_of (mt_3 (i := 175) rfl) rfl
theorem q3_176 : (Jvm.Cond.privateMethod ({ cls := "LeanTower", name := "worstOfHanging", desc := "(I)I" } : Jvm.MethodName)) ∈ lw_tbl := mt_3 (i := 176) rfl
theorem q3_177 : (Jvm.Cond.instanceMethod ({ cls := "LeanTower", name := "worstOfHanging", desc := "(I)I" } : Jvm.MethodName)) ∈ WA := wa_of (mt_3 (i := 177) rfl) rfl
theorem q3_178 : (Jvm.Cond.code ({ cls := "LeanTower", name := "worstOfHanging", desc := "(I)I" } : Jvm.MethodName) prog_1_method_40_code (6 : Nat) (Option.some Jvm.ClassFile.FieldType.int)) ∈ WA := wa_of (mt_3 (i := 178) rfl) rfl
theorem q3_179 : (Jvm.Cond.methodLink "LeanTower" (240 : Nat) ({ cls := "LeanTower", name := "sideIn", desc := "(II)I" } : Jvm.MethodName)) ∈ WA := wa_of (mt_3 (i := 179) rfl) rfl
theorem q3_180 : (Jvm.Cond.privateMethod ({ cls := "LeanTower", name := "sideIn", desc := "(II)I" } : Jvm.MethodName)) ∈ lw_tbl := mt_3 (i := 180) rfl
theorem q3_181 : (Jvm.Cond.instanceMethod ({ cls := "LeanTower", name := "sideIn", desc := "(II)I" } : Jvm.MethodName)) ∈ WA := wa_of (mt_3 (i := 181) rfl) rfl
theorem q3_182 : (Jvm.Cond.code ({ cls := "LeanTower", name := "sideIn", desc := "(II)I" } : Jvm.MethodName) prog_1_method_41_code (3 : Nat) (Option.some Jvm.ClassFile.FieldType.int)) ∈ WA := wa_of (mt_3 (i := 182) rfl) rfl
theorem q3_183 : (Jvm.Cond.methodLink "LeanTower" (307 : Nat) ({ cls := "LeanTower$Tower", name := "pull", desc := "(III)I" } : Jvm.MethodName)) ∈ WA := wa_of (mt_3 (i := 183) rfl) rfl
theorem q3_184 : (Jvm.Cond.methodLink "LeanTowerLaw" (93 : Nat) ({ cls := "LeanTower", name := "marks", desc := "(IIII)I" } : Jvm.MethodName)) ∈ WA := wa_of (mt_3 (i := 184) rfl) rfl
theorem q3_185 : (Jvm.Cond.instanceMethod ({ cls := "LeanTower", name := "marks", desc := "(IIII)I" } : Jvm.MethodName)) ∈ WA := wa_of (mt_3 (i := 185) rfl) rfl
theorem q3_186 : (Jvm.Cond.selects "LeanTower" ({ cls := "LeanTower", name := "marks", desc := "(IIII)I" } : Jvm.MethodName) ({ cls := "LeanTower", name := "marks", desc := "(IIII)I" } : Jvm.MethodName)) ∈ WA := wa_of (mt_3 (i := 186) rfl) rfl
theorem q3_187 : (Jvm.Cond.code ({ cls := "LeanTower", name := "marks", desc := "(IIII)I" } : Jvm.MethodName) prog_1_method_20_code (6 : Nat) (Option.some Jvm.ClassFile.FieldType.int)) ∈ WA := wa_of (mt_3 (i := 187) rfl) rfl
theorem q3_188 : (Jvm.Cond.methodLink "LeanTower" (243 : Nat) ({ cls := "LeanTower", name := "isMark", desc := "(I)Z" } : Jvm.MethodName)) ∈ WA := wa_of (mt_3 (i := 188) rfl) rfl
theorem q3_189 : (Jvm.Cond.static ({ cls := "LeanTower", name := "isMark", desc := "(I)Z" } : Jvm.MethodName)) ∈ WA := wa_of (mt_3 (i := 189) rfl) rfl
theorem q3_190 : (Jvm.Cond.code ({ cls := "LeanTower", name := "isMark", desc := "(I)Z" } : Jvm.MethodName) prog_1_method_42_code (1 : Nat) (Option.some Jvm.ClassFile.FieldType.boolean)) ∈ WA := wa_of (mt_3 (i := 190) rfl) rfl
theorem q3_191 : (Jvm.Cond.methodLink "LeanTower" (249 : Nat) ({ cls := "LeanTower$Row", name := "holds", desc := "(III)Z" } : Jvm.MethodName)) ∈ WA := wa_of (mt_3 (i := 191) rfl) rfl
theorem q3_192 : (Jvm.Cond.instanceMethod ({ cls := "LeanTower$Row", name := "holds", desc := "(III)Z" } : Jvm.MethodName)) ∈ WA := wa_of (mt_3 (i := 192) rfl) rfl
theorem q3_193 : (Jvm.Cond.selects "LeanTower$Row" ({ cls := "LeanTower$Row", name := "holds", desc := "(III)Z" } : Jvm.MethodName) ({ cls := "LeanTower$Row", name := "holds", desc := "(III)Z" } : Jvm.MethodName)) ∈ WA := wa_of (mt_3 (i := 193) rfl) rfl
theorem q3_194 : (Jvm.Cond.code ({ cls := "LeanTower$Row", name := "holds", desc := "(III)Z" } : Jvm.MethodName) prog_9_method_7_code (5 : Nat) (Option.some Jvm.ClassFile.FieldType.boolean)) ∈ WA := wa_of (mt_3 (i := 194) rfl) rfl
theorem q3_195 : (Jvm.Cond.methodLink "LeanTower" (253 : Nat) ({ cls := "LeanTower", name := "setThatMakes", desc := "(III)I" } : Jvm.MethodName)) ∈ WA := wa_of (mt_3 (i := 195) rfl) rfl
theorem q3_196 : (Jvm.Cond.privateMethod ({ cls := "LeanTower", name := "setThatMakes", desc := "(III)I" } : Jvm.MethodName)) ∈ lw_tbl := mt_3 (i := 196) rfl
theorem q3_197 : (Jvm.Cond.instanceMethod ({ cls := "LeanTower", name := "setThatMakes", desc := "(III)I" } : Jvm.MethodName)) ∈ WA := wa_of (mt_3 (i := 197) rfl) rfl
theorem q3_198 : (Jvm.Cond.code ({ cls := "LeanTower", name := "setThatMakes", desc := "(III)I" } : Jvm.MethodName) prog_1_method_43_code (6 : Nat) (Option.some Jvm.ClassFile.FieldType.int)) ∈ WA := wa_of (mt_3 (i := 198) rfl) rfl
theorem q3_199 : (Jvm.Cond.methodLink "LeanTowerLaw" (98 : Nat) ({ cls := "LeanTower", name := "rescue", desc := "(I)I" } : Jvm.MethodName)) ∈ WA := wa_of (mt_3 (i := 199) rfl) rfl
theorem q3_200 : (Jvm.Cond.instanceMethod ({ cls := "LeanTower", name := "rescue", desc := "(I)I" } : Jvm.MethodName)) ∈ WA := wa_of (mt_3 (i := 200) rfl) rfl
theorem q3_201 : (Jvm.Cond.selects "LeanTower" ({ cls := "LeanTower", name := "rescue", desc := "(I)I" } : Jvm.MethodName) ({ cls := "LeanTower", name := "rescue", desc := "(I)I" } : Jvm.MethodName)) ∈ WA := wa_of (mt_3 (i := 201) rfl) rfl
theorem q3_202 : (Jvm.Cond.code ({ cls := "LeanTower", name := "rescue", desc := "(I)I" } : Jvm.MethodName) prog_1_method_21_code (5 : Nat) (Option.some Jvm.ClassFile.FieldType.int)) ∈ WA := wa_of (mt_3 (i := 202) rfl) rfl
theorem q3_203 : (Jvm.Cond.methodLink "LeanTower" (256 : Nat) ({ cls := "LeanTower$Tower", name := "insideSet", desc := "()I" } : Jvm.MethodName)) ∈ WA := wa_of (mt_3 (i := 203) rfl) rfl
theorem q3_204 : (Jvm.Cond.instanceMethod ({ cls := "LeanTower$Tower", name := "insideSet", desc := "()I" } : Jvm.MethodName)) ∈ WA := wa_of (mt_3 (i := 204) rfl) rfl
theorem q3_205 : (Jvm.Cond.selects "LeanTower$Tower" ({ cls := "LeanTower$Tower", name := "insideSet", desc := "()I" } : Jvm.MethodName) ({ cls := "LeanTower$Tower", name := "insideSet", desc := "()I" } : Jvm.MethodName)) ∈ WA := wa_of (mt_3 (i := 205) rfl) rfl
theorem q3_206 : (Jvm.Cond.code ({ cls := "LeanTower$Tower", name := "insideSet", desc := "()I" } : Jvm.MethodName) prog_10_method_12_code (1 : Nat) (Option.some Jvm.ClassFile.FieldType.int)) ∈ WA := wa_of (mt_3 (i := 206) rfl) rfl
theorem q3_207 : (Jvm.Cond.methodLink "LeanTower$Tower" (56 : Nat) ({ cls := "LeanTower$Tower", name := "outsideSet", desc := "()I" } : Jvm.MethodName)) ∈ WA := wa_of (mt_3 (i := 207) rfl) rfl
theorem q3_208 : (Jvm.Cond.methodLink "LeanTower" (259 : Nat) ({ cls := "LeanTower", name := "findRescuable", desc := "(I)V" } : Jvm.MethodName)) ∈ WA := wa_of (mt_3 (i := 208) rfl) rfl
theorem q3_209 : (Jvm.Cond.privateMethod ({ cls := "LeanTower", name := "findRescuable", desc := "(I)V" } : Jvm.MethodName)) ∈ lw_tbl := mt_3 (i := 209) rfl
theorem q3_210 : (Jvm.Cond.instanceMethod ({ cls := "LeanTower", name := "findRescuable", desc := "(I)V" } : Jvm.MethodName)) ∈ WA := wa_of (mt_3 (i := 210) rfl) rfl
theorem q3_211 : (Jvm.Cond.code ({ cls := "LeanTower", name := "findRescuable", desc := "(I)V" } : Jvm.MethodName) prog_1_method_44_code (4 : Nat) (Option.none : Option Jvm.ClassFile.FieldType)) ∈ WA := wa_of (mt_3 (i := 211) rfl) rfl
theorem q3_212 : (Jvm.Cond.methodLink "LeanTower" (310 : Nat) ({ cls := "LeanTower$Tower", name := "tiltWith", desc := "(I)I" } : Jvm.MethodName)) ∈ WA := wa_of (mt_3 (i := 212) rfl) rfl
theorem q3_213 : (Jvm.Cond.methodLink "LeanTower" (263 : Nat) ({ cls := "LeanTower", name := "nextOut", desc := "(I)I" } : Jvm.MethodName)) ∈ WA := wa_of (mt_3 (i := 213) rfl) rfl
theorem q3_214 : (Jvm.Cond.privateMethod ({ cls := "LeanTower", name := "nextOut", desc := "(I)I" } : Jvm.MethodName)) ∈ lw_tbl := mt_3 (i := 214) rfl
theorem q3_215 : (Jvm.Cond.instanceMethod ({ cls := "LeanTower", name := "nextOut", desc := "(I)I" } : Jvm.MethodName)) ∈ WA := wa_of (mt_3 (i := 215) rfl) rfl
theorem q3_216 : (Jvm.Cond.code ({ cls := "LeanTower", name := "nextOut", desc := "(I)I" } : Jvm.MethodName) prog_1_method_45_code (3 : Nat) (Option.some Jvm.ClassFile.FieldType.int)) ∈ WA := wa_of (mt_3 (i := 216) rfl) rfl
theorem q3_217 : (Jvm.Cond.methodLink "LeanTowerLaw" (102 : Nat) ({ cls := "LeanTower", name := "fall", desc := "()I" } : Jvm.MethodName)) ∈ WA := wa_of (mt_3 (i := 217) rfl) rfl
theorem q3_218 : (Jvm.Cond.instanceMethod ({ cls := "LeanTower", name := "fall", desc := "()I" } : Jvm.MethodName)) ∈ WA := wa_of (mt_3 (i := 218) rfl) rfl
theorem q3_219 : (Jvm.Cond.selects "LeanTower" ({ cls := "LeanTower", name := "fall", desc := "()I" } : Jvm.MethodName) ({ cls := "LeanTower", name := "fall", desc := "()I" } : Jvm.MethodName)) ∈ WA := wa_of (mt_3 (i := 219) rfl) rfl
theorem q3_220 : (Jvm.Cond.code ({ cls := "LeanTower", name := "fall", desc := "()I" } : Jvm.MethodName) prog_1_method_22_code (2 : Nat) (Option.some Jvm.ClassFile.FieldType.int)) ∈ WA := wa_of (mt_3 (i := 220) rfl) rfl
theorem q3_221 : (Jvm.Cond.methodLink "LeanTowerLaw" (106 : Nat) ({ cls := "LeanTower", name := "bells", desc := "(III)I" } : Jvm.MethodName)) ∈ WA := wa_of (mt_3 (i := 221) rfl) rfl
theorem q3_222 : (Jvm.Cond.instanceMethod ({ cls := "LeanTower", name := "bells", desc := "(III)I" } : Jvm.MethodName)) ∈ WA := wa_of (mt_3 (i := 222) rfl) rfl
theorem q3_223 : (Jvm.Cond.selects "LeanTower" ({ cls := "LeanTower", name := "bells", desc := "(III)I" } : Jvm.MethodName) ({ cls := "LeanTower", name := "bells", desc := "(III)I" } : Jvm.MethodName)) ∈ WA := wa_of (mt_3 (i := 223) rfl) rfl
theorem q3_224 : (Jvm.Cond.code ({ cls := "LeanTower", name := "bells", desc := "(III)I" } : Jvm.MethodName) prog_1_method_23_code (5 : Nat) (Option.some Jvm.ClassFile.FieldType.int)) ∈ WA := wa_of (mt_3 (i := 224) rfl) rfl
theorem q3_225 : (Jvm.Cond.methodLink "LeanTower" (266 : Nat) ({ cls := "LeanTower$Bells", name := "findBest", desc := "([II)V" } : Jvm.MethodName)) ∈ WA := wa_of (mt_3 (i := 225) rfl) rfl
theorem q3_226 : (Jvm.Cond.instanceMethod ({ cls := "LeanTower$Bells", name := "findBest", desc := "([II)V" } : Jvm.MethodName)) ∈ WA := wa_of (mt_3 (i := 226) rfl) rfl
theorem q3_227 : (Jvm.Cond.selects "LeanTower$Bells" ({ cls := "LeanTower$Bells", name := "findBest", desc := "([II)V" } : Jvm.MethodName) ({ cls := "LeanTower$Bells", name := "findBest", desc := "([II)V" } : Jvm.MethodName)) ∈ WA := wa_of (mt_3 (i := 227) rfl) rfl
theorem q3_228 : (Jvm.Cond.code ({ cls := "LeanTower$Bells", name := "findBest", desc := "([II)V" } : Jvm.MethodName) prog_2_method_2_code (4 : Nat) (Option.none : Option Jvm.ClassFile.FieldType)) ∈ WA := wa_of (mt_3 (i := 228) rfl) rfl
theorem q3_229 : (Jvm.Cond.methodLink "LeanTower$Bells" (21 : Nat) ({ cls := "java/lang/Math", name := "min", desc := "(II)I" } : Jvm.MethodName)) ∈ WA := wa_of (mt_3 (i := 229) rfl) rfl
theorem q3_230 : (Jvm.Cond.methodLink "LeanTower$Bells" (34 : Nat) ({ cls := "LeanTower$Bells", name := "ringFrom", desc := "(IIII)V" } : Jvm.MethodName)) ∈ WA := wa_of (mt_3 (i := 230) rfl) rfl
theorem q3_231 : (Jvm.Cond.privateMethod ({ cls := "LeanTower$Bells", name := "ringFrom", desc := "(IIII)V" } : Jvm.MethodName)) ∈ lw_tbl := mt_3 (i := 231) rfl
theorem q3_232 : (Jvm.Cond.instanceMethod ({ cls := "LeanTower$Bells", name := "ringFrom", desc := "(IIII)V" } : Jvm.MethodName)) ∈ WA := wa_of (mt_3 (i := 232) rfl) rfl
theorem q3_233 : (Jvm.Cond.code ({ cls := "LeanTower$Bells", name := "ringFrom", desc := "(IIII)V" } : Jvm.MethodName) prog_2_method_3_code (8 : Nat) (Option.none : Option Jvm.ClassFile.FieldType)) ∈ WA := wa_of (mt_3 (i := 233) rfl) rfl
theorem q3_234 : (Jvm.Cond.methodLink "LeanTower$Bells" (38 : Nat) ({ cls := "java/lang/System", name := "arraycopy", desc := "(Ljava/lang/Object;ILjava/lang/Object;II)V" } : Jvm.MethodName)) ∈ WA := wa_of (mt_3 (i := 234) rfl) rfl
theorem q3_235 : (Jvm.Cond.methodLink "LeanTower$Bells" (44 : Nat) ({ cls := "java/lang/Math", name := "abs", desc := "(I)I" } : Jvm.MethodName)) ∈ WA := wa_of (mt_3 (i := 235) rfl) rfl
theorem q3_236 : (Jvm.Cond.methodLink "LeanTower$Bells" (48 : Nat) ({ cls := "java/lang/Math", name := "max", desc := "(II)I" } : Jvm.MethodName)) ∈ WA := wa_of (mt_3 (i := 236) rfl) rfl
theorem q3_237 : (Jvm.Cond.methodLink "LeanTowerLaw" (110 : Nat) ({ cls := "LeanTower", name := "image", desc := "(I)I" } : Jvm.MethodName)) ∈ WA := wa_of (mt_3 (i := 237) rfl) rfl
theorem q3_238 : (Jvm.Cond.instanceMethod ({ cls := "LeanTower", name := "image", desc := "(I)I" } : Jvm.MethodName)) ∈ WA := wa_of (mt_3 (i := 238) rfl) rfl
theorem q3_239 : (Jvm.Cond.selects "LeanTower" ({ cls := "LeanTower", name := "image", desc := "(I)I" } : Jvm.MethodName) ({ cls := "LeanTower", name := "image", desc := "(I)I" } : Jvm.MethodName)) ∈ WA := wa_of (mt_3 (i := 239) rfl) rfl
theorem q4_0 : (Jvm.Cond.code ({ cls := "LeanTower", name := "image", desc := "(I)I" } : Jvm.MethodName) prog_1_method_24_code (2 : Nat) (Option.some Jvm.ClassFile.FieldType.int)) ∈ WA := wa_of (mt_4 (i := 0) rfl) rfl
theorem q4_1 : (Jvm.Cond.methodLink "LeanTowerLaw" (114 : Nat) ({ cls := "LeanTower", name := "restore", desc := "(I)I" } : Jvm.MethodName)) ∈ WA := wa_of (mt_4 (i := 1) rfl) rfl
theorem q4_2 : (Jvm.Cond.instanceMethod ({ cls := "LeanTower", name := "restore", desc := "(I)I" } : Jvm.MethodName)) ∈ WA := wa_of (mt_4 (i := 2) rfl) rfl
theorem q4_3 : (Jvm.Cond.selects "LeanTower" ({ cls := "LeanTower", name := "restore", desc := "(I)I" } : Jvm.MethodName) ({ cls := "LeanTower", name := "restore", desc := "(I)I" } : Jvm.MethodName)) ∈ WA := wa_of (mt_4 (i := 3) rfl) rfl
theorem q4_4 : (Jvm.Cond.code ({ cls := "LeanTower", name := "restore", desc := "(I)I" } : Jvm.MethodName) prog_1_method_25_code (2 : Nat) (Option.some Jvm.ClassFile.FieldType.int)) ∈ WA := wa_of (mt_4 (i := 4) rfl) rfl
theorem q4_5 : (Jvm.Cond.methodLink "LeanTowerLaw" (118 : Nat) ({ cls := "LeanTower", name := "kind", desc := "(I)I" } : Jvm.MethodName)) ∈ WA := wa_of (mt_4 (i := 5) rfl) rfl
theorem q4_6 : (Jvm.Cond.instanceMethod ({ cls := "LeanTower", name := "kind", desc := "(I)I" } : Jvm.MethodName)) ∈ WA := wa_of (mt_4 (i := 6) rfl) rfl
theorem q4_7 : (Jvm.Cond.selects "LeanTower" ({ cls := "LeanTower", name := "kind", desc := "(I)I" } : Jvm.MethodName) ({ cls := "LeanTower", name := "kind", desc := "(I)I" } : Jvm.MethodName)) ∈ WA := wa_of (mt_4 (i := 7) rfl) rfl
theorem q4_8 : (Jvm.Cond.code ({ cls := "LeanTower", name := "kind", desc := "(I)I" } : Jvm.MethodName) prog_1_method_26_code (3 : Nat) (Option.some Jvm.ClassFile.FieldType.int)) ∈ WA := wa_of (mt_4 (i := 8) rfl) rfl
theorem q4_9 : (Jvm.Cond.methodLink "LeanTower" (276 : Nat) ({ cls := "LeanTower$Person", name := "ownKind", desc := "()I" } : Jvm.MethodName)) ∈ WA := wa_of (mt_4 (i := 9) rfl) rfl
theorem q4_10 : (Jvm.Cond.declares ({ cls := "LeanTower$Person", name := "ownKind", desc := "()I" } : Jvm.MethodName)) ∈ lw_tbl := mt_4 (i := 10) rfl
theorem q4_11 : (Jvm.Cond.sameMethod "LeanTower$Person" "LeanTower$Person" "ownKind" "()I") ∈ WA := wa_of (mt_4 (i := 11) rfl) rfl
theorem q4_12 : (Jvm.Cond.selects "LeanTower$Bishop" ({ cls := "LeanTower$Person", name := "ownKind", desc := "()I" } : Jvm.MethodName) ({ cls := "LeanTower$Bishop", name := "ownKind", desc := "()I" } : Jvm.MethodName)) ∈ WA := wa_of (mt_4 (i := 12) rfl) rfl
theorem q4_13 : (Jvm.Cond.instanceMethod ({ cls := "LeanTower$Bishop", name := "ownKind", desc := "()I" } : Jvm.MethodName)) ∈ WA := wa_of (mt_4 (i := 13) rfl) rfl
theorem q4_14 : (Jvm.Cond.code ({ cls := "LeanTower$Bishop", name := "ownKind", desc := "()I" } : Jvm.MethodName) prog_3_method_2_code (1 : Nat) (Option.some Jvm.ClassFile.FieldType.int)) ∈ WA := wa_of (mt_4 (i := 14) rfl) rfl
theorem q4_15 : (Jvm.Cond.selects "LeanTower$Boy" ({ cls := "LeanTower$Person", name := "ownKind", desc := "()I" } : Jvm.MethodName) ({ cls := "LeanTower$Boy", name := "ownKind", desc := "()I" } : Jvm.MethodName)) ∈ WA := wa_of (mt_4 (i := 15) rfl) rfl
theorem q4_16 : (Jvm.Cond.instanceMethod ({ cls := "LeanTower$Boy", name := "ownKind", desc := "()I" } : Jvm.MethodName)) ∈ WA := wa_of (mt_4 (i := 16) rfl) rfl
theorem q4_17 : (Jvm.Cond.code ({ cls := "LeanTower$Boy", name := "ownKind", desc := "()I" } : Jvm.MethodName) prog_4_method_2_code (1 : Nat) (Option.some Jvm.ClassFile.FieldType.int)) ∈ WA := wa_of (mt_4 (i := 17) rfl) rfl
theorem q4_18 : (Jvm.Cond.selects "LeanTower$Monk" ({ cls := "LeanTower$Person", name := "ownKind", desc := "()I" } : Jvm.MethodName) ({ cls := "LeanTower$Monk", name := "ownKind", desc := "()I" } : Jvm.MethodName)) ∈ WA := wa_of (mt_4 (i := 18) rfl) rfl
theorem q4_19 : (Jvm.Cond.instanceMethod ({ cls := "LeanTower$Monk", name := "ownKind", desc := "()I" } : Jvm.MethodName)) ∈ WA := wa_of (mt_4 (i := 19) rfl) rfl
theorem q4_20 : (Jvm.Cond.code ({ cls := "LeanTower$Monk", name := "ownKind", desc := "()I" } : Jvm.MethodName) prog_5_method_2_code (1 : Nat) (Option.some Jvm.ClassFile.FieldType.int)) ∈ WA := wa_of (mt_4 (i := 20) rfl) rfl
theorem q4_21 : (Jvm.Cond.selects "LeanTower$Pilgrim" ({ cls := "LeanTower$Person", name := "ownKind", desc := "()I" } : Jvm.MethodName) ({ cls := "LeanTower$Pilgrim", name := "ownKind", desc := "()I" } : Jvm.MethodName)) ∈ WA := wa_of (mt_4 (i := 21) rfl) rfl
theorem q4_22 : (Jvm.Cond.instanceMethod ({ cls := "LeanTower$Pilgrim", name := "ownKind", desc := "()I" } : Jvm.MethodName)) ∈ WA := wa_of (mt_4 (i := 22) rfl) rfl
theorem q4_23 : (Jvm.Cond.code ({ cls := "LeanTower$Pilgrim", name := "ownKind", desc := "()I" } : Jvm.MethodName) prog_7_method_2_code (1 : Nat) (Option.some Jvm.ClassFile.FieldType.int)) ∈ WA := wa_of (mt_4 (i := 23) rfl) rfl
theorem q4_24 : (Jvm.Cond.selects "LeanTower$Widow" ({ cls := "LeanTower$Person", name := "ownKind", desc := "()I" } : Jvm.MethodName) ({ cls := "LeanTower$Widow", name := "ownKind", desc := "()I" } : Jvm.MethodName)) ∈ WA := wa_of (mt_4 (i := 24) rfl) rfl
theorem q4_25 : (Jvm.Cond.instanceMethod ({ cls := "LeanTower$Widow", name := "ownKind", desc := "()I" } : Jvm.MethodName)) ∈ WA := wa_of (mt_4 (i := 25) rfl) rfl
theorem q4_26 : (Jvm.Cond.code ({ cls := "LeanTower$Widow", name := "ownKind", desc := "()I" } : Jvm.MethodName) prog_12_method_2_code (1 : Nat) (Option.some Jvm.ClassFile.FieldType.int)) ∈ WA := wa_of (mt_4 (i := 26) rfl) rfl
theorem q4_27 : (Jvm.Cond.methodLink "LeanTowerLaw" (122 : Nat) ({ cls := "LeanTower", name := "as", desc := "(II)I" } : Jvm.MethodName)) ∈ WA := wa_of (mt_4 (i := 27) rfl) rfl
theorem q4_28 : (Jvm.Cond.instanceMethod ({ cls := "LeanTower", name := "as", desc := "(II)I" } : Jvm.MethodName)) ∈ WA := wa_of (mt_4 (i := 28) rfl) rfl
theorem q4_29 : (Jvm.Cond.selects "LeanTower" ({ cls := "LeanTower", name := "as", desc := "(II)I" } : Jvm.MethodName) ({ cls := "LeanTower", name := "as", desc := "(II)I" } : Jvm.MethodName)) ∈ WA := wa_of (mt_4 (i := 29) rfl) rfl
theorem q4_30 : (Jvm.Cond.code ({ cls := "LeanTower", name := "as", desc := "(II)I" } : Jvm.MethodName) prog_1_method_27_code (4 : Nat) (Option.some Jvm.ClassFile.FieldType.int)) ∈ WA := wa_of (mt_4 (i := 30) rfl) rfl
theorem q4_31 : (Jvm.Cond.methodLink "LeanTower" (279 : Nat) ({ cls := "LeanTower", name := "isOne", desc := "(LLeanTower$Person;I)Z" } : Jvm.MethodName)) ∈ WA := wa_of (mt_4 (i := 31) rfl) rfl
theorem q4_32 : (Jvm.Cond.static ({ cls := "LeanTower", name := "isOne", desc := "(LLeanTower$Person;I)Z" } : Jvm.MethodName)) ∈ WA := wa_of (mt_4 (i := 32) rfl) rfl
theorem q4_33 : (Jvm.Cond.code ({ cls := "LeanTower", name := "isOne", desc := "(LLeanTower$Person;I)Z" } : Jvm.MethodName) prog_1_method_46_code (2 : Nat) (Option.some Jvm.ClassFile.FieldType.boolean)) ∈ WA := wa_of (mt_4 (i := 33) rfl) rfl
theorem q4_34 : (Jvm.Cond.classLink "LeanTower" (316 : Nat) "LeanTower$Pilgrim") ∈ WA := wa_of (mt_4 (i := 34) rfl) rfl
theorem q4_35 : (Jvm.Cond.classLink "LeanTower" (318 : Nat) "LeanTower$Widow") ∈ WA := wa_of (mt_4 (i := 35) rfl) rfl
theorem q4_36 : (Jvm.Cond.classLink "LeanTower" (320 : Nat) "LeanTower$Boy") ∈ WA := wa_of (mt_4 (i := 36) rfl) rfl
theorem q4_37 : (Jvm.Cond.classLink "LeanTower" (322 : Nat) "LeanTower$Monk") ∈ WA := wa_of (mt_4 (i := 37) rfl) rfl
theorem q4_38 : (Jvm.Cond.classLink "LeanTower" (324 : Nat) "LeanTower$Bishop") ∈ WA := wa_of (mt_4 (i := 38) rfl) rfl
theorem q4_39 : (Jvm.Cond.methodLink "LeanTowerLaw" (126 : Nat) ({ cls := "LeanTower", name := "ask", desc := "(II)I" } : Jvm.MethodName)) ∈ WA := wa_of (mt_4 (i := 39) rfl) rfl
theorem q4_40 : (Jvm.Cond.instanceMethod ({ cls := "LeanTower", name := "ask", desc := "(II)I" } : Jvm.MethodName)) ∈ WA := wa_of (mt_4 (i := 40) rfl) rfl
theorem q4_41 : (Jvm.Cond.selects "LeanTower" ({ cls := "LeanTower", name := "ask", desc := "(II)I" } : Jvm.MethodName) ({ cls := "LeanTower", name := "ask", desc := "(II)I" } : Jvm.MethodName)) ∈ WA := wa_of (mt_4 (i := 41) rfl) rfl
theorem q4_42 : (Jvm.Cond.code ({ cls := "LeanTower", name := "ask", desc := "(II)I" } : Jvm.MethodName) prog_1_method_28_code (4 : Nat) (Option.some Jvm.ClassFile.FieldType.int)) ∈ WA := wa_of (mt_4 (i := 42) rfl) rfl
theorem q4_43 : (Jvm.Cond.methodLink "LeanTower" (284 : Nat) ({ cls := "LeanTower$Person", name := "size", desc := "(LLeanTower$Trace;)I" } : Jvm.MethodName)) ∈ WA := wa_of (mt_4 (i := 43) rfl) rfl
theorem q4_44 : (Jvm.Cond.instanceMethod ({ cls := "LeanTower$Person", name := "size", desc := "(LLeanTower$Trace;)I" } : Jvm.MethodName)) ∈ WA := wa_of (mt_4 (i := 44) rfl) rfl
theorem q4_45 : (Jvm.Cond.sameMethod "LeanTower$Person" "LeanTower$Person" "size" "(LLeanTower$Trace;)I") ∈ WA := wa_of (mt_4 (i := 45) rfl) rfl
theorem q4_46 : (Jvm.Cond.selects "LeanTower$Bishop" ({ cls := "LeanTower$Person", name := "size", desc := "(LLeanTower$Trace;)I" } : Jvm.MethodName) ({ cls := "LeanTower$Bishop", name := "size", desc := "(LLeanTower$Trace;)I" } : Jvm.MethodName)) ∈ WA := wa_of (mt_4 (i := 46) rfl) rfl
theorem q4_47 : (Jvm.Cond.instanceMethod ({ cls := "LeanTower$Bishop", name := "size", desc := "(LLeanTower$Trace;)I" } : Jvm.MethodName)) ∈ WA := wa_of (mt_4 (i := 47) rfl) rfl
theorem q4_48 : (Jvm.Cond.code ({ cls := "LeanTower$Bishop", name := "size", desc := "(LLeanTower$Trace;)I" } : Jvm.MethodName) prog_3_method_4_code (2 : Nat) (Option.some Jvm.ClassFile.FieldType.int)) ∈ WA := wa_of (mt_4 (i := 48) rfl) rfl
theorem q4_49 : (Jvm.Cond.methodLink "LeanTower$Bishop" (9 : Nat) ({ cls := "LeanTower$Trace", name := "leave", desc := "(I)V" } : Jvm.MethodName)) ∈ WA := wa_of (mt_4 (i := 49) rfl) rfl
theorem q4_50 : (Jvm.Cond.instanceMethod ({ cls := "LeanTower$Trace", name := "leave", desc := "(I)V" } : Jvm.MethodName)) ∈ WA := wa_of (mt_4 (i := 50) rfl) rfl
theorem q4_51 : (Jvm.Cond.selects "LeanTower$Trace" ({ cls := "LeanTower$Trace", name := "leave", desc := "(I)V" } : Jvm.MethodName) ({ cls := "LeanTower$Trace", name := "leave", desc := "(I)V" } : Jvm.MethodName)) ∈ WA := wa_of (mt_4 (i := 51) rfl) rfl
theorem q4_52 : (Jvm.Cond.code ({ cls := "LeanTower$Trace", name := "leave", desc := "(I)V" } : Jvm.MethodName) prog_11_method_2_code (2 : Nat) (Option.none : Option Jvm.ClassFile.FieldType)) ∈ WA := wa_of (mt_4 (i := 52) rfl) rfl
theorem q4_53 : (Jvm.Cond.methodLink "LeanTower$Bishop" (15 : Nat) ({ cls := "LeanTower$Monk", name := "size", desc := "(LLeanTower$Trace;)I" } : Jvm.MethodName)) ∈ WA := wa_of (mt_4 (i := 53) rfl) rfl
theorem q4_54 : (Jvm.Cond.instanceMethod ({ cls := "LeanTower$Monk", name := "size", desc := "(LLeanTower$Trace;)I" } : Jvm.MethodName)) ∈ WA := wa_of (mt_4 (i := 54) rfl) rfl
theorem q4_55 : (Jvm.Cond.code ({ cls := "LeanTower$Monk", name := "size", desc := "(LLeanTower$Trace;)I" } : Jvm.MethodName) prog_5_method_4_code (2 : Nat) (Option.some Jvm.ClassFile.FieldType.int)) ∈ WA := wa_of (mt_4 (i := 55) rfl) rfl
theorem q4_56 : (Jvm.Cond.methodLink "LeanTower$Monk" (9 : Nat) ({ cls := "LeanTower$Trace", name := "leave", desc := "(I)V" } : Jvm.MethodName)) ∈ WA := wa_of (mt_4 (i := 56) rfl) rfl
theorem q4_57 : (Jvm.Cond.methodLink "LeanTower$Monk" (15 : Nat) ({ cls := "LeanTower$Person", name := "size", desc := "(LLeanTower$Trace;)I" } : Jvm.MethodName)) ∈ WA := wa_of (mt_4 (i := 57) rfl) rfl
theorem q4_58 : (Jvm.Cond.selects "LeanTower$Boy" ({ cls := "LeanTower$Person", name := "size", desc := "(LLeanTower$Trace;)I" } : Jvm.MethodName) ({ cls := "LeanTower$Boy", name := "size", desc := "(LLeanTower$Trace;)I" } : Jvm.MethodName)) ∈ WA := wa_of (mt_4 (i := 58) rfl) rfl
theorem q4_59 : (Jvm.Cond.instanceMethod ({ cls := "LeanTower$Boy", name := "size", desc := "(LLeanTower$Trace;)I" } : Jvm.MethodName)) ∈ WA := wa_of (mt_4 (i := 59) rfl) rfl
theorem q4_60 : (Jvm.Cond.code ({ cls := "LeanTower$Boy", name := "size", desc := "(LLeanTower$Trace;)I" } : Jvm.MethodName) prog_4_method_3_code (2 : Nat) (Option.some Jvm.ClassFile.FieldType.int)) ∈ WA := wa_of (mt_4 (i := 60) rfl) rfl
theorem q4_61 : (Jvm.Cond.methodLink "LeanTower$Boy" (9 : Nat) ({ cls := "LeanTower$Trace", name := "leave", desc := "(I)V" } : Jvm.MethodName)) ∈ WA := wa_of (mt_4 (i := 61) rfl) rfl
theorem q4_62 : (Jvm.Cond.methodLink "LeanTower$Boy" (15 : Nat) ({ cls := "LeanTower$Pilgrim", name := "size", desc := "(LLeanTower$Trace;)I" } : Jvm.MethodName)) ∈ WA := wa_of (mt_4 (i := 62) rfl) rfl
theorem q4_63 : (Jvm.Cond.instanceMethod ({ cls := "LeanTower$Pilgrim", name := "size", desc := "(LLeanTower$Trace;)I" } : Jvm.MethodName)) ∈ WA := wa_of (mt_4 (i := 63) rfl) rfl
theorem q4_64 : (Jvm.Cond.code ({ cls := "LeanTower$Pilgrim", name := "size", desc := "(LLeanTower$Trace;)I" } : Jvm.MethodName) prog_7_method_3_code (3 : Nat) (Option.some Jvm.ClassFile.FieldType.int)) ∈ WA := wa_of (mt_4 (i := 64) rfl) rfl
theorem q4_65 : (Jvm.Cond.methodLink "LeanTower$Pilgrim" (9 : Nat) ({ cls := "LeanTower$Trace", name := "leave", desc := "(I)V" } : Jvm.MethodName)) ∈ WA := wa_of (mt_4 (i := 65) rfl) rfl
theorem q4_66 : (Jvm.Cond.methodLink "LeanTower$Pilgrim" (15 : Nat) ({ cls := "LeanTower$Person", name := "size", desc := "(LLeanTower$Trace;)I" } : Jvm.MethodName)) ∈ WA := wa_of (mt_4 (i := 66) rfl) rfl
theorem q4_67 : (Jvm.Cond.methodLink "LeanTower$Pilgrim" (19 : Nat) ({ cls := "LeanTower$Pilgrim", name := "mark", desc := "(LLeanTower$Trace;)I" } : Jvm.MethodName)) ∈ WA := wa_of (mt_4 (i := 67) rfl) rfl
theorem q4_68 : (Jvm.Cond.instanceMethod ({ cls := "LeanTower$Pilgrim", name := "mark", desc := "(LLeanTower$Trace;)I" } : Jvm.MethodName)) ∈ WA := wa_of (mt_4 (i := 68) rfl) rfl
theorem q4_69 : (Jvm.Cond.selects "LeanTower$Pilgrim" ({ cls := "LeanTower$Pilgrim", name := "mark", desc := "(LLeanTower$Trace;)I" } : Jvm.MethodName) ({ cls := "LeanTower$Pilgrim", name := "mark", desc := "(LLeanTower$Trace;)I" } : Jvm.MethodName)) ∈ WA := wa_of (mt_4 (i := 69) rfl) rfl
theorem q4_70 : (Jvm.Cond.sameMethod "LeanTower$Pilgrim" "LeanTower$Pilgrim" "mark" "(LLeanTower$Trace;)I") ∈ WA := wa_of (mt_4 (i := 70) rfl) rfl
theorem q4_71 : (Jvm.Cond.selects "LeanTower$Boy" ({ cls := "LeanTower$Pilgrim", name := "mark", desc := "(LLeanTower$Trace;)I" } : Jvm.MethodName) ({ cls := "LeanTower$Boy", name := "mark", desc := "(LLeanTower$Trace;)I" } : Jvm.MethodName)) ∈ WA := wa_of (mt_4 (i := 71) rfl) rfl
theorem q4_72 : (Jvm.Cond.instanceMethod ({ cls := "LeanTower$Boy", name := "mark", desc := "(LLeanTower$Trace;)I" } : Jvm.MethodName)) ∈ WA := wa_of (mt_4 (i := 72) rfl) rfl
theorem q4_73 : (Jvm.Cond.code ({ cls := "LeanTower$Boy", name := "mark", desc := "(LLeanTower$Trace;)I" } : Jvm.MethodName) prog_4_method_4_code (2 : Nat) (Option.some Jvm.ClassFile.FieldType.int)) ∈ WA := wa_of (mt_4 (i := 73) rfl) rfl
theorem q4_74 : (Jvm.Cond.methodLink "LeanTower$Boy" (19 : Nat) ({ cls := "LeanTower$Pilgrim", name := "mark", desc := "(LLeanTower$Trace;)I" } : Jvm.MethodName)) ∈ WA := wa_of (mt_4 (i := 74) rfl) rfl
theorem q4_75 : (Jvm.Cond.selects "LeanTower$Widow" ({ cls := "LeanTower$Pilgrim", name := "mark", desc := "(LLeanTower$Trace;)I" } : Jvm.MethodName) ({ cls := "LeanTower$Widow", name := "mark", desc := "(LLeanTower$Trace;)I" } : Jvm.MethodName)) ∈ WA := wa_of (mt_4 (i := 75) rfl) rfl
theorem q4_76 : (Jvm.Cond.instanceMethod ({ cls := "LeanTower$Widow", name := "mark", desc := "(LLeanTower$Trace;)I" } : Jvm.MethodName)) ∈ WA := wa_of (mt_4 (i := 76) rfl) rfl
theorem q4_77 : (Jvm.Cond.code ({ cls := "LeanTower$Widow", name := "mark", desc := "(LLeanTower$Trace;)I" } : Jvm.MethodName) prog_12_method_3_code (2 : Nat) (Option.some Jvm.ClassFile.FieldType.int)) ∈ WA := wa_of (mt_4 (i := 77) rfl) rfl
theorem q4_78 : (Jvm.Cond.methodLink "LeanTower$Widow" (9 : Nat) ({ cls := "LeanTower$Trace", name := "leave", desc := "(I)V" } : Jvm.MethodName)) ∈ WA := wa_of (mt_4 (i := 78) rfl) rfl
theorem q4_79 : (Jvm.Cond.methodLink "LeanTower$Widow" (15 : Nat) ({ cls := "LeanTower$Pilgrim", name := "mark", desc := "(LLeanTower$Trace;)I" } : Jvm.MethodName)) ∈ WA := wa_of (mt_4 (i := 79) rfl) rfl
theorem q4_80 : (Jvm.Cond.code ({ cls := "LeanTower$Pilgrim", name := "mark", desc := "(LLeanTower$Trace;)I" } : Jvm.MethodName) prog_7_method_4_code (2 : Nat) (Option.some Jvm.ClassFile.FieldType.int)) ∈ WA := wa_of (mt_4 (i := 80) rfl) rfl
theorem q4_81 : (Jvm.Cond.methodLink "LeanTower$Pilgrim" (24 : Nat) ({ cls := "LeanTower$Person", name := "mark", desc := "(LLeanTower$Trace;)I" } : Jvm.MethodName)) ∈ WA := wa_of (mt_4 (i := 81) rfl) rfl
theorem q4_82 : (Jvm.Cond.instanceMethod ({ cls := "LeanTower$Person", name := "mark", desc := "(LLeanTower$Trace;)I" } : Jvm.MethodName)) ∈ WA := wa_of (mt_4 (i := 82) rfl) rfl
theorem q4_83 : (Jvm.Cond.code ({ cls := "LeanTower$Person", name := "mark", desc := "(LLeanTower$Trace;)I" } : Jvm.MethodName) prog_6_method_5_code (2 : Nat) (Option.some Jvm.ClassFile.FieldType.int)) ∈ WA := wa_of (mt_4 (i := 83) rfl) rfl
theorem q4_84 : (Jvm.Cond.methodLink "LeanTower$Person" (19 : Nat) ({ cls := "LeanTower$Trace", name := "leave", desc := "(I)V" } : Jvm.MethodName)) ∈ WA := wa_of (mt_4 (i := 84) rfl) rfl
theorem q4_85 : (Jvm.Cond.selects "LeanTower$Monk" ({ cls := "LeanTower$Person", name := "size", desc := "(LLeanTower$Trace;)I" } : Jvm.MethodName) ({ cls := "LeanTower$Monk", name := "size", desc := "(LLeanTower$Trace;)I" } : Jvm.MethodName)) ∈ WA := wa_of (mt_4 (i := 85) rfl) rfl
theorem q4_86 : (Jvm.Cond.selects "LeanTower$Pilgrim" ({ cls := "LeanTower$Person", name := "size", desc := "(LLeanTower$Trace;)I" } : Jvm.MethodName) ({ cls := "LeanTower$Pilgrim", name := "size", desc := "(LLeanTower$Trace;)I" } : Jvm.MethodName)) ∈ WA := wa_of (mt_4 (i := 86) rfl) rfl
theorem q4_87 : (Jvm.Cond.selects "LeanTower$Widow" ({ cls := "LeanTower$Person", name := "size", desc := "(LLeanTower$Trace;)I" } : Jvm.MethodName) ({ cls := "LeanTower$Pilgrim", name := "size", desc := "(LLeanTower$Trace;)I" } : Jvm.MethodName)) ∈ WA := wa_of (mt_4 (i := 87) rfl) rfl
theorem q4_88 : (Jvm.Cond.code ({ cls := "LeanTower$Person", name := "size", desc := "(LLeanTower$Trace;)I" } : Jvm.MethodName) prog_6_method_4_code (2 : Nat) (Option.some Jvm.ClassFile.FieldType.int)) ∈ WA := wa_of (mt_4 (i := 88) rfl) rfl
theorem q4_89 : (Jvm.Cond.methodLink "LeanTower" (288 : Nat) ({ cls := "LeanTower$Person", name := "mark", desc := "(LLeanTower$Trace;)I" } : Jvm.MethodName)) ∈ WA := wa_of (mt_4 (i := 89) rfl) rfl
theorem q4_90 : (Jvm.Cond.instanceMethod ({ cls := "LeanTower$Monk", name := "mark", desc := "(LLeanTower$Trace;)I" } : Jvm.MethodName)) ∈ WA := wa_of (mt_4 (i := 90) rfl) rfl
theorem q4_91 : (Jvm.Cond.code ({ cls := "LeanTower$Monk", name := "mark", desc := "(LLeanTower$Trace;)I" } : Jvm.MethodName) prog_5_method_5_code (3 : Nat) (Option.some Jvm.ClassFile.FieldType.int)) ∈ WA := wa_of (mt_4 (i := 91) rfl) rfl
theorem q4_92 : (Jvm.Cond.methodLink "LeanTower$Monk" (19 : Nat) ({ cls := "LeanTower$Person", name := "mark", desc := "(LLeanTower$Trace;)I" } : Jvm.MethodName)) ∈ WA := wa_of (mt_4 (i := 92) rfl) rfl
theorem q4_93 : (Jvm.Cond.methodLink "LeanTower$Monk" (22 : Nat) ({ cls := "LeanTower$Monk", name := "size", desc := "(LLeanTower$Trace;)I" } : Jvm.MethodName)) ∈ WA := wa_of (mt_4 (i := 93) rfl) rfl
theorem q4_94 : (Jvm.Cond.methodLink "LeanTowerLaw" (130 : Nat) ({ cls := "LeanTower", name := "trace", desc := "(I)I" } : Jvm.MethodName)) ∈ WA := wa_of (mt_4 (i := 94) rfl) rfl
theorem q4_95 : (Jvm.Cond.instanceMethod ({ cls := "LeanTower", name := "trace", desc := "(I)I" } : Jvm.MethodName)) ∈ WA := wa_of (mt_4 (i := 95) rfl) rfl
theorem q4_96 : (Jvm.Cond.selects "LeanTower" ({ cls := "LeanTower", name := "trace", desc := "(I)I" } : Jvm.MethodName) ({ cls := "LeanTower", name := "trace", desc := "(I)I" } : Jvm.MethodName)) ∈ WA := wa_of (mt_4 (i := 96) rfl) rfl
theorem q4_97 : (Jvm.Cond.code ({ cls := "LeanTower", name := "trace", desc := "(I)I" } : Jvm.MethodName) prog_1_method_29_code (2 : Nat) (Option.some Jvm.ClassFile.FieldType.int)) ∈ WA := wa_of (mt_4 (i := 97) rfl) rfl
theorem q4_98 : (Jvm.Cond.methodLink "LeanTowerLaw" (134 : Nat) ({ cls := "LeanTower", name := "count", desc := "(I)I" } : Jvm.MethodName)) ∈ WA := wa_of (mt_4 (i := 98) rfl) rfl
theorem q4_99 : (Jvm.Cond.instanceMethod ({ cls := "LeanTower", name := "count", desc := "(I)I" } : Jvm.MethodName)) ∈ WA := wa_of (mt_4 (i := 99) rfl) rfl
theorem q4_100 : (Jvm.Cond.selects "LeanTower" ({ cls := "LeanTower", name := "count", desc := "(I)I" } : Jvm.MethodName) ({ cls := "LeanTower", name := "count", desc := "(I)I" } : Jvm.MethodName)) ∈ WA := wa_of (mt_4 (i := 100) rfl) rfl
theorem q4_101 : (Jvm.Cond.code ({ cls := "LeanTower", name := "count", desc := "(I)I" } : Jvm.MethodName) prog_1_method_30_code (2 : Nat) (Option.some Jvm.ClassFile.FieldType.int)) ∈ WA := wa_of (mt_4 (i := 101) rfl) rfl
theorem q4_102 : (Jvm.Cond.methodLink "LeanTower" (294 : Nat) ({ cls := "LeanTower", name := "rowsThere", desc := "()I" } : Jvm.MethodName)) ∈ WA := wa_of (mt_4 (i := 102) rfl) rfl
theorem q4_103 : (Jvm.Cond.privateMethod ({ cls := "LeanTower", name := "rowsThere", desc := "()I" } : Jvm.MethodName)) ∈ lw_tbl := mt_4 (i := 103) rfl
theorem q4_104 : (Jvm.Cond.instanceMethod ({ cls := "LeanTower", name := "rowsThere", desc := "()I" } : Jvm.MethodName)) ∈ WA := wa_of (mt_4 (i := 104) rfl) rfl
theorem q4_105 : (Jvm.Cond.code ({ cls := "LeanTower", name := "rowsThere", desc := "()I" } : Jvm.MethodName) prog_1_method_33_code (3 : Nat) (Option.some Jvm.ClassFile.FieldType.int)) ∈ WA := wa_of (mt_4 (i := 105) rfl) rfl
theorem q4_106 : (Jvm.Cond.methodLink "LeanTowerLaw" (138 : Nat) ({ cls := "LeanTower", name := "status", desc := "()I" } : Jvm.MethodName)) ∈ WA := wa_of (mt_4 (i := 106) rfl) rfl
theorem q4_107 : (Jvm.Cond.instanceMethod ({ cls := "LeanTower", name := "status", desc := "()I" } : Jvm.MethodName)) ∈ WA := wa_of (mt_4 (i := 107) rfl) rfl
theorem q4_108 : (Jvm.Cond.selects "LeanTower" ({ cls := "LeanTower", name := "status", desc := "()I" } : Jvm.MethodName) ({ cls := "LeanTower", name := "status", desc := "()I" } : Jvm.MethodName)) ∈ WA := wa_of (mt_4 (i := 108) rfl) rfl
theorem q4_109 : (Jvm.Cond.code ({ cls := "LeanTower", name := "status", desc := "()I" } : Jvm.MethodName) prog_1_method_31_code (1 : Nat) (Option.some Jvm.ClassFile.FieldType.int)) ∈ WA := wa_of (mt_4 (i := 109) rfl) rfl
theorem q4_110 : (Jvm.Cond.classLink "LeanTowerLaw" (10 : Nat) "LeanTowerModel") ∈ WA := wa_of (mt_4 (i := 110) rfl) rfl
theorem q4_111 : (Jvm.Cond.instantiable "LeanTowerModel" (21 : Nat)) ∈ WA := wa_of (mt_4 (i := 111) rfl) rfl
theorem q4_112 : (Jvm.Cond.methodLink "LeanTowerLaw" (12 : Nat) ({ cls := "LeanTowerModel", name := "<init>", desc := "()V" } : Jvm.MethodName)) ∈ WA := wa_of (mt_4 (i := 112) rfl) rfl
theorem q4_113 : (Jvm.Cond.instanceMethod ({ cls := "LeanTowerModel", name := "<init>", desc := "()V" } : Jvm.MethodName)) ∈ WA := wa_of (mt_4 (i := 113) rfl) rfl
theorem q4_114 : (Jvm.Cond.code ({ cls := "LeanTowerModel", name := "<init>", desc := "()V" } : Jvm.MethodName) prog_14_method_1_code (2 : Nat) (Option.none : Option Jvm.ClassFile.FieldType)) ∈ WA := wa_of (mt_4 (i := 114) rfl) rfl
theorem q4_115 : (Jvm.Cond.methodLink "LeanTowerModel" (1 : Nat) ({ cls := "java/lang/Object", name := "<init>", desc := "()V" } : Jvm.MethodName)) ∈ WA := wa_of (mt_4 (i := 115) rfl) rfl
theorem q4_116 : (Jvm.Cond.fieldLink "LeanTowerModel" (7 : Nat) "LeanTowerModel" "w" "[I") ∈ WA := wa_of (mt_4 (i := 116) rfl) rfl
theorem q4_117 : (Jvm.Cond.fieldLink "LeanTowerModel" (13 : Nat) "LeanTowerModel" "isKept" "[Z") ∈ WA := wa_of (mt_4 (i := 117) rfl) rfl
theorem q4_118 : (Jvm.Cond.fieldLink "LeanTowerModel" (17 : Nat) "LeanTowerModel" "items" "[I") ∈ WA := wa_of (mt_4 (i := 118) rfl) rfl
theorem q4_119 : (Jvm.Cond.fieldLink "LeanTowerModel" (20 : Nat) "LeanTowerModel" "lanes" "[I") ∈ WA := wa_of (mt_4 (i := 119) rfl) rfl
theorem q4_120 : (Jvm.Cond.fieldLink "LeanTowerModel" (23 : Nat) "LeanTowerModel" "sizes" "[I") ∈ WA := wa_of (mt_4 (i := 120) rfl) rfl
theorem q4_121 : (Jvm.Cond.fieldLink "LeanTowerModel" (26 : Nat) "LeanTowerModel" "tape" "[I") ∈ WA := wa_of (mt_4 (i := 121) rfl) rfl
theorem q4_122 : (Jvm.Cond.fieldLink "LeanTowerModel" (69 : Nat) "LeanTowerModel" "taped" "I") ∈ WA := wa_of (mt_4 (i := 122) rfl) rfl
theorem q4_123 : (Jvm.Cond.fieldLink "LeanTowerModel" (150 : Nat) "LeanTowerModel" "latest" "I") ∈ WA := wa_of (mt_4 (i := 123) rfl) rfl
theorem q4_124 : (Jvm.Cond.fieldLink "LeanTowerModel" (44 : Nat) "LeanTowerModel" "status" "I") ∈ WA := wa_of (mt_4 (i := 124) rfl) rfl
theorem q4_125 : (Jvm.Cond.fieldLink "LeanTowerModel" (158 : Nat) "LeanTowerModel" "undoable" "I") ∈ WA := wa_of (mt_4 (i := 125) rfl) rfl
theorem q4_126 : (Jvm.Cond.fieldLink "LeanTowerModel" (29 : Nat) "LeanTowerModel" "hand" "[I") ∈ WA := wa_of (mt_4 (i := 126) rfl) rfl
theorem q4_127 : (Jvm.Cond.fieldLink "LeanTowerModel" (75 : Nat) "LeanTowerModel" "at" "I") ∈ WA := wa_of (mt_4 (i := 127) rfl) rfl
theorem q4_128 : (Jvm.Cond.fieldLink "LeanTowerModel" (78 : Nat) "LeanTowerModel" "from" "I") ∈ WA := wa_of (mt_4 (i := 128) rfl) rfl
theorem q4_129 : (Jvm.Cond.fieldLink "LeanTowerModel" (81 : Nat) "LeanTowerModel" "token" "I") ∈ WA := wa_of (mt_4 (i := 129) rfl) rfl
theorem q4_130 : (Jvm.Cond.fieldLink "LeanTowerModel" (84 : Nat) "LeanTowerModel" "letters" "J") ∈ WA := wa_of (mt_4 (i := 130) rfl) rfl
theorem q4_131 : (Jvm.Cond.fieldLink "LeanTowerModel" (88 : Nat) "LeanTowerModel" "figures" "I") ∈ WA := wa_of (mt_4 (i := 131) rfl) rfl
theorem q4_132 : (Jvm.Cond.fieldLink "LeanTowerModel" (105 : Nat) "LeanTowerModel" "fault" "I") ∈ WA := wa_of (mt_4 (i := 132) rfl) rfl
theorem q4_133 : (Jvm.Cond.fieldLink "LeanTowerModel" (208 : Nat) "LeanTowerModel" "firstBeyond" "I") ∈ WA := wa_of (mt_4 (i := 133) rfl) rfl
theorem q4_134 : (Jvm.Cond.fieldLink "LeanTowerModel" (32 : Nat) "LeanTowerModel" "canAll" "[Z") ∈ WA := wa_of (mt_4 (i := 134) rfl) rfl
theorem q4_135 : (Jvm.Cond.fieldLink "LeanTowerModel" (35 : Nat) "LeanTowerModel" "traces" "[I") ∈ WA := wa_of (mt_4 (i := 135) rfl) rfl
theorem q4_136 : (Jvm.Cond.fieldLink "LeanTowerModel" (239 : Nat) "LeanTowerModel" "traced" "I") ∈ WA := wa_of (mt_4 (i := 136) rfl) rfl
theorem q4_137 : (Jvm.Cond.laysFinal "LeanTowerModel" "LeanTowerModel" "w" "[I") ∈ WA := wa_of (mt_4 (i := 137) rfl) rfl
theorem q4_138 : (Jvm.Cond.soleField "LeanTowerModel" "w") ∈ WA := wa_of (mt_4 (i := 138) rfl) rfl
theorem q4_139 : (Jvm.Cond.laysFinal "LeanTowerModel" "LeanTowerModel" "isKept" "[Z") ∈ WA := wa_of (mt_4 (i := 139) rfl) rfl
theorem q4_140 : (Jvm.Cond.soleField "LeanTowerModel" "isKept") ∈ WA := wa_of (mt_4 (i := 140) rfl) rfl
theorem q4_141 : (Jvm.Cond.laysFinal "LeanTowerModel" "LeanTowerModel" "items" "[I") ∈ WA := wa_of (mt_4 (i := 141) rfl) rfl
theorem q4_142 : (Jvm.Cond.soleField "LeanTowerModel" "items") ∈ WA := wa_of (mt_4 (i := 142) rfl) rfl
theorem q4_143 : (Jvm.Cond.laysFinal "LeanTowerModel" "LeanTowerModel" "lanes" "[I") ∈ WA := wa_of (mt_4 (i := 143) rfl) rfl
theorem q4_144 : (Jvm.Cond.soleField "LeanTowerModel" "lanes") ∈ WA := wa_of (mt_4 (i := 144) rfl) rfl
theorem q4_145 : (Jvm.Cond.laysFinal "LeanTowerModel" "LeanTowerModel" "sizes" "[I") ∈ WA := wa_of (mt_4 (i := 145) rfl) rfl
theorem q4_146 : (Jvm.Cond.soleField "LeanTowerModel" "sizes") ∈ WA := wa_of (mt_4 (i := 146) rfl) rfl
theorem q4_147 : (Jvm.Cond.laysFinal "LeanTowerModel" "LeanTowerModel" "tape" "[I") ∈ WA := wa_of (mt_4 (i := 147) rfl) rfl
theorem q4_148 : (Jvm.Cond.soleField "LeanTowerModel" "tape") ∈ WA := wa_of (mt_4 (i := 148) rfl) rfl
theorem q4_149 : (Jvm.Cond.lays "LeanTowerModel" "LeanTowerModel" "taped" "I") ∈ WA := wa_of (mt_4 (i := 149) rfl) rfl
theorem q4_150 : (Jvm.Cond.soleField "LeanTowerModel" "taped") ∈ WA := wa_of (mt_4 (i := 150) rfl) rfl
theorem q4_151 : (Jvm.Cond.lays "LeanTowerModel" "LeanTowerModel" "latest" "I") ∈ WA := wa_of (mt_4 (i := 151) rfl) rfl
theorem q4_152 : (Jvm.Cond.soleField "LeanTowerModel" "latest") ∈ WA := wa_of (mt_4 (i := 152) rfl) rfl
theorem q4_153 : (Jvm.Cond.lays "LeanTowerModel" "LeanTowerModel" "status" "I") ∈ WA := wa_of (mt_4 (i := 153) rfl) rfl
theorem q4_154 : (Jvm.Cond.soleField "LeanTowerModel" "status") ∈ WA := wa_of (mt_4 (i := 154) rfl) rfl
theorem q4_155 : (Jvm.Cond.lays "LeanTowerModel" "LeanTowerModel" "undoable" "I") ∈ WA := wa_of (mt_4 (i := 155) rfl) rfl
theorem q4_156 : (Jvm.Cond.soleField "LeanTowerModel" "undoable") ∈ WA := wa_of (mt_4 (i := 156) rfl) rfl
theorem q4_157 : (Jvm.Cond.laysFinal "LeanTowerModel" "LeanTowerModel" "hand" "[I") ∈ WA := wa_of (mt_4 (i := 157) rfl) rfl
theorem q4_158 : (Jvm.Cond.soleField "LeanTowerModel" "hand") ∈ WA := wa_of (mt_4 (i := 158) rfl) rfl
theorem q4_159 : (Jvm.Cond.lays "LeanTowerModel" "LeanTowerModel" "at" "I") ∈ WA := wa_of (mt_4 (i := 159) rfl) rfl
theorem q4_160 : (Jvm.Cond.soleField "LeanTowerModel" "at") ∈ WA := wa_of (mt_4 (i := 160) rfl) rfl
theorem q4_161 : (Jvm.Cond.lays "LeanTowerModel" "LeanTowerModel" "from" "I") ∈ WA := wa_of (mt_4 (i := 161) rfl) rfl
theorem q4_162 : (Jvm.Cond.soleField "LeanTowerModel" "from") ∈ WA := wa_of (mt_4 (i := 162) rfl) rfl
theorem q4_163 : (Jvm.Cond.lays "LeanTowerModel" "LeanTowerModel" "token" "I") ∈ WA := wa_of (mt_4 (i := 163) rfl) rfl
theorem q4_164 : (Jvm.Cond.soleField "LeanTowerModel" "token") ∈ WA := wa_of (mt_4 (i := 164) rfl) rfl
theorem q4_165 : (Jvm.Cond.lays "LeanTowerModel" "LeanTowerModel" "letters" "J") ∈ WA := wa_of (mt_4 (i := 165) rfl) rfl
theorem q4_166 : (Jvm.Cond.soleField "LeanTowerModel" "letters") ∈ WA := wa_of (mt_4 (i := 166) rfl) rfl
theorem q4_167 : (Jvm.Cond.lays "LeanTowerModel" "LeanTowerModel" "figures" "I") ∈ WA := wa_of (mt_4 (i := 167) rfl) rfl
theorem q4_168 : (Jvm.Cond.soleField "LeanTowerModel" "figures") ∈ WA := wa_of (mt_4 (i := 168) rfl) rfl
theorem q4_169 : (Jvm.Cond.lays "LeanTowerModel" "LeanTowerModel" "fault" "I") ∈ WA := wa_of (mt_4 (i := 169) rfl) rfl
theorem q4_170 : (Jvm.Cond.soleField "LeanTowerModel" "fault") ∈ WA := wa_of (mt_4 (i := 170) rfl) rfl
theorem q4_171 : (Jvm.Cond.lays "LeanTowerModel" "LeanTowerModel" "firstBeyond" "I") ∈ WA := wa_of (mt_4 (i := 171) rfl) rfl
theorem q4_172 : (Jvm.Cond.soleField "LeanTowerModel" "firstBeyond") ∈ WA := wa_of (mt_4 (i := 172) rfl) rfl
theorem q4_173 : (Jvm.Cond.laysFinal "LeanTowerModel" "LeanTowerModel" "canAll" "[Z") ∈ WA := wa_of (mt_4 (i := 173) rfl) rfl
theorem q4_174 : (Jvm.Cond.soleField "LeanTowerModel" "canAll") ∈ WA := wa_of (mt_4 (i := 174) rfl) rfl
theorem q4_175 : (Jvm.Cond.laysFinal "LeanTowerModel" "LeanTowerModel" "traces" "[I") ∈ WA := wa_of (mt_4 (i := 175) rfl) rfl
theorem q4_176 : (Jvm.Cond.soleField "LeanTowerModel" "traces") ∈ WA := wa_of (mt_4 (i := 176) rfl) rfl
theorem q4_177 : (Jvm.Cond.lays "LeanTowerModel" "LeanTowerModel" "traced" "I") ∈ WA := wa_of (mt_4 (i := 177) rfl) rfl
theorem q4_178 : (Jvm.Cond.soleField "LeanTowerModel" "traced") ∈ WA := wa_of (mt_4 (i := 178) rfl) rfl
theorem q4_179 : (Jvm.Cond.superclass "LeanTowerModel" "java/lang/Object") ∈ WA := wa_of (mt_4 (i := 179) rfl) rfl
theorem q4_180 : (Jvm.Cond.methodLink "LeanTowerLaw" (17 : Nat) ({ cls := "LeanTowerModel", name := "row", desc := "(III)I" } : Jvm.MethodName)) ∈ WA := wa_of (mt_4 (i := 180) rfl) rfl
theorem q4_181 : (Jvm.Cond.instanceMethod ({ cls := "LeanTowerModel", name := "row", desc := "(III)I" } : Jvm.MethodName)) ∈ WA := wa_of (mt_4 (i := 181) rfl) rfl
theorem q4_182 : (Jvm.Cond.selects "LeanTowerModel" ({ cls := "LeanTowerModel", name := "row", desc := "(III)I" } : Jvm.MethodName) ({ cls := "LeanTowerModel", name := "row", desc := "(III)I" } : Jvm.MethodName)) ∈ WA := wa_of (mt_4 (i := 182) rfl) rfl
theorem q4_183 : (Jvm.Cond.code ({ cls := "LeanTowerModel", name := "row", desc := "(III)I" } : Jvm.MethodName) prog_14_method_13_code (5 : Nat) (Option.some Jvm.ClassFile.FieldType.int)) ∈ WA := wa_of (mt_4 (i := 183) rfl) rfl
theorem q4_184 : (Jvm.Cond.methodLink "LeanTowerModel" (49 : Nat) ({ cls := "LeanTowerModel", name := "isRow", desc := "(I)Z" } : Jvm.MethodName)) ∈ WA := wa_of (mt_4 (i := 184) rfl) rfl
theorem q4_185 : (Jvm.Cond.static ({ cls := "LeanTowerModel", name := "isRow", desc := "(I)Z" } : Jvm.MethodName)) ∈ WA := wa_of (mt_4 (i := 185) rfl) rfl
theorem q4_186 : (Jvm.Cond.code ({ cls := "LeanTowerModel", name := "isRow", desc := "(I)Z" } : Jvm.MethodName) prog_14_method_9_code (1 : Nat) (Option.some Jvm.ClassFile.FieldType.boolean)) ∈ WA := wa_of (mt_4 (i := 186) rfl) rfl
theorem q4_187 : (Jvm.Cond.constantLong "LeanTowerModel" (38 : Nat) (7 : Int64)) ∈ WA := wa_of (mt_4 (i := 187) rfl) rfl
theorem q4_188 : (Jvm.Cond.methodLink "LeanTowerModel" (40 : Nat) ({ cls := "LeanTowerModel", name := "in", desc := "(JJJ)Z" } : Jvm.MethodName)) ∈ WA := wa_of (mt_4 (i := 188) rfl) rfl
theorem q4_189 : (Jvm.Cond.static ({ cls := "LeanTowerModel", name := "in", desc := "(JJJ)Z" } : Jvm.MethodName)) ∈ WA := wa_of (mt_4 (i := 189) rfl) rfl
theorem q4_190 : (Jvm.Cond.code ({ cls := "LeanTowerModel", name := "in", desc := "(JJJ)Z" } : Jvm.MethodName) prog_14_method_3_code (6 : Nat) (Option.some Jvm.ClassFile.FieldType.boolean)) ∈ WA := wa_of (mt_4 (i := 190) rfl) rfl
theorem q4_191 : (Jvm.Cond.constantLong "LeanTowerModel" (53 : Nat) (2 : Int64)) ∈ WA := wa_of (mt_4 (i := 191) rfl) rfl
theorem q4_192 : (Jvm.Cond.constant "LeanTowerModel" (55 : Nat) (-1000001 : Int32)) ∈ WA := wa_of (mt_4 (i := 192) rfl) rfl
theorem q4_193 : (Jvm.Cond.methodLink "LeanTowerModel" (56 : Nat) ({ cls := "LeanTowerModel", name := "met", desc := "(I)I" } : Jvm.MethodName)) ∈ WA := wa_of (mt_4 (i := 193) rfl) rfl
theorem q4_194 : (Jvm.Cond.privateMethod ({ cls := "LeanTowerModel", name := "met", desc := "(I)I" } : Jvm.MethodName)) ∈ lw_tbl := mt_4 (i := 194) rfl
theorem q4_195 : (Jvm.Cond.instanceMethod ({ cls := "LeanTowerModel", name := "met", desc := "(I)I" } : Jvm.MethodName)) ∈ WA := wa_of (mt_4 (i := 195) rfl) rfl
theorem q4_196 : (Jvm.Cond.code ({ cls := "LeanTowerModel", name := "met", desc := "(I)I" } : Jvm.MethodName) prog_14_method_10_code (2 : Nat) (Option.some Jvm.ClassFile.FieldType.int)) ∈ WA := wa_of (mt_4 (i := 196) rfl) rfl
theorem q4_197 : (Jvm.Cond.constant "LeanTowerModel" (48 : Nat) (-1000010 : Int32)) ∈ WA := wa_of (mt_4 (i := 197) rfl) rfl
theorem q4_198 : (Jvm.Cond.methodLink "LeanTowerModel" (60 : Nat) ({ cls := "LeanTowerModel", name := "fine", desc := "(I)I" } : Jvm.MethodName)) ∈ WA := wa_of (mt_4 (i := 198) rfl) rfl
theorem q4_199 : (Jvm.Cond.privateMethod ({ cls := "LeanTowerModel", name := "fine", desc := "(I)I" } : Jvm.MethodName)) ∈ lw_tbl := mt_4 (i := 199) rfl
theorem q4_200 : (Jvm.Cond.instanceMethod ({ cls := "LeanTowerModel", name := "fine", desc := "(I)I" } : Jvm.MethodName)) ∈ WA := wa_of (mt_4 (i := 200) rfl) rfl
theorem q4_201 : (Jvm.Cond.code ({ cls := "LeanTowerModel", name := "fine", desc := "(I)I" } : Jvm.MethodName) prog_14_method_11_code (2 : Nat) (Option.some Jvm.ClassFile.FieldType.int)) ∈ WA := wa_of (mt_4 (i := 201) rfl) rfl
theorem q4_202 : (Jvm.Cond.methodLink "LeanTowerLaw" (21 : Nat) ({ cls := "LeanTowerModel", name := "set", desc := "(III)I" } : Jvm.MethodName)) ∈ WA := wa_of (mt_4 (i := 202) rfl) rfl
theorem q4_203 : (Jvm.Cond.instanceMethod ({ cls := "LeanTowerModel", name := "set", desc := "(III)I" } : Jvm.MethodName)) ∈ WA := wa_of (mt_4 (i := 203) rfl) rfl
theorem q4_204 : (Jvm.Cond.selects "LeanTowerModel" ({ cls := "LeanTowerModel", name := "set", desc := "(III)I" } : Jvm.MethodName) ({ cls := "LeanTowerModel", name := "set", desc := "(III)I" } : Jvm.MethodName)) ∈ WA := wa_of (mt_4 (i := 204) rfl) rfl
theorem q4_205 : (Jvm.Cond.code ({ cls := "LeanTowerModel", name := "set", desc := "(III)I" } : Jvm.MethodName) prog_14_method_14_code (4 : Nat) (Option.some Jvm.ClassFile.FieldType.int)) ∈ WA := wa_of (mt_4 (i := 205) rfl) rfl
theorem q4_206 : (Jvm.Cond.methodLink "LeanTowerModel" (63 : Nat) ({ cls := "LeanTowerModel", name := "cut", desc := "(II)I" } : Jvm.MethodName)) ∈ WA := wa_of (mt_4 (i := 206) rfl) rfl
theorem q4_207 : (Jvm.Cond.static ({ cls := "LeanTowerModel", name := "cut", desc := "(II)I" } : Jvm.MethodName)) ∈ WA := wa_of (mt_4 (i := 207) rfl) rfl
theorem q4_208 : (Jvm.Cond.code ({ cls := "LeanTowerModel", name := "cut", desc := "(II)I" } : Jvm.MethodName) prog_14_method_12_code (2 : Nat) (Option.some Jvm.ClassFile.FieldType.int)) ∈ WA := wa_of (mt_4 (i := 208) rfl) rfl
theorem q4_209 : (Jvm.Cond.methodLink "LeanTowerLaw" (26 : Nat) ({ cls := "LeanTowerModel", name := "copy", desc := "(IIIII)I" } : Jvm.MethodName)) ∈ WA := wa_of (mt_4 (i := 209) rfl) rfl
theorem q4_210 : (Jvm.Cond.instanceMethod ({ cls := "LeanTowerModel", name := "copy", desc := "(IIIII)I" } : Jvm.MethodName)) ∈ WA := wa_of (mt_4 (i := 210) rfl) rfl
theorem q4_211 : (Jvm.Cond.selects "LeanTowerModel" ({ cls := "LeanTowerModel", name := "copy", desc := "(IIIII)I" } : Jvm.MethodName) ({ cls := "LeanTowerModel", name := "copy", desc := "(IIIII)I" } : Jvm.MethodName)) ∈ WA := wa_of (mt_4 (i := 211) rfl) rfl
theorem q4_212 : (Jvm.Cond.code ({ cls := "LeanTowerModel", name := "copy", desc := "(IIIII)I" } : Jvm.MethodName) prog_14_method_15_code (7 : Nat) (Option.some Jvm.ClassFile.FieldType.int)) ∈ WA := wa_of (mt_4 (i := 212) rfl) rfl
theorem q4_213 : (Jvm.Cond.methodLink "LeanTowerLaw" (31 : Nat) ({ cls := "LeanTowerModel", name := "drop", desc := "(I)I" } : Jvm.MethodName)) ∈ WA := wa_of (mt_4 (i := 213) rfl) rfl
theorem q4_214 : (Jvm.Cond.instanceMethod ({ cls := "LeanTowerModel", name := "drop", desc := "(I)I" } : Jvm.MethodName)) ∈ WA := wa_of (mt_4 (i := 214) rfl) rfl
theorem q4_215 : (Jvm.Cond.selects "LeanTowerModel" ({ cls := "LeanTowerModel", name := "drop", desc := "(I)I" } : Jvm.MethodName) ({ cls := "LeanTowerModel", name := "drop", desc := "(I)I" } : Jvm.MethodName)) ∈ WA := wa_of (mt_4 (i := 215) rfl) rfl
theorem q4_216 : (Jvm.Cond.code ({ cls := "LeanTowerModel", name := "drop", desc := "(I)I" } : Jvm.MethodName) prog_14_method_16_code (2 : Nat) (Option.some Jvm.ClassFile.FieldType.int)) ∈ WA := wa_of (mt_4 (i := 216) rfl) rfl
theorem q4_217 : (Jvm.Cond.methodLink "LeanTowerLaw" (38 : Nat) ({ cls := "LeanTowerModel", name := "feed", desc := "(JI)I" } : Jvm.MethodName)) ∈ WA := wa_of (mt_4 (i := 217) rfl) rfl
theorem q4_218 : (Jvm.Cond.instanceMethod ({ cls := "LeanTowerModel", name := "feed", desc := "(JI)I" } : Jvm.MethodName)) ∈ WA := wa_of (mt_4 (i := 218) rfl) rfl
theorem q4_219 : (Jvm.Cond.selects "LeanTowerModel" ({ cls := "LeanTowerModel", name := "feed", desc := "(JI)I" } : Jvm.MethodName) ({ cls := "LeanTowerModel", name := "feed", desc := "(JI)I" } : Jvm.MethodName)) ∈ WA := wa_of (mt_4 (i := 219) rfl) rfl
theorem q4_220 : (Jvm.Cond.code ({ cls := "LeanTowerModel", name := "feed", desc := "(JI)I" } : Jvm.MethodName) prog_14_method_17_code (5 : Nat) (Option.some Jvm.ClassFile.FieldType.int)) ∈ WA := wa_of (mt_4 (i := 220) rfl) rfl
theorem q4_221 : (Jvm.Cond.constantLong "LeanTowerModel" (67 : Nat) (8 : Int64)) ∈ WA := wa_of (mt_4 (i := 221) rfl) rfl
theorem q4_222 : (Jvm.Cond.constant "LeanTowerModel" (72 : Nat) (-1000003 : Int32)) ∈ WA := wa_of (mt_4 (i := 222) rfl) rfl
theorem q4_223 : (Jvm.Cond.constantLong "LeanTowerModel" (73 : Nat) (255 : Int64)) ∈ WA := wa_of (mt_4 (i := 223) rfl) rfl
theorem q4_224 : (Jvm.Cond.methodLink "LeanTowerLaw" (43 : Nat) ({ cls := "LeanTowerModel", name := "tower", desc := "()I" } : Jvm.MethodName)) ∈ WA := wa_of (mt_4 (i := 224) rfl) rfl
theorem q4_225 : (Jvm.Cond.instanceMethod ({ cls := "LeanTowerModel", name := "tower", desc := "()I" } : Jvm.MethodName)) ∈ WA := wa_of (mt_4 (i := 225) rfl) rfl
theorem q4_226 : (Jvm.Cond.selects "LeanTowerModel" ({ cls := "LeanTowerModel", name := "tower", desc := "()I" } : Jvm.MethodName) ({ cls := "LeanTowerModel", name := "tower", desc := "()I" } : Jvm.MethodName)) ∈ WA := wa_of (mt_4 (i := 226) rfl) rfl
theorem q4_227 : (Jvm.Cond.code ({ cls := "LeanTowerModel", name := "tower", desc := "()I" } : Jvm.MethodName) prog_14_method_26_code (2 : Nat) (Option.some Jvm.ClassFile.FieldType.int)) ∈ WA := wa_of (mt_4 (i := 227) rfl) rfl
theorem q4_228 : (Jvm.Cond.methodLink "LeanTowerModel" (111 : Nat) ({ cls := "LeanTowerModel", name := "next", desc := "()V" } : Jvm.MethodName)) ∈ WA := wa_of (mt_4 (i := 228) rfl) rfl
theorem q4_229 : (Jvm.Cond.privateMethod ({ cls := "LeanTowerModel", name := "next", desc := "()V" } : Jvm.MethodName)) ∈ lw_tbl := mt_4 (i := 229) rfl
theorem q4_230 : (Jvm.Cond.instanceMethod ({ cls := "LeanTowerModel", name := "next", desc := "()V" } : Jvm.MethodName)) ∈ WA := wa_of (mt_4 (i := 230) rfl) rfl
theorem q4_231 : (Jvm.Cond.code ({ cls := "LeanTowerModel", name := "next", desc := "()V" } : Jvm.MethodName) prog_14_method_18_code (1 : Nat) (Option.none : Option Jvm.ClassFile.FieldType)) ∈ WA := wa_of (mt_4 (i := 231) rfl) rfl
theorem q4_232 : (Jvm.Cond.constantLong "LeanTowerModel" (91 : Nat) (97 : Int64)) ∈ WA := wa_of (mt_4 (i := 232) rfl) rfl
theorem q4_233 : (Jvm.Cond.constantLong "LeanTowerModel" (93 : Nat) (122 : Int64)) ∈ WA := wa_of (mt_4 (i := 233) rfl) rfl
theorem q4_234 : (Jvm.Cond.constantLong "LeanTowerModel" (95 : Nat) (32 : Int64)) ∈ WA := wa_of (mt_4 (i := 234) rfl) rfl
theorem q4_235 : (Jvm.Cond.constantLong "LeanTowerModel" (97 : Nat) (96 : Int64)) ∈ WA := wa_of (mt_4 (i := 235) rfl) rfl
theorem q4_236 : (Jvm.Cond.constantLong "LeanTowerModel" (99 : Nat) (-1 : Int64)) ∈ WA := wa_of (mt_4 (i := 236) rfl) rfl
theorem q4_237 : (Jvm.Cond.constantLong "LeanTowerModel" (101 : Nat) (48 : Int64)) ∈ WA := wa_of (mt_4 (i := 237) rfl) rfl
theorem q4_238 : (Jvm.Cond.constantLong "LeanTowerModel" (103 : Nat) (57 : Int64)) ∈ WA := wa_of (mt_4 (i := 238) rfl) rfl
theorem q4_239 : (Jvm.Cond.methodLink "LeanTowerModel" (137 : Nat) ({ cls := "LeanTowerModel", name := "takeLaw", desc := "()V" } : Jvm.MethodName)) ∈ WA := wa_of (mt_4 (i := 239) rfl) rfl
theorem q5_0 : (Jvm.Cond.privateMethod ({ cls := "LeanTowerModel", name := "takeLaw", desc := "()V" } : Jvm.MethodName)) ∈ lw_tbl := mt_5 (i := 0) rfl
theorem q5_1 : (Jvm.Cond.instanceMethod ({ cls := "LeanTowerModel", name := "takeLaw", desc := "()V" } : Jvm.MethodName)) ∈ WA := wa_of (mt_5 (i := 1) rfl) rfl
theorem q5_2 : (Jvm.Cond.code ({ cls := "LeanTowerModel", name := "takeLaw", desc := "()V" } : Jvm.MethodName) prog_14_method_22_code (1 : Nat) (Option.none : Option Jvm.ClassFile.FieldType)) ∈ WA := wa_of (mt_5 (i := 2) rfl) rfl
theorem q5_3 : (Jvm.Cond.constantLong "LeanTowerModel" (114 : Nat) (12343 : Int64)) ∈ WA := wa_of (mt_5 (i := 3) rfl) rfl
theorem q5_4 : (Jvm.Cond.methodLink "LeanTowerModel" (116 : Nat) ({ cls := "LeanTowerModel", name := "takeNumber", desc := "(III)I" } : Jvm.MethodName)) ∈ WA := wa_of (mt_5 (i := 4) rfl) rfl
theorem q5_5 : (Jvm.Cond.privateMethod ({ cls := "LeanTowerModel", name := "takeNumber", desc := "(III)I" } : Jvm.MethodName)) ∈ lw_tbl := mt_5 (i := 5) rfl
theorem q5_6 : (Jvm.Cond.instanceMethod ({ cls := "LeanTowerModel", name := "takeNumber", desc := "(III)I" } : Jvm.MethodName)) ∈ WA := wa_of (mt_5 (i := 6) rfl) rfl
theorem q5_7 : (Jvm.Cond.code ({ cls := "LeanTowerModel", name := "takeNumber", desc := "(III)I" } : Jvm.MethodName) prog_14_method_20_code (5 : Nat) (Option.some Jvm.ClassFile.FieldType.int)) ∈ WA := wa_of (mt_5 (i := 7) rfl) rfl
theorem q5_8 : (Jvm.Cond.methodLink "LeanTowerModel" (108 : Nat) ({ cls := "LeanTowerModel", name := "fails", desc := "(I)I" } : Jvm.MethodName)) ∈ WA := wa_of (mt_5 (i := 8) rfl) rfl
theorem q5_9 : (Jvm.Cond.privateMethod ({ cls := "LeanTowerModel", name := "fails", desc := "(I)I" } : Jvm.MethodName)) ∈ lw_tbl := mt_5 (i := 9) rfl
theorem q5_10 : (Jvm.Cond.instanceMethod ({ cls := "LeanTowerModel", name := "fails", desc := "(I)I" } : Jvm.MethodName)) ∈ WA := wa_of (mt_5 (i := 10) rfl) rfl
theorem q5_11 : (Jvm.Cond.code ({ cls := "LeanTowerModel", name := "fails", desc := "(I)I" } : Jvm.MethodName) prog_14_method_19_code (2 : Nat) (Option.some Jvm.ClassFile.FieldType.int)) ∈ WA := wa_of (mt_5 (i := 11) rfl) rfl
theorem q5_12 : (Jvm.Cond.methodLink "LeanTowerModel" (120 : Nat) ({ cls := "LeanTowerModel", name := "takeSign", desc := "()V" } : Jvm.MethodName)) ∈ WA := wa_of (mt_5 (i := 12) rfl) rfl
theorem q5_13 : (Jvm.Cond.privateMethod ({ cls := "LeanTowerModel", name := "takeSign", desc := "()V" } : Jvm.MethodName)) ∈ lw_tbl := mt_5 (i := 13) rfl
theorem q5_14 : (Jvm.Cond.instanceMethod ({ cls := "LeanTowerModel", name := "takeSign", desc := "()V" } : Jvm.MethodName)) ∈ WA := wa_of (mt_5 (i := 14) rfl) rfl
theorem q5_15 : (Jvm.Cond.code ({ cls := "LeanTowerModel", name := "takeSign", desc := "()V" } : Jvm.MethodName) prog_14_method_21_code (1 : Nat) (Option.none : Option Jvm.ClassFile.FieldType)) ∈ WA := wa_of (mt_5 (i := 15) rfl) rfl
theorem q5_16 : (Jvm.Cond.constantLong "LeanTowerModel" (140 : Nat) (542723566 : Int64)) ∈ WA := wa_of (mt_5 (i := 16) rfl) rfl
theorem q5_17 : (Jvm.Cond.methodLink "LeanTowerModel" (142 : Nat) ({ cls := "LeanTowerModel", name := "takePerson", desc := "()V" } : Jvm.MethodName)) ∈ WA := wa_of (mt_5 (i := 17) rfl) rfl
theorem q5_18 : (Jvm.Cond.privateMethod ({ cls := "LeanTowerModel", name := "takePerson", desc := "()V" } : Jvm.MethodName)) ∈ lw_tbl := mt_5 (i := 18) rfl
theorem q5_19 : (Jvm.Cond.instanceMethod ({ cls := "LeanTowerModel", name := "takePerson", desc := "()V" } : Jvm.MethodName)) ∈ WA := wa_of (mt_5 (i := 19) rfl) rfl
theorem q5_20 : (Jvm.Cond.code ({ cls := "LeanTowerModel", name := "takePerson", desc := "()V" } : Jvm.MethodName) prog_14_method_23_code (4 : Nat) (Option.none : Option Jvm.ClassFile.FieldType)) ∈ WA := wa_of (mt_5 (i := 20) rfl) rfl
theorem q5_21 : (Jvm.Cond.methodLink "LeanTowerModel" (123 : Nat) ({ cls := "LeanTowerModel", name := "sortOf", desc := "(J)I" } : Jvm.MethodName)) ∈ WA := wa_of (mt_5 (i := 21) rfl) rfl
theorem q5_22 : (Jvm.Cond.static ({ cls := "LeanTowerModel", name := "sortOf", desc := "(J)I" } : Jvm.MethodName)) ∈ WA := wa_of (mt_5 (i := 22) rfl) rfl
theorem q5_23 : (Jvm.Cond.code ({ cls := "LeanTowerModel", name := "sortOf", desc := "(J)I" } : Jvm.MethodName) prog_14_method_25_code (2 : Nat) (Option.some Jvm.ClassFile.FieldType.int)) ∈ WA := wa_of (mt_5 (i := 23) rfl) rfl
theorem q5_24 : (Jvm.Cond.constantLong "LeanTowerModel" (127 : Nat) (17494690093 : Int64)) ∈ WA := wa_of (mt_5 (i := 24) rfl) rfl
theorem q5_25 : (Jvm.Cond.constantLong "LeanTowerModel" (129 : Nat) (441803 : Int64)) ∈ WA := wa_of (mt_5 (i := 25) rfl) rfl
theorem q5_26 : (Jvm.Cond.constantLong "LeanTowerModel" (131 : Nat) (24416759 : Int64)) ∈ WA := wa_of (mt_5 (i := 26) rfl) rfl
theorem q5_27 : (Jvm.Cond.constantLong "LeanTowerModel" (133 : Nat) (77177328 : Int64)) ∈ WA := wa_of (mt_5 (i := 27) rfl) rfl
theorem q5_28 : (Jvm.Cond.constantLong "LeanTowerModel" (135 : Nat) (2553 : Int64)) ∈ WA := wa_of (mt_5 (i := 28) rfl) rfl
theorem q5_29 : (Jvm.Cond.constantLong "LeanTowerModel" (145 : Nat) (20594117 : Int64)) ∈ WA := wa_of (mt_5 (i := 29) rfl) rfl
theorem q5_30 : (Jvm.Cond.methodLink "LeanTowerModel" (147 : Nat) ({ cls := "LeanTowerModel", name := "takeStone", desc := "()V" } : Jvm.MethodName)) ∈ WA := wa_of (mt_5 (i := 30) rfl) rfl
theorem q5_31 : (Jvm.Cond.privateMethod ({ cls := "LeanTowerModel", name := "takeStone", desc := "()V" } : Jvm.MethodName)) ∈ lw_tbl := mt_5 (i := 31) rfl
theorem q5_32 : (Jvm.Cond.instanceMethod ({ cls := "LeanTowerModel", name := "takeStone", desc := "()V" } : Jvm.MethodName)) ∈ WA := wa_of (mt_5 (i := 32) rfl) rfl
theorem q5_33 : (Jvm.Cond.code ({ cls := "LeanTowerModel", name := "takeStone", desc := "()V" } : Jvm.MethodName) prog_14_method_24_code (2 : Nat) (Option.none : Option Jvm.ClassFile.FieldType)) ∈ WA := wa_of (mt_5 (i := 33) rfl) rfl
theorem q5_34 : (Jvm.Cond.constant "LeanTowerModel" (153 : Nat) (-1000100 : Int32)) ∈ WA := wa_of (mt_5 (i := 34) rfl) rfl
theorem q5_35 : (Jvm.Cond.methodLink "LeanTowerModel" (154 : Nat) ({ cls := "LeanTowerModel", name := "copyAll", desc := "(II)V" } : Jvm.MethodName)) ∈ WA := wa_of (mt_5 (i := 35) rfl) rfl
theorem q5_36 : (Jvm.Cond.privateMethod ({ cls := "LeanTowerModel", name := "copyAll", desc := "(II)V" } : Jvm.MethodName)) ∈ lw_tbl := mt_5 (i := 36) rfl
theorem q5_37 : (Jvm.Cond.instanceMethod ({ cls := "LeanTowerModel", name := "copyAll", desc := "(II)V" } : Jvm.MethodName)) ∈ WA := wa_of (mt_5 (i := 37) rfl) rfl
theorem q5_38 : (Jvm.Cond.code ({ cls := "LeanTowerModel", name := "copyAll", desc := "(II)V" } : Jvm.MethodName) prog_14_method_8_code (4 : Nat) (Option.none : Option Jvm.ClassFile.FieldType)) ∈ WA := wa_of (mt_5 (i := 38) rfl) rfl
theorem q5_39 : (Jvm.Cond.methodLink "LeanTowerLaw" (47 : Nat) ({ cls := "LeanTowerModel", name := "fault", desc := "()I" } : Jvm.MethodName)) ∈ WA := wa_of (mt_5 (i := 39) rfl) rfl
theorem q5_40 : (Jvm.Cond.instanceMethod ({ cls := "LeanTowerModel", name := "fault", desc := "()I" } : Jvm.MethodName)) ∈ WA := wa_of (mt_5 (i := 40) rfl) rfl
theorem q5_41 : (Jvm.Cond.selects "LeanTowerModel" ({ cls := "LeanTowerModel", name := "fault", desc := "()I" } : Jvm.MethodName) ({ cls := "LeanTowerModel", name := "fault", desc := "()I" } : Jvm.MethodName)) ∈ WA := wa_of (mt_5 (i := 41) rfl) rfl
theorem q5_42 : (Jvm.Cond.code ({ cls := "LeanTowerModel", name := "fault", desc := "()I" } : Jvm.MethodName) prog_14_method_27_code (1 : Nat) (Option.some Jvm.ClassFile.FieldType.int)) ∈ WA := wa_of (mt_5 (i := 42) rfl) rfl
theorem q5_43 : (Jvm.Cond.methodLink "LeanTowerLaw" (52 : Nat) ({ cls := "LeanTowerModel", name := "go", desc := "(II)I" } : Jvm.MethodName)) ∈ WA := wa_of (mt_5 (i := 43) rfl) rfl
theorem q5_44 : (Jvm.Cond.instanceMethod ({ cls := "LeanTowerModel", name := "go", desc := "(II)I" } : Jvm.MethodName)) ∈ WA := wa_of (mt_5 (i := 44) rfl) rfl
theorem q5_45 : (Jvm.Cond.selects "LeanTowerModel" ({ cls := "LeanTowerModel", name := "go", desc := "(II)I" } : Jvm.MethodName) ({ cls := "LeanTowerModel", name := "go", desc := "(II)I" } : Jvm.MethodName)) ∈ WA := wa_of (mt_5 (i := 45) rfl) rfl
theorem q5_46 : (Jvm.Cond.code ({ cls := "LeanTowerModel", name := "go", desc := "(II)I" } : Jvm.MethodName) prog_14_method_37_code (4 : Nat) (Option.some Jvm.ClassFile.FieldType.int)) ∈ WA := wa_of (mt_5 (i := 46) rfl) rfl
theorem q5_47 : (Jvm.Cond.methodLink "LeanTowerModel" (180 : Nat) ({ cls := "LeanTowerModel", name := "isOne", desc := "(I)Z" } : Jvm.MethodName)) ∈ WA := wa_of (mt_5 (i := 47) rfl) rfl
theorem q5_48 : (Jvm.Cond.privateMethod ({ cls := "LeanTowerModel", name := "isOne", desc := "(I)Z" } : Jvm.MethodName)) ∈ lw_tbl := mt_5 (i := 48) rfl
theorem q5_49 : (Jvm.Cond.instanceMethod ({ cls := "LeanTowerModel", name := "isOne", desc := "(I)Z" } : Jvm.MethodName)) ∈ WA := wa_of (mt_5 (i := 49) rfl) rfl
theorem q5_50 : (Jvm.Cond.code ({ cls := "LeanTowerModel", name := "isOne", desc := "(I)Z" } : Jvm.MethodName) prog_14_method_29_code (2 : Nat) (Option.some Jvm.ClassFile.FieldType.boolean)) ∈ WA := wa_of (mt_5 (i := 50) rfl) rfl
theorem q5_51 : (Jvm.Cond.methodLink "LeanTowerModel" (183 : Nat) ({ cls := "LeanTowerModel", name := "minds", desc := "()V" } : Jvm.MethodName)) ∈ WA := wa_of (mt_5 (i := 51) rfl) rfl
theorem q5_52 : (Jvm.Cond.privateMethod ({ cls := "LeanTowerModel", name := "minds", desc := "()V" } : Jvm.MethodName)) ∈ lw_tbl := mt_5 (i := 52) rfl
theorem q5_53 : (Jvm.Cond.instanceMethod ({ cls := "LeanTowerModel", name := "minds", desc := "()V" } : Jvm.MethodName)) ∈ WA := wa_of (mt_5 (i := 53) rfl) rfl
theorem q5_54 : (Jvm.Cond.code ({ cls := "LeanTowerModel", name := "minds", desc := "()V" } : Jvm.MethodName) prog_14_method_36_code (2 : Nat) (Option.none : Option Jvm.ClassFile.FieldType)) ∈ WA := wa_of (mt_5 (i := 54) rfl) rfl
theorem q5_55 : (Jvm.Cond.methodLink "LeanTowerLaw" (56 : Nat) ({ cls := "LeanTowerModel", name := "hang", desc := "(II)I" } : Jvm.MethodName)) ∈ WA := wa_of (mt_5 (i := 55) rfl) rfl
theorem q5_56 : (Jvm.Cond.instanceMethod ({ cls := "LeanTowerModel", name := "hang", desc := "(II)I" } : Jvm.MethodName)) ∈ WA := wa_of (mt_5 (i := 56) rfl) rfl
theorem q5_57 : (Jvm.Cond.selects "LeanTowerModel" ({ cls := "LeanTowerModel", name := "hang", desc := "(II)I" } : Jvm.MethodName) ({ cls := "LeanTowerModel", name := "hang", desc := "(II)I" } : Jvm.MethodName)) ∈ WA := wa_of (mt_5 (i := 57) rfl) rfl
theorem q5_58 : (Jvm.Cond.code ({ cls := "LeanTowerModel", name := "hang", desc := "(II)I" } : Jvm.MethodName) prog_14_method_38_code (4 : Nat) (Option.some Jvm.ClassFile.FieldType.int)) ∈ WA := wa_of (mt_5 (i := 58) rfl) rfl
theorem q5_59 : (Jvm.Cond.constantLong "LeanTowerModel" (186 : Nat) (3 : Int64)) ∈ WA := wa_of (mt_5 (i := 59) rfl) rfl
theorem q5_60 : (Jvm.Cond.methodLink "LeanTowerLaw" (60 : Nat) ({ cls := "LeanTowerModel", name := "halves", desc := "(I)I" } : Jvm.MethodName)) ∈ WA := wa_of (mt_5 (i := 60) rfl) rfl
theorem q5_61 : (Jvm.Cond.instanceMethod ({ cls := "LeanTowerModel", name := "halves", desc := "(I)I" } : Jvm.MethodName)) ∈ WA := wa_of (mt_5 (i := 61) rfl) rfl
theorem q5_62 : (Jvm.Cond.selects "LeanTowerModel" ({ cls := "LeanTowerModel", name := "halves", desc := "(I)I" } : Jvm.MethodName) ({ cls := "LeanTowerModel", name := "halves", desc := "(I)I" } : Jvm.MethodName)) ∈ WA := wa_of (mt_5 (i := 62) rfl) rfl
theorem q5_63 : (Jvm.Cond.code ({ cls := "LeanTowerModel", name := "halves", desc := "(I)I" } : Jvm.MethodName) prog_14_method_39_code (4 : Nat) (Option.some Jvm.ClassFile.FieldType.int)) ∈ WA := wa_of (mt_5 (i := 63) rfl) rfl
theorem q5_64 : (Jvm.Cond.methodLink "LeanTowerModel" (188 : Nat) ({ cls := "LeanTowerModel", name := "isTower", desc := "()Z" } : Jvm.MethodName)) ∈ WA := wa_of (mt_5 (i := 64) rfl) rfl
theorem q5_65 : (Jvm.Cond.privateMethod ({ cls := "LeanTowerModel", name := "isTower", desc := "()Z" } : Jvm.MethodName)) ∈ lw_tbl := mt_5 (i := 65) rfl
theorem q5_66 : (Jvm.Cond.instanceMethod ({ cls := "LeanTowerModel", name := "isTower", desc := "()Z" } : Jvm.MethodName)) ∈ WA := wa_of (mt_5 (i := 66) rfl) rfl
theorem q5_67 : (Jvm.Cond.code ({ cls := "LeanTowerModel", name := "isTower", desc := "()Z" } : Jvm.MethodName) prog_14_method_28_code (1 : Nat) (Option.some Jvm.ClassFile.FieldType.boolean)) ∈ WA := wa_of (mt_5 (i := 67) rfl) rfl
theorem q5_68 : (Jvm.Cond.constant "LeanTowerModel" (192 : Nat) (-1000002 : Int32)) ∈ WA := wa_of (mt_5 (i := 68) rfl) rfl
theorem q5_69 : (Jvm.Cond.constantLong "LeanTowerModel" (193 : Nat) (64 : Int64)) ∈ WA := wa_of (mt_5 (i := 69) rfl) rfl
theorem q5_70 : (Jvm.Cond.constant "LeanTowerModel" (195 : Nat) (-1000000 : Int32)) ∈ WA := wa_of (mt_5 (i := 70) rfl) rfl
theorem q5_71 : (Jvm.Cond.methodLink "LeanTowerModel" (196 : Nat) ({ cls := "LeanTowerModel", name := "half", desc := "(I)V" } : Jvm.MethodName)) ∈ WA := wa_of (mt_5 (i := 71) rfl) rfl
theorem q5_72 : (Jvm.Cond.privateMethod ({ cls := "LeanTowerModel", name := "half", desc := "(I)V" } : Jvm.MethodName)) ∈ lw_tbl := mt_5 (i := 72) rfl
theorem q5_73 : (Jvm.Cond.instanceMethod ({ cls := "LeanTowerModel", name := "half", desc := "(I)V" } : Jvm.MethodName)) ∈ WA := wa_of (mt_5 (i := 73) rfl) rfl
theorem q5_74 : (Jvm.Cond.code ({ cls := "LeanTowerModel", name := "half", desc := "(I)V" } : Jvm.MethodName) prog_14_method_35_code (5 : Nat) (Option.none : Option Jvm.ClassFile.FieldType)) ∈ WA := wa_of (mt_5 (i := 74) rfl) rfl
theorem q5_75 : (Jvm.Cond.methodLink "LeanTowerModel" (200 : Nat) ({ cls := "LeanTowerModel", name := "worstOf", desc := "(I)I" } : Jvm.MethodName)) ∈ WA := wa_of (mt_5 (i := 75) rfl) rfl
theorem q5_76 : (Jvm.Cond.privateMethod ({ cls := "LeanTowerModel", name := "worstOf", desc := "(I)I" } : Jvm.MethodName)) ∈ lw_tbl := mt_5 (i := 76) rfl
theorem q5_77 : (Jvm.Cond.instanceMethod ({ cls := "LeanTowerModel", name := "worstOf", desc := "(I)I" } : Jvm.MethodName)) ∈ WA := wa_of (mt_5 (i := 77) rfl) rfl
theorem q5_78 : (Jvm.Cond.code ({ cls := "LeanTowerModel", name := "worstOf", desc := "(I)I" } : Jvm.MethodName) prog_14_method_34_code (2 : Nat) (Option.some Jvm.ClassFile.FieldType.int)) ∈ WA := wa_of (mt_5 (i := 78) rfl) rfl
theorem q5_79 : (Jvm.Cond.methodLink "LeanTowerModel" (171 : Nat) ({ cls := "LeanTowerModel", name := "leanOf", desc := "(IZ)I" } : Jvm.MethodName)) ∈ WA := wa_of (mt_5 (i := 79) rfl) rfl
theorem q5_80 : (Jvm.Cond.privateMethod ({ cls := "LeanTowerModel", name := "leanOf", desc := "(IZ)I" } : Jvm.MethodName)) ∈ lw_tbl := mt_5 (i := 80) rfl
theorem q5_81 : (Jvm.Cond.instanceMethod ({ cls := "LeanTowerModel", name := "leanOf", desc := "(IZ)I" } : Jvm.MethodName)) ∈ WA := wa_of (mt_5 (i := 81) rfl) rfl
theorem q5_82 : (Jvm.Cond.code ({ cls := "LeanTowerModel", name := "leanOf", desc := "(IZ)I" } : Jvm.MethodName) prog_14_method_33_code (5 : Nat) (Option.some Jvm.ClassFile.FieldType.int)) ∈ WA := wa_of (mt_5 (i := 82) rfl) rfl
theorem q5_83 : (Jvm.Cond.methodLink "LeanTowerModel" (161 : Nat) ({ cls := "LeanTowerModel", name := "burdenOf", desc := "(I)I" } : Jvm.MethodName)) ∈ WA := wa_of (mt_5 (i := 83) rfl) rfl
theorem q5_84 : (Jvm.Cond.privateMethod ({ cls := "LeanTowerModel", name := "burdenOf", desc := "(I)I" } : Jvm.MethodName)) ∈ lw_tbl := mt_5 (i := 84) rfl
theorem q5_85 : (Jvm.Cond.instanceMethod ({ cls := "LeanTowerModel", name := "burdenOf", desc := "(I)I" } : Jvm.MethodName)) ∈ WA := wa_of (mt_5 (i := 85) rfl) rfl
theorem q5_86 : (Jvm.Cond.code ({ cls := "LeanTowerModel", name := "burdenOf", desc := "(I)I" } : Jvm.MethodName) prog_14_method_30_code (3 : Nat) (Option.some Jvm.ClassFile.FieldType.int)) ∈ WA := wa_of (mt_5 (i := 86) rfl) rfl
theorem q5_87 : (Jvm.Cond.methodLink "LeanTowerModel" (164 : Nat) ({ cls := "LeanTowerModel", name := "sideOf", desc := "(I)I" } : Jvm.MethodName)) ∈ WA := wa_of (mt_5 (i := 87) rfl) rfl
theorem q5_88 : (Jvm.Cond.privateMethod ({ cls := "LeanTowerModel", name := "sideOf", desc := "(I)I" } : Jvm.MethodName)) ∈ lw_tbl := mt_5 (i := 88) rfl
theorem q5_89 : (Jvm.Cond.instanceMethod ({ cls := "LeanTowerModel", name := "sideOf", desc := "(I)I" } : Jvm.MethodName)) ∈ WA := wa_of (mt_5 (i := 89) rfl) rfl
theorem q5_90 : (Jvm.Cond.code ({ cls := "LeanTowerModel", name := "sideOf", desc := "(I)I" } : Jvm.MethodName) prog_14_method_31_code (2 : Nat) (Option.some Jvm.ClassFile.FieldType.int)) ∈ WA := wa_of (mt_5 (i := 90) rfl) rfl
theorem q5_91 : (Jvm.Cond.methodLink "LeanTowerModel" (167 : Nat) ({ cls := "LeanTowerModel", name := "pull", desc := "(IZ)I" } : Jvm.MethodName)) ∈ WA := wa_of (mt_5 (i := 91) rfl) rfl
theorem q5_92 : (Jvm.Cond.static ({ cls := "LeanTowerModel", name := "pull", desc := "(IZ)I" } : Jvm.MethodName)) ∈ WA := wa_of (mt_5 (i := 92) rfl) rfl
theorem q5_93 : (Jvm.Cond.code ({ cls := "LeanTowerModel", name := "pull", desc := "(IZ)I" } : Jvm.MethodName) prog_14_method_32_code (2 : Nat) (Option.some Jvm.ClassFile.FieldType.int)) ∈ WA := wa_of (mt_5 (i := 93) rfl) rfl
theorem q5_94 : (Jvm.Cond.methodLink "LeanTowerModel" (174 : Nat) ({ cls := "LeanTowerModel", name := "sizeOf", desc := "(I)I" } : Jvm.MethodName)) ∈ WA := wa_of (mt_5 (i := 94) rfl) rfl
theorem q5_95 : (Jvm.Cond.static ({ cls := "LeanTowerModel", name := "sizeOf", desc := "(I)I" } : Jvm.MethodName)) ∈ WA := wa_of (mt_5 (i := 95) rfl) rfl
theorem q5_96 : (Jvm.Cond.code ({ cls := "LeanTowerModel", name := "sizeOf", desc := "(I)I" } : Jvm.MethodName) prog_14_method_5_code (1 : Nat) (Option.some Jvm.ClassFile.FieldType.int)) ∈ WA := wa_of (mt_5 (i := 96) rfl) rfl
theorem q5_97 : (Jvm.Cond.methodLink "LeanTowerModel" (177 : Nat) ({ cls := "LeanTowerModel", name := "greater", desc := "(II)I" } : Jvm.MethodName)) ∈ WA := wa_of (mt_5 (i := 97) rfl) rfl
theorem q5_98 : (Jvm.Cond.static ({ cls := "LeanTowerModel", name := "greater", desc := "(II)I" } : Jvm.MethodName)) ∈ WA := wa_of (mt_5 (i := 98) rfl) rfl
theorem q5_99 : (Jvm.Cond.code ({ cls := "LeanTowerModel", name := "greater", desc := "(II)I" } : Jvm.MethodName) prog_14_method_6_code (2 : Nat) (Option.some Jvm.ClassFile.FieldType.int)) ∈ WA := wa_of (mt_5 (i := 99) rfl) rfl
theorem q5_100 : (Jvm.Cond.methodLink "LeanTowerLaw" (64 : Nat) ({ cls := "LeanTowerModel", name := "year", desc := "()I" } : Jvm.MethodName)) ∈ WA := wa_of (mt_5 (i := 100) rfl) rfl
theorem q5_101 : (Jvm.Cond.instanceMethod ({ cls := "LeanTowerModel", name := "year", desc := "()I" } : Jvm.MethodName)) ∈ WA := wa_of (mt_5 (i := 101) rfl) rfl
theorem q5_102 : (Jvm.Cond.selects "LeanTowerModel" ({ cls := "LeanTowerModel", name := "year", desc := "()I" } : Jvm.MethodName) ({ cls := "LeanTowerModel", name := "year", desc := "()I" } : Jvm.MethodName)) ∈ WA := wa_of (mt_5 (i := 102) rfl) rfl
theorem q5_103 : (Jvm.Cond.code ({ cls := "LeanTowerModel", name := "year", desc := "()I" } : Jvm.MethodName) prog_14_method_41_code (1 : Nat) (Option.some Jvm.ClassFile.FieldType.int)) ∈ WA := wa_of (mt_5 (i := 103) rfl) rfl
theorem q5_104 : (Jvm.Cond.methodLink "LeanTowerModel" (203 : Nat) ({ cls := "LeanTowerModel", name := "creep", desc := "(I)V" } : Jvm.MethodName)) ∈ WA := wa_of (mt_5 (i := 104) rfl) rfl
theorem q5_105 : (Jvm.Cond.privateMethod ({ cls := "LeanTowerModel", name := "creep", desc := "(I)V" } : Jvm.MethodName)) ∈ lw_tbl := mt_5 (i := 105) rfl
theorem q5_106 : (Jvm.Cond.instanceMethod ({ cls := "LeanTowerModel", name := "creep", desc := "(I)V" } : Jvm.MethodName)) ∈ WA := wa_of (mt_5 (i := 106) rfl) rfl
theorem q5_107 : (Jvm.Cond.code ({ cls := "LeanTowerModel", name := "creep", desc := "(I)V" } : Jvm.MethodName) prog_14_method_40_code (4 : Nat) (Option.none : Option Jvm.ClassFile.FieldType)) ∈ WA := wa_of (mt_5 (i := 107) rfl) rfl
theorem q5_108 : (Jvm.Cond.methodLink "LeanTowerLaw" (68 : Nat) ({ cls := "LeanTowerModel", name := "undo", desc := "()I" } : Jvm.MethodName)) ∈ WA := wa_of (mt_5 (i := 108) rfl) rfl
theorem q5_109 : (Jvm.Cond.instanceMethod ({ cls := "LeanTowerModel", name := "undo", desc := "()I" } : Jvm.MethodName)) ∈ WA := wa_of (mt_5 (i := 109) rfl) rfl
theorem q5_110 : (Jvm.Cond.selects "LeanTowerModel" ({ cls := "LeanTowerModel", name := "undo", desc := "()I" } : Jvm.MethodName) ({ cls := "LeanTowerModel", name := "undo", desc := "()I" } : Jvm.MethodName)) ∈ WA := wa_of (mt_5 (i := 110) rfl) rfl
theorem q5_111 : (Jvm.Cond.code ({ cls := "LeanTowerModel", name := "undo", desc := "()I" } : Jvm.MethodName) prog_14_method_42_code (1 : Nat) (Option.some Jvm.ClassFile.FieldType.int)) ∈ WA := wa_of (mt_5 (i := 111) rfl) rfl
theorem q5_112 : (Jvm.Cond.methodLink "LeanTowerLaw" (72 : Nat) ({ cls := "LeanTowerModel", name := "person", desc := "(II)I" } : Jvm.MethodName)) ∈ WA := wa_of (mt_5 (i := 112) rfl) rfl
theorem q5_113 : (Jvm.Cond.instanceMethod ({ cls := "LeanTowerModel", name := "person", desc := "(II)I" } : Jvm.MethodName)) ∈ WA := wa_of (mt_5 (i := 113) rfl) rfl
theorem q5_114 : (Jvm.Cond.selects "LeanTowerModel" ({ cls := "LeanTowerModel", name := "person", desc := "(II)I" } : Jvm.MethodName) ({ cls := "LeanTowerModel", name := "person", desc := "(II)I" } : Jvm.MethodName)) ∈ WA := wa_of (mt_5 (i := 114) rfl) rfl
theorem q5_115 : (Jvm.Cond.code ({ cls := "LeanTowerModel", name := "person", desc := "(II)I" } : Jvm.MethodName) prog_14_method_43_code (4 : Nat) (Option.some Jvm.ClassFile.FieldType.int)) ∈ WA := wa_of (mt_5 (i := 115) rfl) rfl
theorem q5_116 : (Jvm.Cond.constantLong "LeanTowerModel" (206 : Nat) (4 : Int64)) ∈ WA := wa_of (mt_5 (i := 116) rfl) rfl
theorem q5_117 : (Jvm.Cond.methodLink "LeanTowerLaw" (76 : Nat) ({ cls := "LeanTowerModel", name := "lean", desc := "(I)I" } : Jvm.MethodName)) ∈ WA := wa_of (mt_5 (i := 117) rfl) rfl
theorem q5_118 : (Jvm.Cond.instanceMethod ({ cls := "LeanTowerModel", name := "lean", desc := "(I)I" } : Jvm.MethodName)) ∈ WA := wa_of (mt_5 (i := 118) rfl) rfl
theorem q5_119 : (Jvm.Cond.selects "LeanTowerModel" ({ cls := "LeanTowerModel", name := "lean", desc := "(I)I" } : Jvm.MethodName) ({ cls := "LeanTowerModel", name := "lean", desc := "(I)I" } : Jvm.MethodName)) ∈ WA := wa_of (mt_5 (i := 119) rfl) rfl
theorem q5_120 : (Jvm.Cond.code ({ cls := "LeanTowerModel", name := "lean", desc := "(I)I" } : Jvm.MethodName) prog_14_method_44_code (2 : Nat) (Option.some Jvm.ClassFile.FieldType.int)) ∈ WA := wa_of (mt_5 (i := 120) rfl) rfl
theorem q5_121 : (Jvm.Cond.methodLink "LeanTowerLaw" (80 : Nat) ({ cls := "LeanTowerModel", name := "worst", desc := "(I)I" } : Jvm.MethodName)) ∈ WA := wa_of (mt_5 (i := 121) rfl) rfl
theorem q5_122 : (Jvm.Cond.instanceMethod ({ cls := "LeanTowerModel", name := "worst", desc := "(I)I" } : Jvm.MethodName)) ∈ WA := wa_of (mt_5 (i := 122) rfl) rfl
theorem q5_123 : (Jvm.Cond.selects "LeanTowerModel" ({ cls := "LeanTowerModel", name := "worst", desc := "(I)I" } : Jvm.MethodName) ({ cls := "LeanTowerModel", name := "worst", desc := "(I)I" } : Jvm.MethodName)) ∈ WA := wa_of (mt_5 (i := 123) rfl) rfl
theorem q5_124 : (Jvm.Cond.code ({ cls := "LeanTowerModel", name := "worst", desc := "(I)I" } : Jvm.MethodName) prog_14_method_47_code (3 : Nat) (Option.some Jvm.ClassFile.FieldType.int)) ∈ WA := wa_of (mt_5 (i := 124) rfl) rfl
theorem q5_125 : (Jvm.Cond.methodLink "LeanTowerModel" (214 : Nat) ({ cls := "LeanTowerModel", name := "foretellNow", desc := "()I" } : Jvm.MethodName)) ∈ WA := wa_of (mt_5 (i := 125) rfl) rfl
theorem q5_126 : (Jvm.Cond.privateMethod ({ cls := "LeanTowerModel", name := "foretellNow", desc := "()I" } : Jvm.MethodName)) ∈ lw_tbl := mt_5 (i := 126) rfl
theorem q5_127 : (Jvm.Cond.instanceMethod ({ cls := "LeanTowerModel", name := "foretellNow", desc := "()I" } : Jvm.MethodName)) ∈ WA := wa_of (mt_5 (i := 127) rfl) rfl
theorem q5_128 : (Jvm.Cond.code ({ cls := "LeanTowerModel", name := "foretellNow", desc := "()I" } : Jvm.MethodName) prog_14_method_46_code (1 : Nat) (Option.some Jvm.ClassFile.FieldType.int)) ∈ WA := wa_of (mt_5 (i := 128) rfl) rfl
theorem q5_129 : (Jvm.Cond.methodLink "LeanTowerModel" (211 : Nat) ({ cls := "LeanTowerModel", name := "foretell", desc := "(II)I" } : Jvm.MethodName)) ∈ WA := wa_of (mt_5 (i := 129) rfl) rfl
theorem q5_130 : (Jvm.Cond.privateMethod ({ cls := "LeanTowerModel", name := "foretell", desc := "(II)I" } : Jvm.MethodName)) ∈ lw_tbl := mt_5 (i := 130) rfl
theorem q5_131 : (Jvm.Cond.instanceMethod ({ cls := "LeanTowerModel", name := "foretell", desc := "(II)I" } : Jvm.MethodName)) ∈ WA := wa_of (mt_5 (i := 131) rfl) rfl
theorem q5_132 : (Jvm.Cond.code ({ cls := "LeanTowerModel", name := "foretell", desc := "(II)I" } : Jvm.MethodName) prog_14_method_45_code (6 : Nat) (Option.some Jvm.ClassFile.FieldType.int)) ∈ WA := wa_of (mt_5 (i := 132) rfl) rfl
theorem q5_133 : (Jvm.Cond.methodLink "LeanTowerLaw" (84 : Nat) ({ cls := "LeanTowerModel", name := "most", desc := "()I" } : Jvm.MethodName)) ∈ WA := wa_of (mt_5 (i := 133) rfl) rfl
theorem q5_134 : (Jvm.Cond.instanceMethod ({ cls := "LeanTowerModel", name := "most", desc := "()I" } : Jvm.MethodName)) ∈ WA := wa_of (mt_5 (i := 134) rfl) rfl
theorem q5_135 : (Jvm.Cond.selects "LeanTowerModel" ({ cls := "LeanTowerModel", name := "most", desc := "()I" } : Jvm.MethodName) ({ cls := "LeanTowerModel", name := "most", desc := "()I" } : Jvm.MethodName)) ∈ WA := wa_of (mt_5 (i := 135) rfl) rfl
theorem q5_136 : (Jvm.Cond.code ({ cls := "LeanTowerModel", name := "most", desc := "()I" } : Jvm.MethodName) prog_14_method_48_code (5 : Nat) (Option.some Jvm.ClassFile.FieldType.int)) ∈ WA := wa_of (mt_5 (i := 136) rfl) rfl
theorem q5_137 : (Jvm.Cond.methodLink "LeanTowerModel" (218 : Nat) ({ cls := "LeanTowerModel", name := "ones", desc := "(I)I" } : Jvm.MethodName)) ∈ WA := wa_of (mt_5 (i := 137) rfl) rfl
theorem q5_138 : (Jvm.Cond.static ({ cls := "LeanTowerModel", name := "ones", desc := "(I)I" } : Jvm.MethodName)) ∈ WA := wa_of (mt_5 (i := 138) rfl) rfl
theorem q5_139 : (Jvm.Cond.code ({ cls := "LeanTowerModel", name := "ones", desc := "(I)I" } : Jvm.MethodName) prog_14_method_7_code (3 : Nat) (Option.some Jvm.ClassFile.FieldType.int)) ∈ WA := wa_of (mt_5 (i := 139) rfl) rfl
theorem q5_140 : (Jvm.Cond.methodLink "LeanTowerModel" (221 : Nat) ({ cls := "LeanTowerModel", name := "has", desc := "(II)Z" } : Jvm.MethodName)) ∈ WA := wa_of (mt_5 (i := 140) rfl) rfl
theorem q5_141 : (Jvm.Cond.static ({ cls := "LeanTowerModel", name := "has", desc := "(II)Z" } : Jvm.MethodName)) ∈ WA := wa_of (mt_5 (i := 141) rfl) rfl
theorem q5_142 : (Jvm.Cond.code ({ cls := "LeanTowerModel", name := "has", desc := "(II)Z" } : Jvm.MethodName) prog_14_method_4_code (2 : Nat) (Option.some Jvm.ClassFile.FieldType.boolean)) ∈ WA := wa_of (mt_5 (i := 142) rfl) rfl
theorem q5_143 : (Jvm.Cond.methodLink "LeanTowerLaw" (88 : Nat) ({ cls := "LeanTowerModel", name := "two", desc := "(III)I" } : Jvm.MethodName)) ∈ WA := wa_of (mt_5 (i := 143) rfl) rfl
theorem q5_144 : (Jvm.Cond.instanceMethod ({ cls := "LeanTowerModel", name := "two", desc := "(III)I" } : Jvm.MethodName)) ∈ WA := wa_of (mt_5 (i := 144) rfl) rfl
theorem q5_145 : (Jvm.Cond.selects "LeanTowerModel" ({ cls := "LeanTowerModel", name := "two", desc := "(III)I" } : Jvm.MethodName) ({ cls := "LeanTowerModel", name := "two", desc := "(III)I" } : Jvm.MethodName)) ∈ WA := wa_of (mt_5 (i := 145) rfl) rfl
theorem q5_146 : (Jvm.Cond.code ({ cls := "LeanTowerModel", name := "two", desc := "(III)I" } : Jvm.MethodName) prog_14_method_49_code (8 : Nat) (Option.some Jvm.ClassFile.FieldType.int)) ∈ WA := wa_of (mt_5 (i := 146) rfl) rfl
theorem q5_147 : (Jvm.Cond.methodLink "LeanTowerLaw" (92 : Nat) ({ cls := "LeanTowerModel", name := "stones", desc := "(I)I" } : Jvm.MethodName)) ∈ WA := wa_of (mt_5 (i := 147) rfl) rfl
theorem q5_148 : (Jvm.Cond.instanceMethod ({ cls := "LeanTowerModel", name := "stones", desc := "(I)I" } : Jvm.MethodName)) ∈ WA := wa_of (mt_5 (i := 148) rfl) rfl
theorem q5_149 : (Jvm.Cond.selects "LeanTowerModel" ({ cls := "LeanTowerModel", name := "stones", desc := "(I)I" } : Jvm.MethodName) ({ cls := "LeanTowerModel", name := "stones", desc := "(I)I" } : Jvm.MethodName)) ∈ WA := wa_of (mt_5 (i := 149) rfl) rfl
theorem q5_150 : (Jvm.Cond.code ({ cls := "LeanTowerModel", name := "stones", desc := "(I)I" } : Jvm.MethodName) prog_14_method_50_code (7 : Nat) (Option.some Jvm.ClassFile.FieldType.int)) ∈ WA := wa_of (mt_5 (i := 150) rfl) rfl
theorem q5_151 : (Jvm.Cond.methodLink "LeanTowerLaw" (97 : Nat) ({ cls := "LeanTowerModel", name := "marks", desc := "(IIII)I" } : Jvm.MethodName)) ∈ WA := wa_of (mt_5 (i := 151) rfl) rfl
theorem q5_152 : (Jvm.Cond.instanceMethod ({ cls := "LeanTowerModel", name := "marks", desc := "(IIII)I" } : Jvm.MethodName)) ∈ WA := wa_of (mt_5 (i := 152) rfl) rfl
theorem q5_153 : (Jvm.Cond.selects "LeanTowerModel" ({ cls := "LeanTowerModel", name := "marks", desc := "(IIII)I" } : Jvm.MethodName) ({ cls := "LeanTowerModel", name := "marks", desc := "(IIII)I" } : Jvm.MethodName)) ∈ WA := wa_of (mt_5 (i := 153) rfl) rfl
theorem q5_154 : (Jvm.Cond.code ({ cls := "LeanTowerModel", name := "marks", desc := "(IIII)I" } : Jvm.MethodName) prog_14_method_51_code (8 : Nat) (Option.some Jvm.ClassFile.FieldType.int)) ∈ WA := wa_of (mt_5 (i := 154) rfl) rfl
theorem q5_155 : (Jvm.Cond.constantLong "LeanTowerModel" (225 : Nat) (-999 : Int64)) ∈ WA := wa_of (mt_5 (i := 155) rfl) rfl
theorem q5_156 : (Jvm.Cond.constantLong "LeanTowerModel" (227 : Nat) (999 : Int64)) ∈ WA := wa_of (mt_5 (i := 156) rfl) rfl
theorem q5_157 : (Jvm.Cond.methodLink "LeanTowerLaw" (101 : Nat) ({ cls := "LeanTowerModel", name := "rescue", desc := "(I)I" } : Jvm.MethodName)) ∈ WA := wa_of (mt_5 (i := 157) rfl) rfl
theorem q5_158 : (Jvm.Cond.instanceMethod ({ cls := "LeanTowerModel", name := "rescue", desc := "(I)I" } : Jvm.MethodName)) ∈ WA := wa_of (mt_5 (i := 158) rfl) rfl
theorem q5_159 : (Jvm.Cond.selects "LeanTowerModel" ({ cls := "LeanTowerModel", name := "rescue", desc := "(I)I" } : Jvm.MethodName) ({ cls := "LeanTowerModel", name := "rescue", desc := "(I)I" } : Jvm.MethodName)) ∈ WA := wa_of (mt_5 (i := 159) rfl) rfl
theorem q5_160 : (Jvm.Cond.code ({ cls := "LeanTowerModel", name := "rescue", desc := "(I)I" } : Jvm.MethodName) prog_14_method_53_code (7 : Nat) (Option.some Jvm.ClassFile.FieldType.int)) ∈ WA := wa_of (mt_5 (i := 160) rfl) rfl
theorem q5_161 : (Jvm.Cond.methodLink "LeanTowerModel" (229 : Nat) ({ cls := "LeanTowerModel", name := "isSafe", desc := "(I)Z" } : Jvm.MethodName)) ∈ WA := wa_of (mt_5 (i := 161) rfl) rfl
theorem q5_162 : (Jvm.Cond.privateMethod ({ cls := "LeanTowerModel", name := "isSafe", desc := "(I)Z" } : Jvm.MethodName)) ∈ lw_tbl := mt_5 (i := 162) rfl
theorem q5_163 : (Jvm.Cond.instanceMethod ({ cls := "LeanTowerModel", name := "isSafe", desc := "(I)Z" } : Jvm.MethodName)) ∈ WA := wa_of (mt_5 (i := 163) rfl) rfl
theorem q5_164 : (Jvm.Cond.code ({ cls := "LeanTowerModel", name := "isSafe", desc := "(I)Z" } : Jvm.MethodName) prog_14_method_52_code (3 : Nat) (Option.some Jvm.ClassFile.FieldType.boolean)) ∈ WA := wa_of (mt_5 (i := 164) rfl) rfl
theorem q5_165 : (Jvm.Cond.methodLink "LeanTowerLaw" (105 : Nat) ({ cls := "LeanTowerModel", name := "fall", desc := "()I" } : Jvm.MethodName)) ∈ WA := wa_of (mt_5 (i := 165) rfl) rfl
theorem q5_166 : (Jvm.Cond.instanceMethod ({ cls := "LeanTowerModel", name := "fall", desc := "()I" } : Jvm.MethodName)) ∈ WA := wa_of (mt_5 (i := 166) rfl) rfl
theorem q5_167 : (Jvm.Cond.selects "LeanTowerModel" ({ cls := "LeanTowerModel", name := "fall", desc := "()I" } : Jvm.MethodName) ({ cls := "LeanTowerModel", name := "fall", desc := "()I" } : Jvm.MethodName)) ∈ WA := wa_of (mt_5 (i := 167) rfl) rfl
theorem q5_168 : (Jvm.Cond.code ({ cls := "LeanTowerModel", name := "fall", desc := "()I" } : Jvm.MethodName) prog_14_method_54_code (2 : Nat) (Option.some Jvm.ClassFile.FieldType.int)) ∈ WA := wa_of (mt_5 (i := 168) rfl) rfl
theorem q5_169 : (Jvm.Cond.methodLink "LeanTowerLaw" (109 : Nat) ({ cls := "LeanTowerModel", name := "bells", desc := "(III)I" } : Jvm.MethodName)) ∈ WA := wa_of (mt_5 (i := 169) rfl) rfl
theorem q5_170 : (Jvm.Cond.instanceMethod ({ cls := "LeanTowerModel", name := "bells", desc := "(III)I" } : Jvm.MethodName)) ∈ WA := wa_of (mt_5 (i := 170) rfl) rfl
theorem q5_171 : (Jvm.Cond.selects "LeanTowerModel" ({ cls := "LeanTowerModel", name := "bells", desc := "(III)I" } : Jvm.MethodName) ({ cls := "LeanTowerModel", name := "bells", desc := "(III)I" } : Jvm.MethodName)) ∈ WA := wa_of (mt_5 (i := 171) rfl) rfl
theorem q5_172 : (Jvm.Cond.code ({ cls := "LeanTowerModel", name := "bells", desc := "(III)I" } : Jvm.MethodName) prog_14_method_55_code (14 : Nat) (Option.some Jvm.ClassFile.FieldType.int)) ∈ WA := wa_of (mt_5 (i := 172) rfl) rfl
theorem q5_173 : (Jvm.Cond.constantLong "LeanTowerModel" (232 : Nat) (5 : Int64)) ∈ WA := wa_of (mt_5 (i := 173) rfl) rfl
theorem q5_174 : (Jvm.Cond.constantLong "LeanTowerModel" (234 : Nat) (20 : Int64)) ∈ WA := wa_of (mt_5 (i := 174) rfl) rfl
theorem q5_175 : (Jvm.Cond.methodLink "LeanTowerLaw" (113 : Nat) ({ cls := "LeanTowerModel", name := "image", desc := "(I)I" } : Jvm.MethodName)) ∈ WA := wa_of (mt_5 (i := 175) rfl) rfl
theorem q5_176 : (Jvm.Cond.instanceMethod ({ cls := "LeanTowerModel", name := "image", desc := "(I)I" } : Jvm.MethodName)) ∈ WA := wa_of (mt_5 (i := 176) rfl) rfl
theorem q5_177 : (Jvm.Cond.selects "LeanTowerModel" ({ cls := "LeanTowerModel", name := "image", desc := "(I)I" } : Jvm.MethodName) ({ cls := "LeanTowerModel", name := "image", desc := "(I)I" } : Jvm.MethodName)) ∈ WA := wa_of (mt_5 (i := 177) rfl) rfl
theorem q5_178 : (Jvm.Cond.code ({ cls := "LeanTowerModel", name := "image", desc := "(I)I" } : Jvm.MethodName) prog_14_method_56_code (2 : Nat) (Option.some Jvm.ClassFile.FieldType.int)) ∈ WA := wa_of (mt_5 (i := 178) rfl) rfl
theorem q5_179 : (Jvm.Cond.methodLink "LeanTowerLaw" (117 : Nat) ({ cls := "LeanTowerModel", name := "restore", desc := "(I)I" } : Jvm.MethodName)) ∈ WA := wa_of (mt_5 (i := 179) rfl) rfl
theorem q5_180 : (Jvm.Cond.instanceMethod ({ cls := "LeanTowerModel", name := "restore", desc := "(I)I" } : Jvm.MethodName)) ∈ WA := wa_of (mt_5 (i := 180) rfl) rfl
theorem q5_181 : (Jvm.Cond.selects "LeanTowerModel" ({ cls := "LeanTowerModel", name := "restore", desc := "(I)I" } : Jvm.MethodName) ({ cls := "LeanTowerModel", name := "restore", desc := "(I)I" } : Jvm.MethodName)) ∈ WA := wa_of (mt_5 (i := 181) rfl) rfl
theorem q5_182 : (Jvm.Cond.code ({ cls := "LeanTowerModel", name := "restore", desc := "(I)I" } : Jvm.MethodName) prog_14_method_57_code (2 : Nat) (Option.some Jvm.ClassFile.FieldType.int)) ∈ WA := wa_of (mt_5 (i := 182) rfl) rfl
theorem q5_183 : (Jvm.Cond.methodLink "LeanTowerLaw" (121 : Nat) ({ cls := "LeanTowerModel", name := "kind", desc := "(I)I" } : Jvm.MethodName)) ∈ WA := wa_of (mt_5 (i := 183) rfl) rfl
theorem q5_184 : (Jvm.Cond.instanceMethod ({ cls := "LeanTowerModel", name := "kind", desc := "(I)I" } : Jvm.MethodName)) ∈ WA := wa_of (mt_5 (i := 184) rfl) rfl
theorem q5_185 : (Jvm.Cond.selects "LeanTowerModel" ({ cls := "LeanTowerModel", name := "kind", desc := "(I)I" } : Jvm.MethodName) ({ cls := "LeanTowerModel", name := "kind", desc := "(I)I" } : Jvm.MethodName)) ∈ WA := wa_of (mt_5 (i := 185) rfl) rfl
theorem q5_186 : (Jvm.Cond.code ({ cls := "LeanTowerModel", name := "kind", desc := "(I)I" } : Jvm.MethodName) prog_14_method_58_code (2 : Nat) (Option.some Jvm.ClassFile.FieldType.int)) ∈ WA := wa_of (mt_5 (i := 186) rfl) rfl
theorem q5_187 : (Jvm.Cond.methodLink "LeanTowerLaw" (125 : Nat) ({ cls := "LeanTowerModel", name := "as", desc := "(II)I" } : Jvm.MethodName)) ∈ WA := wa_of (mt_5 (i := 187) rfl) rfl
theorem q5_188 : (Jvm.Cond.instanceMethod ({ cls := "LeanTowerModel", name := "as", desc := "(II)I" } : Jvm.MethodName)) ∈ WA := wa_of (mt_5 (i := 188) rfl) rfl
theorem q5_189 : (Jvm.Cond.selects "LeanTowerModel" ({ cls := "LeanTowerModel", name := "as", desc := "(II)I" } : Jvm.MethodName) ({ cls := "LeanTowerModel", name := "as", desc := "(II)I" } : Jvm.MethodName)) ∈ WA := wa_of (mt_5 (i := 189) rfl) rfl
theorem q5_190 : (Jvm.Cond.code ({ cls := "LeanTowerModel", name := "as", desc := "(II)I" } : Jvm.MethodName) prog_14_method_60_code (3 : Nat) (Option.some Jvm.ClassFile.FieldType.int)) ∈ WA := wa_of (mt_5 (i := 190) rfl) rfl
theorem q5_191 : (Jvm.Cond.methodLink "LeanTowerModel" (236 : Nat) ({ cls := "LeanTowerModel", name := "isOf", desc := "(II)Z" } : Jvm.MethodName)) ∈ WA := wa_of (mt_5 (i := 191) rfl) rfl
theorem q5_192 : (Jvm.Cond.static ({ cls := "LeanTowerModel", name := "isOf", desc := "(II)Z" } : Jvm.MethodName)) ∈ WA := wa_of (mt_5 (i := 192) rfl) rfl
theorem q5_193 : (Jvm.Cond.code ({ cls := "LeanTowerModel", name := "isOf", desc := "(II)Z" } : Jvm.MethodName) prog_14_method_59_code (2 : Nat) (Option.some Jvm.ClassFile.FieldType.boolean)) ∈ WA := wa_of (mt_5 (i := 193) rfl) rfl
theorem q5_194 : (Jvm.Cond.methodLink "LeanTowerLaw" (129 : Nat) ({ cls := "LeanTowerModel", name := "ask", desc := "(II)I" } : Jvm.MethodName)) ∈ WA := wa_of (mt_5 (i := 194) rfl) rfl
theorem q5_195 : (Jvm.Cond.instanceMethod ({ cls := "LeanTowerModel", name := "ask", desc := "(II)I" } : Jvm.MethodName)) ∈ WA := wa_of (mt_5 (i := 195) rfl) rfl
theorem q5_196 : (Jvm.Cond.selects "LeanTowerModel" ({ cls := "LeanTowerModel", name := "ask", desc := "(II)I" } : Jvm.MethodName) ({ cls := "LeanTowerModel", name := "ask", desc := "(II)I" } : Jvm.MethodName)) ∈ WA := wa_of (mt_5 (i := 196) rfl) rfl
theorem q5_197 : (Jvm.Cond.code ({ cls := "LeanTowerModel", name := "ask", desc := "(II)I" } : Jvm.MethodName) prog_14_method_64_code (3 : Nat) (Option.some Jvm.ClassFile.FieldType.int)) ∈ WA := wa_of (mt_5 (i := 197) rfl) rfl
theorem q5_198 : (Jvm.Cond.methodLink "LeanTowerModel" (249 : Nat) ({ cls := "LeanTowerModel", name := "size", desc := "(I)I" } : Jvm.MethodName)) ∈ WA := wa_of (mt_5 (i := 198) rfl) rfl
theorem q5_199 : (Jvm.Cond.privateMethod ({ cls := "LeanTowerModel", name := "size", desc := "(I)I" } : Jvm.MethodName)) ∈ lw_tbl := mt_5 (i := 199) rfl
theorem q5_200 : (Jvm.Cond.instanceMethod ({ cls := "LeanTowerModel", name := "size", desc := "(I)I" } : Jvm.MethodName)) ∈ WA := wa_of (mt_5 (i := 200) rfl) rfl
theorem q5_201 : (Jvm.Cond.code ({ cls := "LeanTowerModel", name := "size", desc := "(I)I" } : Jvm.MethodName) prog_14_method_63_code (3 : Nat) (Option.some Jvm.ClassFile.FieldType.int)) ∈ WA := wa_of (mt_5 (i := 201) rfl) rfl
theorem q5_202 : (Jvm.Cond.methodLink "LeanTowerModel" (242 : Nat) ({ cls := "LeanTowerModel", name := "leaves", desc := "(III)V" } : Jvm.MethodName)) ∈ WA := wa_of (mt_5 (i := 202) rfl) rfl
theorem q5_203 : (Jvm.Cond.privateMethod ({ cls := "LeanTowerModel", name := "leaves", desc := "(III)V" } : Jvm.MethodName)) ∈ lw_tbl := mt_5 (i := 203) rfl
theorem q5_204 : (Jvm.Cond.instanceMethod ({ cls := "LeanTowerModel", name := "leaves", desc := "(III)V" } : Jvm.MethodName)) ∈ WA := wa_of (mt_5 (i := 204) rfl) rfl
theorem q5_205 : (Jvm.Cond.code ({ cls := "LeanTowerModel", name := "leaves", desc := "(III)V" } : Jvm.MethodName) prog_14_method_61_code (4 : Nat) (Option.none : Option Jvm.ClassFile.FieldType)) ∈ WA := wa_of (mt_5 (i := 205) rfl) rfl
theorem q5_206 : (Jvm.Cond.methodLink "LeanTowerModel" (246 : Nat) ({ cls := "LeanTowerModel", name := "plainMark", desc := "(I)I" } : Jvm.MethodName)) ∈ WA := wa_of (mt_5 (i := 206) rfl) rfl
theorem q5_207 : (Jvm.Cond.privateMethod ({ cls := "LeanTowerModel", name := "plainMark", desc := "(I)I" } : Jvm.MethodName)) ∈ lw_tbl := mt_5 (i := 207) rfl
theorem q5_208 : (Jvm.Cond.instanceMethod ({ cls := "LeanTowerModel", name := "plainMark", desc := "(I)I" } : Jvm.MethodName)) ∈ WA := wa_of (mt_5 (i := 208) rfl) rfl
theorem q5_209 : (Jvm.Cond.code ({ cls := "LeanTowerModel", name := "plainMark", desc := "(I)I" } : Jvm.MethodName) prog_14_method_62_code (3 : Nat) (Option.some Jvm.ClassFile.FieldType.int)) ∈ WA := wa_of (mt_5 (i := 209) rfl) rfl
theorem q5_210 : (Jvm.Cond.methodLink "LeanTowerLaw" (133 : Nat) ({ cls := "LeanTowerModel", name := "trace", desc := "(I)I" } : Jvm.MethodName)) ∈ WA := wa_of (mt_5 (i := 210) rfl) rfl
theorem q5_211 : (Jvm.Cond.instanceMethod ({ cls := "LeanTowerModel", name := "trace", desc := "(I)I" } : Jvm.MethodName)) ∈ WA := wa_of (mt_5 (i := 211) rfl) rfl
theorem q5_212 : (Jvm.Cond.selects "LeanTowerModel" ({ cls := "LeanTowerModel", name := "trace", desc := "(I)I" } : Jvm.MethodName) ({ cls := "LeanTowerModel", name := "trace", desc := "(I)I" } : Jvm.MethodName)) ∈ WA := wa_of (mt_5 (i := 212) rfl) rfl
theorem q5_213 : (Jvm.Cond.code ({ cls := "LeanTowerModel", name := "trace", desc := "(I)I" } : Jvm.MethodName) prog_14_method_65_code (2 : Nat) (Option.some Jvm.ClassFile.FieldType.int)) ∈ WA := wa_of (mt_5 (i := 213) rfl) rfl
theorem q5_214 : (Jvm.Cond.methodLink "LeanTowerLaw" (137 : Nat) ({ cls := "LeanTowerModel", name := "count", desc := "(I)I" } : Jvm.MethodName)) ∈ WA := wa_of (mt_5 (i := 214) rfl) rfl
theorem q5_215 : (Jvm.Cond.instanceMethod ({ cls := "LeanTowerModel", name := "count", desc := "(I)I" } : Jvm.MethodName)) ∈ WA := wa_of (mt_5 (i := 215) rfl) rfl
theorem q5_216 : (Jvm.Cond.selects "LeanTowerModel" ({ cls := "LeanTowerModel", name := "count", desc := "(I)I" } : Jvm.MethodName) ({ cls := "LeanTowerModel", name := "count", desc := "(I)I" } : Jvm.MethodName)) ∈ WA := wa_of (mt_5 (i := 216) rfl) rfl
theorem q5_217 : (Jvm.Cond.code ({ cls := "LeanTowerModel", name := "count", desc := "(I)I" } : Jvm.MethodName) prog_14_method_66_code (5 : Nat) (Option.some Jvm.ClassFile.FieldType.int)) ∈ WA := wa_of (mt_5 (i := 217) rfl) rfl
theorem q5_218 : (Jvm.Cond.methodLink "LeanTowerLaw" (141 : Nat) ({ cls := "LeanTowerModel", name := "status", desc := "()I" } : Jvm.MethodName)) ∈ WA := wa_of (mt_5 (i := 218) rfl) rfl
theorem q5_219 : (Jvm.Cond.instanceMethod ({ cls := "LeanTowerModel", name := "status", desc := "()I" } : Jvm.MethodName)) ∈ WA := wa_of (mt_5 (i := 219) rfl) rfl
theorem q5_220 : (Jvm.Cond.selects "LeanTowerModel" ({ cls := "LeanTowerModel", name := "status", desc := "()I" } : Jvm.MethodName) ({ cls := "LeanTowerModel", name := "status", desc := "()I" } : Jvm.MethodName)) ∈ WA := wa_of (mt_5 (i := 220) rfl) rfl
theorem q5_221 : (Jvm.Cond.code ({ cls := "LeanTowerModel", name := "status", desc := "()I" } : Jvm.MethodName) prog_14_method_67_code (1 : Nat) (Option.some Jvm.ClassFile.FieldType.int)) ∈ WA := wa_of (mt_5 (i := 221) rfl) rfl
theorem q5_222 : (Jvm.Cond.constantLong "LeanTowerLaw" (32 : Nat) (4294967295 : Int64)) ∈ WA := wa_of (mt_5 (i := 222) rfl) rfl
theorem q5_223 : (Jvm.Cond.sameMethod "LeanTower$Monk" "LeanTower$Monk" "size" "(LLeanTower$Trace;)I") ∈ WA := wa_of (mt_5 (i := 223) rfl) rfl
theorem q5_224 : (Jvm.Cond.sameMethod "LeanTower$Pilgrim" "LeanTower$Pilgrim" "size" "(LLeanTower$Trace;)I") ∈ WA := wa_of (mt_5 (i := 224) rfl) rfl
theorem q5_225 : (Jvm.Cond.sameMethod "LeanTower$Person" "LeanTower$Person" "mark" "(LLeanTower$Trace;)I") ∈ WA := wa_of (mt_5 (i := 225) rfl) rfl
theorem q5_226 : (Jvm.Cond.selects "LeanTower$Bishop" ({ cls := "LeanTower$Person", name := "mark", desc := "(LLeanTower$Trace;)I" } : Jvm.MethodName) ({ cls := "LeanTower$Monk", name := "mark", desc := "(LLeanTower$Trace;)I" } : Jvm.MethodName)) ∈ WA := wa_of (mt_5 (i := 226) rfl) rfl
theorem q5_227 : (Jvm.Cond.selects "LeanTower$Bishop" ({ cls := "LeanTower$Monk", name := "size", desc := "(LLeanTower$Trace;)I" } : Jvm.MethodName) ({ cls := "LeanTower$Bishop", name := "size", desc := "(LLeanTower$Trace;)I" } : Jvm.MethodName)) ∈ WA := wa_of (mt_5 (i := 227) rfl) rfl
theorem q5_228 : (Jvm.Cond.selects "LeanTower$Monk" ({ cls := "LeanTower$Monk", name := "size", desc := "(LLeanTower$Trace;)I" } : Jvm.MethodName) ({ cls := "LeanTower$Monk", name := "size", desc := "(LLeanTower$Trace;)I" } : Jvm.MethodName)) ∈ WA := wa_of (mt_5 (i := 228) rfl) rfl
theorem q5_229 : (Jvm.Cond.selects "LeanTower$Boy" ({ cls := "LeanTower$Person", name := "mark", desc := "(LLeanTower$Trace;)I" } : Jvm.MethodName) ({ cls := "LeanTower$Boy", name := "mark", desc := "(LLeanTower$Trace;)I" } : Jvm.MethodName)) ∈ WA := wa_of (mt_5 (i := 229) rfl) rfl
theorem q5_230 : (Jvm.Cond.selects "LeanTower$Monk" ({ cls := "LeanTower$Person", name := "mark", desc := "(LLeanTower$Trace;)I" } : Jvm.MethodName) ({ cls := "LeanTower$Monk", name := "mark", desc := "(LLeanTower$Trace;)I" } : Jvm.MethodName)) ∈ WA := wa_of (mt_5 (i := 230) rfl) rfl
theorem q5_231 : (Jvm.Cond.selects "LeanTower$Pilgrim" ({ cls := "LeanTower$Person", name := "mark", desc := "(LLeanTower$Trace;)I" } : Jvm.MethodName) ({ cls := "LeanTower$Pilgrim", name := "mark", desc := "(LLeanTower$Trace;)I" } : Jvm.MethodName)) ∈ WA := wa_of (mt_5 (i := 231) rfl) rfl
theorem q5_232 : (Jvm.Cond.selects "LeanTower$Widow" ({ cls := "LeanTower$Person", name := "mark", desc := "(LLeanTower$Trace;)I" } : Jvm.MethodName) ({ cls := "LeanTower$Widow", name := "mark", desc := "(LLeanTower$Trace;)I" } : Jvm.MethodName)) ∈ WA := wa_of (mt_5 (i := 232) rfl) rfl
theorem q5_233 : (Jvm.Cond.castable "LeanTower$Boy" "LeanTower$Pilgrim") ∈ lw_tbl := mt_5 (i := 233) rfl
theorem q5_234 : (Jvm.Cond.castable "LeanTower$Widow" "LeanTower$Pilgrim") ∈ lw_tbl := mt_5 (i := 234) rfl
theorem q5_235 : (Jvm.Cond.castable "LeanTower$Bishop" "LeanTower$Monk") ∈ lw_tbl := mt_5 (i := 235) rfl
theorem q5_236 : (Jvm.Cond.castable "LeanTower$Widow" "LeanTower$Person") ∈ lw_tbl := mt_5 (i := 236) rfl
theorem q5_237 : (Jvm.Cond.castable "LeanTower$Boy" "LeanTower$Person") ∈ lw_tbl := mt_5 (i := 237) rfl
theorem q5_238 : (Jvm.Cond.castable "LeanTower$Monk" "LeanTower$Person") ∈ lw_tbl := mt_5 (i := 238) rfl
theorem q5_239 : (Jvm.Cond.castable "LeanTower$Bishop" "LeanTower$Person") ∈ lw_tbl := mt_5 (i := 239) rfl
theorem q6_0 : (Jvm.Cond.castable "LeanTower$Pilgrim" "LeanTower$Person") ∈ lw_tbl := mt_6 (i := 0) rfl
theorem q6_1 : (Jvm.Cond.fieldLink "java/lang/String" (9 : Nat) "java/lang/String" "value" "[B") ∈ WA := wa_of (mt_6 (i := 1) rfl) rfl
theorem q6_2 : (Jvm.Cond.fieldLink "java/lang/String" (15 : Nat) "java/lang/String" "coder" "B") ∈ WA := wa_of (mt_6 (i := 2) rfl) rfl
theorem q0_0 : Cond.selects "LeanTower" ⟨"LeanTower", "rowAt", "(I)LLeanTower$Row;"⟩ ⟨"LeanTower", "rowAt", "(I)LLeanTower$Row;"⟩ ∈ WA := wa_of (mt_0 (i := 0) rfl) rfl
theorem q0_1 : Cond.selects "LeanTower" ⟨"LeanTower", "found", "(I)I"⟩ ⟨"LeanTower", "found", "(I)I"⟩ ∈ WA := wa_of (mt_0 (i := 1) rfl) rfl
theorem q0_2 : Cond.selects "LeanTower" ⟨"LeanTower", "clean", "(I)I"⟩ ⟨"LeanTower", "clean", "(I)I"⟩ ∈ WA := wa_of (mt_0 (i := 2) rfl) rfl
theorem q0_3 : Cond.selects "LeanTower$Reader" ⟨"LeanTower$Reader", "next", "()V"⟩ ⟨"LeanTower$Reader", "next", "()V"⟩ ∈ WA := wa_of (mt_0 (i := 3) rfl) rfl
theorem q0_4 : Cond.selects "LeanTower$Reader" ⟨"LeanTower$Reader", "passLetters", "()V"⟩ ⟨"LeanTower$Reader", "passLetters", "()V"⟩ ∈ WA := wa_of (mt_0 (i := 4) rfl) rfl
theorem q0_5 : Cond.selects "LeanTower$Reader" ⟨"LeanTower$Reader", "passFigures", "()V"⟩ ⟨"LeanTower$Reader", "passFigures", "()V"⟩ ∈ WA := wa_of (mt_0 (i := 5) rfl) rfl
theorem q0_6 : Cond.selects "LeanTower$Reader" ⟨"LeanTower$Reader", "readLaw", "(LLeanTower$Tower;)Z"⟩ ⟨"LeanTower$Reader", "readLaw", "(LLeanTower$Tower;)Z"⟩ ∈ WA := wa_of (mt_0 (i := 6) rfl) rfl
theorem q0_7 : Cond.selects "LeanTower$Reader" ⟨"LeanTower$Reader", "isWord", "(Ljava/lang/String;)Z"⟩ ⟨"LeanTower$Reader", "isWord", "(Ljava/lang/String;)Z"⟩ ∈ WA := wa_of (mt_0 (i := 7) rfl) rfl
theorem q0_8 : Cond.selects "LeanTower$Reader" ⟨"LeanTower$Reader", "refuse", "(I)Z"⟩ ⟨"LeanTower$Reader", "refuse", "(I)Z"⟩ ∈ WA := wa_of (mt_0 (i := 8) rfl) rfl
theorem q0_9 : Cond.selects "LeanTower$Reader" ⟨"LeanTower$Reader", "number", "(II)I"⟩ ⟨"LeanTower$Reader", "number", "(II)I"⟩ ∈ WA := wa_of (mt_0 (i := 9) rfl) rfl
theorem q0_10 : Cond.selects "LeanTower$Reader" ⟨"LeanTower$Reader", "passSemicolon", "()Z"⟩ ⟨"LeanTower$Reader", "passSemicolon", "()Z"⟩ ∈ WA := wa_of (mt_0 (i := 10) rfl) rfl
theorem q0_11 : Cond.selects "LeanTower$Reader" ⟨"LeanTower$Reader", "readPerson", "(LLeanTower$Tower;)Z"⟩ ⟨"LeanTower$Reader", "readPerson", "(LLeanTower$Tower;)Z"⟩ ∈ WA := wa_of (mt_0 (i := 11) rfl) rfl
theorem q0_12 : Cond.selects "LeanTower$Reader" ⟨"LeanTower$Reader", "kindAtHand", "()I"⟩ ⟨"LeanTower$Reader", "kindAtHand", "()I"⟩ ∈ WA := wa_of (mt_0 (i := 12) rfl) rfl
theorem q0_13 : Cond.selects "LeanTower$Reader" ⟨"LeanTower$Reader", "readStone", "(LLeanTower$Tower;)Z"⟩ ⟨"LeanTower$Reader", "readStone", "(LLeanTower$Tower;)Z"⟩ ∈ WA := wa_of (mt_0 (i := 13) rfl) rfl
theorem q0_14 : Cond.selects "LeanTower" ⟨"LeanTower", "keepAct", "()V"⟩ ⟨"LeanTower", "keepAct", "()V"⟩ ∈ WA := wa_of (mt_0 (i := 14) rfl) rfl
theorem q0_15 : Cond.selects "LeanTower$Tower" ⟨"LeanTower$Tower", "move", "(II)V"⟩ ⟨"LeanTower$Tower", "move", "(II)V"⟩ ∈ WA := wa_of (mt_0 (i := 15) rfl) rfl
theorem q0_16 : Cond.selects "LeanTower" ⟨"LeanTower", "mayGoUp", "(I)Z"⟩ ⟨"LeanTower", "mayGoUp", "(I)Z"⟩ ∈ WA := wa_of (mt_0 (i := 16) rfl) rfl
theorem q0_17 : Cond.selects "LeanTower" ⟨"LeanTower", "worstOfTwo", "(III)I"⟩ ⟨"LeanTower", "worstOfTwo", "(III)I"⟩ ∈ WA := wa_of (mt_0 (i := 17) rfl) rfl
theorem q0_18 : Cond.selects "LeanTower" ⟨"LeanTower", "measureReach", "()V"⟩ ⟨"LeanTower", "measureReach", "()V"⟩ ∈ WA := wa_of (mt_0 (i := 18) rfl) rfl
theorem q0_19 : Cond.selects "LeanTower" ⟨"LeanTower", "worstOfHanging", "(I)I"⟩ ⟨"LeanTower", "worstOfHanging", "(I)I"⟩ ∈ WA := wa_of (mt_0 (i := 19) rfl) rfl
theorem q0_20 : Cond.selects "LeanTower" ⟨"LeanTower", "sideIn", "(II)I"⟩ ⟨"LeanTower", "sideIn", "(II)I"⟩ ∈ WA := wa_of (mt_0 (i := 20) rfl) rfl
theorem q0_21 : Cond.selects "LeanTower" ⟨"LeanTower", "setThatMakes", "(III)I"⟩ ⟨"LeanTower", "setThatMakes", "(III)I"⟩ ∈ WA := wa_of (mt_0 (i := 21) rfl) rfl
theorem q0_22 : Cond.selects "LeanTower" ⟨"LeanTower", "findRescuable", "(I)V"⟩ ⟨"LeanTower", "findRescuable", "(I)V"⟩ ∈ WA := wa_of (mt_0 (i := 22) rfl) rfl
theorem q0_23 : Cond.selects "LeanTower" ⟨"LeanTower", "nextOut", "(I)I"⟩ ⟨"LeanTower", "nextOut", "(I)I"⟩ ∈ WA := wa_of (mt_0 (i := 23) rfl) rfl
theorem q0_24 : Cond.selects "LeanTower$Bells" ⟨"LeanTower$Bells", "ringFrom", "(IIII)V"⟩ ⟨"LeanTower$Bells", "ringFrom", "(IIII)V"⟩ ∈ WA := wa_of (mt_0 (i := 24) rfl) rfl
theorem q0_25 : Cond.selects "LeanTower" ⟨"LeanTower", "rowsThere", "()I"⟩ ⟨"LeanTower", "rowsThere", "()I"⟩ ∈ WA := wa_of (mt_0 (i := 25) rfl) rfl
theorem q0_26 : Cond.selects "LeanTowerModel" ⟨"LeanTowerModel", "met", "(I)I"⟩ ⟨"LeanTowerModel", "met", "(I)I"⟩ ∈ WA := wa_of (mt_0 (i := 26) rfl) rfl
theorem q0_27 : Cond.selects "LeanTowerModel" ⟨"LeanTowerModel", "fine", "(I)I"⟩ ⟨"LeanTowerModel", "fine", "(I)I"⟩ ∈ WA := wa_of (mt_0 (i := 27) rfl) rfl
theorem q0_28 : Cond.selects "LeanTowerModel" ⟨"LeanTowerModel", "next", "()V"⟩ ⟨"LeanTowerModel", "next", "()V"⟩ ∈ WA := wa_of (mt_0 (i := 28) rfl) rfl
theorem q0_29 : Cond.selects "LeanTowerModel" ⟨"LeanTowerModel", "takeLaw", "()V"⟩ ⟨"LeanTowerModel", "takeLaw", "()V"⟩ ∈ WA := wa_of (mt_0 (i := 29) rfl) rfl
theorem q0_30 : Cond.selects "LeanTowerModel" ⟨"LeanTowerModel", "takeNumber", "(III)I"⟩ ⟨"LeanTowerModel", "takeNumber", "(III)I"⟩ ∈ WA := wa_of (mt_0 (i := 30) rfl) rfl
theorem q0_31 : Cond.selects "LeanTowerModel" ⟨"LeanTowerModel", "fails", "(I)I"⟩ ⟨"LeanTowerModel", "fails", "(I)I"⟩ ∈ WA := wa_of (mt_0 (i := 31) rfl) rfl
theorem q0_32 : Cond.selects "LeanTowerModel" ⟨"LeanTowerModel", "takeSign", "()V"⟩ ⟨"LeanTowerModel", "takeSign", "()V"⟩ ∈ WA := wa_of (mt_0 (i := 32) rfl) rfl
theorem q0_33 : Cond.selects "LeanTowerModel" ⟨"LeanTowerModel", "takePerson", "()V"⟩ ⟨"LeanTowerModel", "takePerson", "()V"⟩ ∈ WA := wa_of (mt_0 (i := 33) rfl) rfl
theorem q0_34 : Cond.selects "LeanTowerModel" ⟨"LeanTowerModel", "takeStone", "()V"⟩ ⟨"LeanTowerModel", "takeStone", "()V"⟩ ∈ WA := wa_of (mt_0 (i := 34) rfl) rfl
theorem q0_35 : Cond.selects "LeanTowerModel" ⟨"LeanTowerModel", "copyAll", "(II)V"⟩ ⟨"LeanTowerModel", "copyAll", "(II)V"⟩ ∈ WA := wa_of (mt_0 (i := 35) rfl) rfl
theorem q0_36 : Cond.selects "LeanTowerModel" ⟨"LeanTowerModel", "isOne", "(I)Z"⟩ ⟨"LeanTowerModel", "isOne", "(I)Z"⟩ ∈ WA := wa_of (mt_0 (i := 36) rfl) rfl
theorem q0_37 : Cond.selects "LeanTowerModel" ⟨"LeanTowerModel", "minds", "()V"⟩ ⟨"LeanTowerModel", "minds", "()V"⟩ ∈ WA := wa_of (mt_0 (i := 37) rfl) rfl
theorem q0_38 : Cond.selects "LeanTowerModel" ⟨"LeanTowerModel", "isTower", "()Z"⟩ ⟨"LeanTowerModel", "isTower", "()Z"⟩ ∈ WA := wa_of (mt_0 (i := 38) rfl) rfl
theorem q0_39 : Cond.selects "LeanTowerModel" ⟨"LeanTowerModel", "half", "(I)V"⟩ ⟨"LeanTowerModel", "half", "(I)V"⟩ ∈ WA := wa_of (mt_0 (i := 39) rfl) rfl
theorem q0_40 : Cond.selects "LeanTowerModel" ⟨"LeanTowerModel", "worstOf", "(I)I"⟩ ⟨"LeanTowerModel", "worstOf", "(I)I"⟩ ∈ WA := wa_of (mt_0 (i := 40) rfl) rfl
theorem q0_41 : Cond.selects "LeanTowerModel" ⟨"LeanTowerModel", "leanOf", "(IZ)I"⟩ ⟨"LeanTowerModel", "leanOf", "(IZ)I"⟩ ∈ WA := wa_of (mt_0 (i := 41) rfl) rfl
theorem q0_42 : Cond.selects "LeanTowerModel" ⟨"LeanTowerModel", "burdenOf", "(I)I"⟩ ⟨"LeanTowerModel", "burdenOf", "(I)I"⟩ ∈ WA := wa_of (mt_0 (i := 42) rfl) rfl
theorem q0_43 : Cond.selects "LeanTowerModel" ⟨"LeanTowerModel", "sideOf", "(I)I"⟩ ⟨"LeanTowerModel", "sideOf", "(I)I"⟩ ∈ WA := wa_of (mt_0 (i := 43) rfl) rfl
theorem q0_44 : Cond.selects "LeanTowerModel" ⟨"LeanTowerModel", "creep", "(I)V"⟩ ⟨"LeanTowerModel", "creep", "(I)V"⟩ ∈ WA := wa_of (mt_0 (i := 44) rfl) rfl
theorem q0_45 : Cond.selects "LeanTowerModel" ⟨"LeanTowerModel", "foretellNow", "()I"⟩ ⟨"LeanTowerModel", "foretellNow", "()I"⟩ ∈ WA := wa_of (mt_0 (i := 45) rfl) rfl
theorem q0_46 : Cond.selects "LeanTowerModel" ⟨"LeanTowerModel", "foretell", "(II)I"⟩ ⟨"LeanTowerModel", "foretell", "(II)I"⟩ ∈ WA := wa_of (mt_0 (i := 46) rfl) rfl
theorem q0_47 : Cond.selects "LeanTowerModel" ⟨"LeanTowerModel", "isSafe", "(I)Z"⟩ ⟨"LeanTowerModel", "isSafe", "(I)Z"⟩ ∈ WA := wa_of (mt_0 (i := 47) rfl) rfl
theorem q0_48 : Cond.selects "LeanTowerModel" ⟨"LeanTowerModel", "size", "(I)I"⟩ ⟨"LeanTowerModel", "size", "(I)I"⟩ ∈ WA := wa_of (mt_0 (i := 48) rfl) rfl
theorem q0_49 : Cond.selects "LeanTowerModel" ⟨"LeanTowerModel", "leaves", "(III)V"⟩ ⟨"LeanTowerModel", "leaves", "(III)V"⟩ ∈ WA := wa_of (mt_0 (i := 49) rfl) rfl
theorem q0_50 : Cond.selects "LeanTowerModel" ⟨"LeanTowerModel", "plainMark", "(I)I"⟩ ⟨"LeanTowerModel", "plainMark", "(I)I"⟩ ∈ WA := wa_of (mt_0 (i := 50) rfl) rfl
theorem in_0 : ∀ w ∈ u_ws RX0 TX0 5, w ∈ WA := by decide +kernel
theorem in_1 : ∀ w ∈ u_ws RX1 TX1 3, w ∈ WA := by decide +kernel
theorem in_2 : ∀ w ∈ u_ws RX2 TX2 3, w ∈ WA := by decide +kernel
theorem in_3 : ∀ w ∈ u_ws RX3 TX3 3, w ∈ WA := by decide +kernel
theorem in_5 : ∀ w ∈ u_ws RX5 TX5 3, w ∈ WA := by decide +kernel
theorem in_6 : ∀ w ∈ u_ws RX6 TX6 8, w ∈ WA := by decide +kernel
theorem in_7 : ∀ w ∈ u_ws RX7 TX7 3, w ∈ WA := by decide +kernel
theorem in_8 : ∀ w ∈ u_ws RX8 TX8 12, w ∈ WA := by decide +kernel
theorem in_9 : ∀ w ∈ u_ws RX9 TX9 2, w ∈ WA := by decide +kernel
theorem in_10 : ∀ w ∈ u_ws RX10 TX10 3, w ∈ WA := by decide +kernel
theorem in_11 : ∀ w ∈ u_ws RX11 TX11 13, w ∈ WA := by decide +kernel
theorem in_12 : ∀ w ∈ u_ws RX12 TX12 21, w ∈ WA := by decide +kernel
