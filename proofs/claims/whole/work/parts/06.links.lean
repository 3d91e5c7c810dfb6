/-! Words and links (printed by wip/gen/names.py). -/
theorem tbl1 {w : Jvm.Cond} (h : w ∈ tables_1_1) : w ∈ lw_tbl := List.mem_append_right _ (List.mem_append_left _ h)
theorem tbl2 {w : Jvm.Cond} (h : w ∈ tables_1_2) : w ∈ lw_tbl := List.mem_append_right _ (List.mem_append_right _ (List.mem_append_left _ h))
theorem tbl3 {w : Jvm.Cond} (h : w ∈ tables_1_3) : w ∈ lw_tbl := List.mem_append_right _ (List.mem_append_right _ (List.mem_append_right _ h))
theorem tbg {w : Jvm.Cond} (h : w ∈ lw_tbl) (g : th_gd w = true) : w ∈ th_tb := List.mem_filter.mpr ⟨h, g⟩
theorem tbP {y : MethodName} {n : Nat} (h : (y, n) ∈ lw_privs) : Jvm.Cond.selects y.cls y y ∈ th_tb := tbg (List.mem_append_left _ (List.mem_map.mpr ⟨(y, n), h, rfl⟩)) rfl
theorem k_0 : Jvm.Cond.initialized "TurnHostLaw" ∈ th_tb := tbg (tbl1 (List.mem_of_getElem? (i := 0) rfl)) rfl
theorem k_1 : Jvm.Cond.initialized "TurnHost" ∈ th_tb := tbg (tbl1 (List.mem_of_getElem? (i := 1) rfl)) rfl
theorem k_2 : Jvm.Cond.initialized "TurnHost$Machine" ∈ th_tb := tbg (tbl1 (List.mem_of_getElem? (i := 2) rfl)) rfl
theorem k_3 : Jvm.Cond.initialized "TurnHost$Program" ∈ th_tb := tbg (tbl1 (List.mem_of_getElem? (i := 3) rfl)) rfl
theorem k_4 : Jvm.Cond.initialized "TurnHost$Society" ∈ th_tb := tbg (tbl1 (List.mem_of_getElem? (i := 4) rfl)) rfl
theorem k_5 : Jvm.Cond.initialized "TurnHost$HostProcess" ∈ th_tb := tbg (tbl1 (List.mem_of_getElem? (i := 5) rfl)) rfl
theorem k_6 : Jvm.Cond.initialized "TurnHost$Term" ∈ th_tb := tbg (tbl1 (List.mem_of_getElem? (i := 6) rfl)) rfl
theorem k_7 : Jvm.Cond.initialized "TurnHost$Mailbox" ∈ th_tb := tbg (tbl1 (List.mem_of_getElem? (i := 7) rfl)) rfl
theorem k_8 : Jvm.Cond.initialized "TurnHost$Line" ∈ th_tb := tbg (tbl1 (List.mem_of_getElem? (i := 8) rfl)) rfl
theorem k_9 : Jvm.Cond.initialized "TurnHostModel" ∈ th_tb := tbg (tbl1 (List.mem_of_getElem? (i := 9) rfl)) rfl
theorem k_10 : Jvm.Cond.initialized "java/lang/Math" ∈ th_tb := tbg (tbl1 (List.mem_of_getElem? (i := 10) rfl)) rfl
theorem k_11 : Jvm.Cond.classLink "TurnHostLaw" (7 : Nat) "TurnHost" ∈ th_tb := tbg (tbl1 (List.mem_of_getElem? (i := 11) rfl)) rfl
theorem k_12 : Jvm.Cond.instantiable "TurnHost" (5 : Nat) ∈ th_tb := tbg (tbl1 (List.mem_of_getElem? (i := 12) rfl)) rfl
theorem k_13 : Jvm.Cond.methodLink "TurnHostLaw" (15 : Nat) ({ cls := "TurnHost", name := "<init>", desc := "(I)V" } : MethodName) ∈ th_tb := tbg (tbl1 (List.mem_of_getElem? (i := 13) rfl)) rfl
theorem k_14 : Jvm.Cond.instanceMethod ({ cls := "TurnHost", name := "<init>", desc := "(I)V" } : MethodName) ∈ th_tb := tbg (tbl1 (List.mem_of_getElem? (i := 14) rfl)) rfl
theorem k_15 : Jvm.Cond.code ({ cls := "TurnHost", name := "<init>", desc := "(I)V" } : MethodName) prog_1_method_1_code (2 : Nat) (Option.none : Option Jvm.ClassFile.FieldType) ∈ th_tb := tbg (tbl1 (List.mem_of_getElem? (i := 15) rfl)) rfl
theorem k_16 : Jvm.Cond.methodLink "TurnHost" (1 : Nat) ({ cls := "java/lang/Object", name := "<init>", desc := "()V" } : MethodName) ∈ th_tb := tbg (tbl1 (List.mem_of_getElem? (i := 16) rfl)) rfl
theorem k_17 : Jvm.Cond.instanceMethod ({ cls := "java/lang/Object", name := "<init>", desc := "()V" } : MethodName) ∈ th_tb := tbg (tbl1 (List.mem_of_getElem? (i := 17) rfl)) rfl
theorem k_18 : Jvm.Cond.code ({ cls := "java/lang/Object", name := "<init>", desc := "()V" } : MethodName) object_method_1_code (1 : Nat) (Option.none : Option Jvm.ClassFile.FieldType) ∈ th_tb := tbg (tbl1 (List.mem_of_getElem? (i := 18) rfl)) rfl
theorem k_19 : Jvm.Cond.classLink "TurnHost" (13 : Nat) "TurnHost$Machine" ∈ th_tb := tbg (tbl1 (List.mem_of_getElem? (i := 19) rfl)) rfl
theorem k_20 : Jvm.Cond.instantiable "TurnHost$Machine" (2 : Nat) ∈ th_tb := tbg (tbl1 (List.mem_of_getElem? (i := 20) rfl)) rfl
theorem k_21 : Jvm.Cond.methodLink "TurnHost" (15 : Nat) ({ cls := "TurnHost$Machine", name := "<init>", desc := "()V" } : MethodName) ∈ th_tb := tbg (tbl1 (List.mem_of_getElem? (i := 21) rfl)) rfl
theorem k_22 : Jvm.Cond.instanceMethod ({ cls := "TurnHost$Machine", name := "<init>", desc := "()V" } : MethodName) ∈ th_tb := tbg (tbl1 (List.mem_of_getElem? (i := 22) rfl)) rfl
theorem k_23 : Jvm.Cond.code ({ cls := "TurnHost$Machine", name := "<init>", desc := "()V" } : MethodName) prog_4_method_1_code (1 : Nat) (Option.none : Option Jvm.ClassFile.FieldType) ∈ th_tb := tbg (tbl1 (List.mem_of_getElem? (i := 23) rfl)) rfl
theorem k_24 : Jvm.Cond.methodLink "TurnHost$Machine" (3 : Nat) ({ cls := "java/lang/Object", name := "<init>", desc := "()V" } : MethodName) ∈ th_tb := tbg (tbl1 (List.mem_of_getElem? (i := 24) rfl)) rfl
theorem k_25 : Jvm.Cond.classLink "TurnHost$Machine" (9 : Nat) "TurnHost$Program" ∈ th_tb := tbg (tbl1 (List.mem_of_getElem? (i := 25) rfl)) rfl
theorem k_26 : Jvm.Cond.instantiable "TurnHost$Program" (2 : Nat) ∈ th_tb := tbg (tbl1 (List.mem_of_getElem? (i := 26) rfl)) rfl
theorem k_27 : Jvm.Cond.methodLink "TurnHost$Machine" (11 : Nat) ({ cls := "TurnHost$Program", name := "<init>", desc := "()V" } : MethodName) ∈ th_tb := tbg (tbl1 (List.mem_of_getElem? (i := 27) rfl)) rfl
theorem k_28 : Jvm.Cond.instanceMethod ({ cls := "TurnHost$Program", name := "<init>", desc := "()V" } : MethodName) ∈ th_tb := tbg (tbl1 (List.mem_of_getElem? (i := 28) rfl)) rfl
theorem k_29 : Jvm.Cond.code ({ cls := "TurnHost$Program", name := "<init>", desc := "()V" } : MethodName) prog_6_method_1_code (1 : Nat) (Option.none : Option Jvm.ClassFile.FieldType) ∈ th_tb := tbg (tbl1 (List.mem_of_getElem? (i := 29) rfl)) rfl
theorem k_30 : Jvm.Cond.methodLink "TurnHost$Program" (3 : Nat) ({ cls := "java/lang/Object", name := "<init>", desc := "()V" } : MethodName) ∈ th_tb := tbg (tbl1 (List.mem_of_getElem? (i := 30) rfl)) rfl
theorem k_31 : Jvm.Cond.fieldLink "TurnHost$Program" (9 : Nat) "TurnHost$Program" "cells" "[I" ∈ th_tb := tbg (tbl1 (List.mem_of_getElem? (i := 31) rfl)) rfl
theorem k_32 : Jvm.Cond.fieldLink "TurnHost$Machine" (46 : Nat) "TurnHost$Program" "cells" "[I" ∈ th_tb := tbg (tbl1 (List.mem_of_getElem? (i := 32) rfl)) rfl
theorem k_33 : Jvm.Cond.fieldLink "TurnHost$Program" (15 : Nat) "TurnHost$Program" "count" "I" ∈ th_tb := tbg (tbl1 (List.mem_of_getElem? (i := 33) rfl)) rfl
theorem k_34 : Jvm.Cond.laysFinal "TurnHost$Program" "TurnHost$Program" "cells" "[I" ∈ th_tb := tbg (tbl1 (List.mem_of_getElem? (i := 34) rfl)) rfl
theorem k_36 : Jvm.Cond.lays "TurnHost$Program" "TurnHost$Program" "count" "I" ∈ th_tb := tbg (tbl1 (List.mem_of_getElem? (i := 36) rfl)) rfl
theorem k_39 : Jvm.Cond.arrayClass Jvm.ClassFile.FieldType.int ∈ th_tb := tbg (tbl1 (List.mem_of_getElem? (i := 39) rfl)) rfl
theorem k_40 : Jvm.Cond.classLink "TurnHost$Machine" (18 : Nat) "TurnHost$Society" ∈ th_tb := tbg (tbl1 (List.mem_of_getElem? (i := 40) rfl)) rfl
theorem k_41 : Jvm.Cond.instantiable "TurnHost$Society" (5 : Nat) ∈ th_tb := tbg (tbl1 (List.mem_of_getElem? (i := 41) rfl)) rfl
theorem k_42 : Jvm.Cond.methodLink "TurnHost$Machine" (20 : Nat) ({ cls := "TurnHost$Society", name := "<init>", desc := "()V" } : MethodName) ∈ th_tb := tbg (tbl1 (List.mem_of_getElem? (i := 42) rfl)) rfl
theorem k_43 : Jvm.Cond.instanceMethod ({ cls := "TurnHost$Society", name := "<init>", desc := "()V" } : MethodName) ∈ th_tb := tbg (tbl1 (List.mem_of_getElem? (i := 43) rfl)) rfl
theorem k_44 : Jvm.Cond.code ({ cls := "TurnHost$Society", name := "<init>", desc := "()V" } : MethodName) prog_7_method_1_code (2 : Nat) (Option.none : Option Jvm.ClassFile.FieldType) ∈ th_tb := tbg (tbl1 (List.mem_of_getElem? (i := 44) rfl)) rfl
theorem k_45 : Jvm.Cond.methodLink "TurnHost$Society" (3 : Nat) ({ cls := "java/lang/Object", name := "<init>", desc := "()V" } : MethodName) ∈ th_tb := tbg (tbl1 (List.mem_of_getElem? (i := 45) rfl)) rfl
theorem k_46 : Jvm.Cond.classLink "TurnHost$Society" (9 : Nat) "TurnHost$HostProcess" ∈ th_tb := tbg (tbl1 (List.mem_of_getElem? (i := 46) rfl)) rfl
theorem k_48 : Jvm.Cond.instantiable "TurnHost$HostProcess" (12 : Nat) ∈ th_tb := tbg (tbl1 (List.mem_of_getElem? (i := 48) rfl)) rfl
theorem k_49 : Jvm.Cond.methodLink "TurnHost$Society" (17 : Nat) ({ cls := "TurnHost$HostProcess", name := "<init>", desc := "(I)V" } : MethodName) ∈ th_tb := tbg (tbl1 (List.mem_of_getElem? (i := 49) rfl)) rfl
theorem k_50 : Jvm.Cond.instanceMethod ({ cls := "TurnHost$HostProcess", name := "<init>", desc := "(I)V" } : MethodName) ∈ th_tb := tbg (tbl1 (List.mem_of_getElem? (i := 50) rfl)) rfl
theorem k_51 : Jvm.Cond.code ({ cls := "TurnHost$HostProcess", name := "<init>", desc := "(I)V" } : MethodName) prog_2_method_1_code (2 : Nat) (Option.none : Option Jvm.ClassFile.FieldType) ∈ th_tb := tbg (tbl1 (List.mem_of_getElem? (i := 51) rfl)) rfl
theorem k_52 : Jvm.Cond.methodLink "TurnHost$HostProcess" (3 : Nat) ({ cls := "java/lang/Object", name := "<init>", desc := "()V" } : MethodName) ∈ th_tb := tbg (tbl1 (List.mem_of_getElem? (i := 52) rfl)) rfl
theorem k_53 : Jvm.Cond.classLink "TurnHost$HostProcess" (15 : Nat) "TurnHost$Term" ∈ th_tb := tbg (tbl1 (List.mem_of_getElem? (i := 53) rfl)) rfl
theorem k_54 : Jvm.Cond.instantiable "TurnHost$Term" (5 : Nat) ∈ th_tb := tbg (tbl1 (List.mem_of_getElem? (i := 54) rfl)) rfl
theorem k_55 : Jvm.Cond.methodLink "TurnHost$HostProcess" (17 : Nat) ({ cls := "TurnHost$Term", name := "<init>", desc := "(II)V" } : MethodName) ∈ th_tb := tbg (tbl1 (List.mem_of_getElem? (i := 55) rfl)) rfl
theorem k_56 : Jvm.Cond.instanceMethod ({ cls := "TurnHost$Term", name := "<init>", desc := "(II)V" } : MethodName) ∈ th_tb := tbg (tbl1 (List.mem_of_getElem? (i := 56) rfl)) rfl
theorem k_57 : Jvm.Cond.code ({ cls := "TurnHost$Term", name := "<init>", desc := "(II)V" } : MethodName) prog_8_method_1_code (3 : Nat) (Option.none : Option Jvm.ClassFile.FieldType) ∈ th_tb := tbg (tbl1 (List.mem_of_getElem? (i := 57) rfl)) rfl
theorem k_58 : Jvm.Cond.methodLink "TurnHost$Term" (3 : Nat) ({ cls := "java/lang/Object", name := "<init>", desc := "()V" } : MethodName) ∈ th_tb := tbg (tbl1 (List.mem_of_getElem? (i := 58) rfl)) rfl
theorem k_59 : Jvm.Cond.fieldLink "TurnHost$Term" (9 : Nat) "TurnHost$Term" "sort" "I" ∈ th_tb := tbg (tbl1 (List.mem_of_getElem? (i := 59) rfl)) rfl
theorem k_60 : Jvm.Cond.fieldLink "TurnHost$Machine" (97 : Nat) "TurnHost$Term" "sort" "I" ∈ th_tb := tbg (tbl1 (List.mem_of_getElem? (i := 60) rfl)) rfl
theorem k_61 : Jvm.Cond.fieldLink "TurnHost$Society" (47 : Nat) "TurnHost$Term" "sort" "I" ∈ th_tb := tbg (tbl1 (List.mem_of_getElem? (i := 61) rfl)) rfl
theorem k_62 : Jvm.Cond.fieldLink "TurnHost$Term" (15 : Nat) "TurnHost$Term" "number" "I" ∈ th_tb := tbg (tbl1 (List.mem_of_getElem? (i := 62) rfl)) rfl
theorem k_63 : Jvm.Cond.fieldLink "TurnHost$Machine" (87 : Nat) "TurnHost$Term" "number" "I" ∈ th_tb := tbg (tbl1 (List.mem_of_getElem? (i := 63) rfl)) rfl
theorem k_64 : Jvm.Cond.fieldLink "TurnHost$Society" (50 : Nat) "TurnHost$Term" "number" "I" ∈ th_tb := tbg (tbl1 (List.mem_of_getElem? (i := 64) rfl)) rfl
theorem k_65 : Jvm.Cond.fieldLink "TurnHost$Term" (18 : Nat) "TurnHost$Term" "first" "LTurnHost$Term;" ∈ th_tb := tbg (tbl1 (List.mem_of_getElem? (i := 65) rfl)) rfl
theorem k_66 : Jvm.Cond.fieldLink "TurnHost$Machine" (77 : Nat) "TurnHost$Term" "first" "LTurnHost$Term;" ∈ th_tb := tbg (tbl1 (List.mem_of_getElem? (i := 66) rfl)) rfl
theorem k_67 : Jvm.Cond.fieldLink "TurnHost$Term" (22 : Nat) "TurnHost$Term" "second" "LTurnHost$Term;" ∈ th_tb := tbg (tbl1 (List.mem_of_getElem? (i := 67) rfl)) rfl
theorem k_68 : Jvm.Cond.fieldLink "TurnHost$Machine" (80 : Nat) "TurnHost$Term" "second" "LTurnHost$Term;" ∈ th_tb := tbg (tbl1 (List.mem_of_getElem? (i := 68) rfl)) rfl
theorem k_69 : Jvm.Cond.fieldLink "TurnHost$Term" (25 : Nat) "TurnHost$Term" "weight" "I" ∈ th_tb := tbg (tbl1 (List.mem_of_getElem? (i := 69) rfl)) rfl
theorem k_70 : Jvm.Cond.fieldLink "TurnHost$Society" (114 : Nat) "TurnHost$Term" "weight" "I" ∈ th_tb := tbg (tbl1 (List.mem_of_getElem? (i := 70) rfl)) rfl
theorem k_71 : Jvm.Cond.laysFinal "TurnHost$Term" "TurnHost$Term" "sort" "I" ∈ th_tb := tbg (tbl1 (List.mem_of_getElem? (i := 71) rfl)) rfl
theorem k_73 : Jvm.Cond.laysFinal "TurnHost$Term" "TurnHost$Term" "number" "I" ∈ th_tb := tbg (tbl1 (List.mem_of_getElem? (i := 73) rfl)) rfl
theorem k_75 : Jvm.Cond.laysFinal "TurnHost$Term" "TurnHost$Term" "first" "LTurnHost$Term;" ∈ th_tb := tbg (tbl1 (List.mem_of_getElem? (i := 75) rfl)) rfl
theorem k_77 : Jvm.Cond.laysFinal "TurnHost$Term" "TurnHost$Term" "second" "LTurnHost$Term;" ∈ th_tb := tbg (tbl1 (List.mem_of_getElem? (i := 77) rfl)) rfl
theorem k_79 : Jvm.Cond.laysFinal "TurnHost$Term" "TurnHost$Term" "weight" "I" ∈ th_tb := tbg (tbl1 (List.mem_of_getElem? (i := 79) rfl)) rfl
theorem k_83 : Jvm.Cond.classLink "TurnHost$HostProcess" (32 : Nat) "TurnHost$Mailbox" ∈ th_tb := tbg (tbl1 (List.mem_of_getElem? (i := 83) rfl)) rfl
theorem k_84 : Jvm.Cond.instantiable "TurnHost$Mailbox" (3 : Nat) ∈ th_tb := tbg (tbl1 (List.mem_of_getElem? (i := 84) rfl)) rfl
theorem k_85 : Jvm.Cond.methodLink "TurnHost$HostProcess" (34 : Nat) ({ cls := "TurnHost$Mailbox", name := "<init>", desc := "()V" } : MethodName) ∈ th_tb := tbg (tbl1 (List.mem_of_getElem? (i := 85) rfl)) rfl
theorem k_86 : Jvm.Cond.instanceMethod ({ cls := "TurnHost$Mailbox", name := "<init>", desc := "()V" } : MethodName) ∈ th_tb := tbg (tbl1 (List.mem_of_getElem? (i := 86) rfl)) rfl
theorem k_87 : Jvm.Cond.code ({ cls := "TurnHost$Mailbox", name := "<init>", desc := "()V" } : MethodName) prog_5_method_1_code (1 : Nat) (Option.none : Option Jvm.ClassFile.FieldType) ∈ th_tb := tbg (tbl1 (List.mem_of_getElem? (i := 87) rfl)) rfl
theorem k_88 : Jvm.Cond.methodLink "TurnHost$Mailbox" (3 : Nat) ({ cls := "java/lang/Object", name := "<init>", desc := "()V" } : MethodName) ∈ th_tb := tbg (tbl1 (List.mem_of_getElem? (i := 88) rfl)) rfl
theorem k_89 : Jvm.Cond.classLink "TurnHost$Mailbox" (9 : Nat) "TurnHost$Term" ∈ th_tb := tbg (tbl1 (List.mem_of_getElem? (i := 89) rfl)) rfl
theorem k_90 : Jvm.Cond.fieldLink "TurnHost$Mailbox" (11 : Nat) "TurnHost$Mailbox" "messages" "[LTurnHost$Term;" ∈ th_tb := tbg (tbl1 (List.mem_of_getElem? (i := 90) rfl)) rfl
theorem k_91 : Jvm.Cond.fieldLink "TurnHost$Mailbox" (17 : Nat) "TurnHost$Mailbox" "count" "I" ∈ th_tb := tbg (tbl1 (List.mem_of_getElem? (i := 91) rfl)) rfl
theorem k_92 : Jvm.Cond.fieldLink "TurnHost$HostProcess" (67 : Nat) "TurnHost$Mailbox" "count" "I" ∈ th_tb := tbg (tbl1 (List.mem_of_getElem? (i := 92) rfl)) rfl
theorem k_93 : Jvm.Cond.fieldLink "TurnHost$Mailbox" (21 : Nat) "TurnHost$Mailbox" "mark" "I" ∈ th_tb := tbg (tbl1 (List.mem_of_getElem? (i := 93) rfl)) rfl
theorem k_94 : Jvm.Cond.fieldLink "TurnHost$HostProcess" (64 : Nat) "TurnHost$Mailbox" "mark" "I" ∈ th_tb := tbg (tbl1 (List.mem_of_getElem? (i := 94) rfl)) rfl
theorem k_95 : Jvm.Cond.fieldLink "TurnHost$Machine" (166 : Nat) "TurnHost$Mailbox" "mark" "I" ∈ th_tb := tbg (tbl1 (List.mem_of_getElem? (i := 95) rfl)) rfl
theorem k_96 : Jvm.Cond.laysFinal "TurnHost$Mailbox" "TurnHost$Mailbox" "messages" "[LTurnHost$Term;" ∈ th_tb := tbg (tbl1 (List.mem_of_getElem? (i := 96) rfl)) rfl
theorem k_98 : Jvm.Cond.lays "TurnHost$Mailbox" "TurnHost$Mailbox" "count" "I" ∈ th_tb := tbg (tbl1 (List.mem_of_getElem? (i := 98) rfl)) rfl
theorem k_100 : Jvm.Cond.lays "TurnHost$Mailbox" "TurnHost$Mailbox" "mark" "I" ∈ th_tb := tbg (tbl1 (List.mem_of_getElem? (i := 100) rfl)) rfl
theorem k_103 : Jvm.Cond.fieldLink "TurnHost$HostProcess" (9 : Nat) "TurnHost$HostProcess" "number" "I" ∈ th_tb := tbg (tbl1 (List.mem_of_getElem? (i := 103) rfl)) rfl
theorem k_104 : Jvm.Cond.fieldLink "TurnHost" (50 : Nat) "TurnHost$HostProcess" "number" "I" ∈ th_tb := tbg (tbl1 (List.mem_of_getElem? (i := 104) rfl)) rfl
theorem k_105 : Jvm.Cond.fieldLink "TurnHost$Society" (61 : Nat) "TurnHost$HostProcess" "number" "I" ∈ th_tb := tbg (tbl1 (List.mem_of_getElem? (i := 105) rfl)) rfl
theorem k_106 : Jvm.Cond.fieldLink "TurnHost$HostProcess" (20 : Nat) "TurnHost$HostProcess" "pid" "LTurnHost$Term;" ∈ th_tb := tbg (tbl1 (List.mem_of_getElem? (i := 106) rfl)) rfl
theorem k_107 : Jvm.Cond.fieldLink "TurnHost$Machine" (66 : Nat) "TurnHost$HostProcess" "pid" "LTurnHost$Term;" ∈ th_tb := tbg (tbl1 (List.mem_of_getElem? (i := 107) rfl)) rfl
theorem k_108 : Jvm.Cond.fieldLink "TurnHost$Society" (117 : Nat) "TurnHost$HostProcess" "pid" "LTurnHost$Term;" ∈ th_tb := tbg (tbl1 (List.mem_of_getElem? (i := 108) rfl)) rfl
theorem k_109 : Jvm.Cond.fieldLink "TurnHost$HostProcess" (24 : Nat) "TurnHost$HostProcess" "registers" "[LTurnHost$Term;" ∈ th_tb := tbg (tbl1 (List.mem_of_getElem? (i := 109) rfl)) rfl
theorem k_110 : Jvm.Cond.fieldLink "TurnHost$Machine" (54 : Nat) "TurnHost$HostProcess" "registers" "[LTurnHost$Term;" ∈ th_tb := tbg (tbl1 (List.mem_of_getElem? (i := 110) rfl)) rfl
theorem k_111 : Jvm.Cond.fieldLink "TurnHost$HostProcess" (28 : Nat) "TurnHost$HostProcess" "returns" "[I" ∈ th_tb := tbg (tbl1 (List.mem_of_getElem? (i := 111) rfl)) rfl
theorem k_112 : Jvm.Cond.fieldLink "TurnHost$Machine" (160 : Nat) "TurnHost$HostProcess" "returns" "[I" ∈ th_tb := tbg (tbl1 (List.mem_of_getElem? (i := 112) rfl)) rfl
theorem k_113 : Jvm.Cond.fieldLink "TurnHost$HostProcess" (35 : Nat) "TurnHost$HostProcess" "mailbox" "LTurnHost$Mailbox;" ∈ th_tb := tbg (tbl1 (List.mem_of_getElem? (i := 113) rfl)) rfl
theorem k_114 : Jvm.Cond.fieldLink "TurnHost$Machine" (119 : Nat) "TurnHost$HostProcess" "mailbox" "LTurnHost$Mailbox;" ∈ th_tb := tbg (tbl1 (List.mem_of_getElem? (i := 114) rfl)) rfl
theorem k_115 : Jvm.Cond.fieldLink "TurnHost$Society" (68 : Nat) "TurnHost$HostProcess" "mailbox" "LTurnHost$Mailbox;" ∈ th_tb := tbg (tbl1 (List.mem_of_getElem? (i := 115) rfl)) rfl
theorem k_116 : Jvm.Cond.fieldLink "TurnHost$HostProcess" (42 : Nat) "TurnHost$HostProcess" "returnCount" "I" ∈ th_tb := tbg (tbl1 (List.mem_of_getElem? (i := 116) rfl)) rfl
theorem k_117 : Jvm.Cond.fieldLink "TurnHost$Machine" (157 : Nat) "TurnHost$HostProcess" "returnCount" "I" ∈ th_tb := tbg (tbl1 (List.mem_of_getElem? (i := 117) rfl)) rfl
theorem k_118 : Jvm.Cond.fieldLink "TurnHost$Machine" (31 : Nat) "TurnHost$HostProcess" "place" "I" ∈ th_tb := tbg (tbl1 (List.mem_of_getElem? (i := 118) rfl)) rfl
theorem k_119 : Jvm.Cond.fieldLink "TurnHost$HostProcess" (45 : Nat) "TurnHost$HostProcess" "place" "I" ∈ th_tb := tbg (tbl1 (List.mem_of_getElem? (i := 119) rfl)) rfl
theorem k_120 : Jvm.Cond.fieldLink "TurnHost$HostProcess" (48 : Nat) "TurnHost$HostProcess" "links" "I" ∈ th_tb := tbg (tbl1 (List.mem_of_getElem? (i := 120) rfl)) rfl
theorem k_121 : Jvm.Cond.fieldLink "TurnHost$Society" (81 : Nat) "TurnHost$HostProcess" "links" "I" ∈ th_tb := tbg (tbl1 (List.mem_of_getElem? (i := 121) rfl)) rfl
theorem k_122 : Jvm.Cond.fieldLink "TurnHost$HostProcess" (51 : Nat) "TurnHost$HostProcess" "traps" "Z" ∈ th_tb := tbg (tbl1 (List.mem_of_getElem? (i := 122) rfl)) rfl
theorem k_123 : Jvm.Cond.fieldLink "TurnHost$Society" (95 : Nat) "TurnHost$HostProcess" "traps" "Z" ∈ th_tb := tbg (tbl1 (List.mem_of_getElem? (i := 123) rfl)) rfl
theorem k_124 : Jvm.Cond.fieldLink "TurnHost$Machine" (188 : Nat) "TurnHost$HostProcess" "traps" "Z" ∈ th_tb := tbg (tbl1 (List.mem_of_getElem? (i := 124) rfl)) rfl
theorem k_125 : Jvm.Cond.fieldLink "TurnHost$HostProcess" (55 : Nat) "TurnHost$HostProcess" "state" "I" ∈ th_tb := tbg (tbl1 (List.mem_of_getElem? (i := 125) rfl)) rfl
theorem k_126 : Jvm.Cond.fieldLink "TurnHost" (59 : Nat) "TurnHost$HostProcess" "state" "I" ∈ th_tb := tbg (tbl1 (List.mem_of_getElem? (i := 126) rfl)) rfl
theorem k_127 : Jvm.Cond.fieldLink "TurnHost$Society" (65 : Nat) "TurnHost$HostProcess" "state" "I" ∈ th_tb := tbg (tbl1 (List.mem_of_getElem? (i := 127) rfl)) rfl
theorem k_128 : Jvm.Cond.fieldLink "TurnHost$Machine" (177 : Nat) "TurnHost$HostProcess" "state" "I" ∈ th_tb := tbg (tbl1 (List.mem_of_getElem? (i := 128) rfl)) rfl
theorem k_129 : Jvm.Cond.fieldLink "TurnHost$HostProcess" (58 : Nat) "TurnHost$HostProcess" "reason" "LTurnHost$Term;" ∈ th_tb := tbg (tbl1 (List.mem_of_getElem? (i := 129) rfl)) rfl
theorem k_130 : Jvm.Cond.fieldLink "TurnHost$Society" (84 : Nat) "TurnHost$HostProcess" "reason" "LTurnHost$Term;" ∈ th_tb := tbg (tbl1 (List.mem_of_getElem? (i := 130) rfl)) rfl
theorem k_131 : Jvm.Cond.fieldLink "TurnHost$Machine" (25 : Nat) "TurnHost$HostProcess" "reductions" "I" ∈ th_tb := tbg (tbl1 (List.mem_of_getElem? (i := 131) rfl)) rfl
theorem k_132 : Jvm.Cond.fieldLink "TurnHost$HostProcess" (61 : Nat) "TurnHost$HostProcess" "reductions" "I" ∈ th_tb := tbg (tbl1 (List.mem_of_getElem? (i := 132) rfl)) rfl
theorem k_133 : Jvm.Cond.laysFinal "TurnHost$HostProcess" "TurnHost$HostProcess" "number" "I" ∈ th_tb := tbg (tbl1 (List.mem_of_getElem? (i := 133) rfl)) rfl
theorem k_135 : Jvm.Cond.laysFinal "TurnHost$HostProcess" "TurnHost$HostProcess" "pid" "LTurnHost$Term;" ∈ th_tb := tbg (tbl1 (List.mem_of_getElem? (i := 135) rfl)) rfl
theorem k_137 : Jvm.Cond.laysFinal "TurnHost$HostProcess" "TurnHost$HostProcess" "registers" "[LTurnHost$Term;" ∈ th_tb := tbg (tbl1 (List.mem_of_getElem? (i := 137) rfl)) rfl
theorem k_139 : Jvm.Cond.laysFinal "TurnHost$HostProcess" "TurnHost$HostProcess" "returns" "[I" ∈ th_tb := tbg (tbl1 (List.mem_of_getElem? (i := 139) rfl)) rfl
theorem k_141 : Jvm.Cond.laysFinal "TurnHost$HostProcess" "TurnHost$HostProcess" "mailbox" "LTurnHost$Mailbox;" ∈ th_tb := tbg (tbl1 (List.mem_of_getElem? (i := 141) rfl)) rfl
theorem k_143 : Jvm.Cond.lays "TurnHost$HostProcess" "TurnHost$HostProcess" "returnCount" "I" ∈ th_tb := tbg (tbl1 (List.mem_of_getElem? (i := 143) rfl)) rfl
theorem k_145 : Jvm.Cond.lays "TurnHost$HostProcess" "TurnHost$HostProcess" "place" "I" ∈ th_tb := tbg (tbl1 (List.mem_of_getElem? (i := 145) rfl)) rfl
theorem k_147 : Jvm.Cond.lays "TurnHost$HostProcess" "TurnHost$HostProcess" "links" "I" ∈ th_tb := tbg (tbl1 (List.mem_of_getElem? (i := 147) rfl)) rfl
theorem k_149 : Jvm.Cond.lays "TurnHost$HostProcess" "TurnHost$HostProcess" "traps" "Z" ∈ th_tb := tbg (tbl1 (List.mem_of_getElem? (i := 149) rfl)) rfl
theorem k_151 : Jvm.Cond.lays "TurnHost$HostProcess" "TurnHost$HostProcess" "state" "I" ∈ th_tb := tbg (tbl1 (List.mem_of_getElem? (i := 151) rfl)) rfl
theorem k_153 : Jvm.Cond.lays "TurnHost$HostProcess" "TurnHost$HostProcess" "reason" "LTurnHost$Term;" ∈ th_tb := tbg (tbl1 (List.mem_of_getElem? (i := 153) rfl)) rfl
theorem k_155 : Jvm.Cond.lays "TurnHost$HostProcess" "TurnHost$HostProcess" "reductions" "I" ∈ th_tb := tbg (tbl1 (List.mem_of_getElem? (i := 155) rfl)) rfl
theorem k_158 : Jvm.Cond.classLink "TurnHost$Society" (20 : Nat) "TurnHost$Line" ∈ th_tb := tbg (tbl1 (List.mem_of_getElem? (i := 158) rfl)) rfl
theorem k_159 : Jvm.Cond.instantiable "TurnHost$Line" (2 : Nat) ∈ th_tb := tbg (tbl1 (List.mem_of_getElem? (i := 159) rfl)) rfl
theorem k_160 : Jvm.Cond.methodLink "TurnHost$Society" (22 : Nat) ({ cls := "TurnHost$Line", name := "<init>", desc := "()V" } : MethodName) ∈ th_tb := tbg (tbl1 (List.mem_of_getElem? (i := 160) rfl)) rfl
theorem k_161 : Jvm.Cond.instanceMethod ({ cls := "TurnHost$Line", name := "<init>", desc := "()V" } : MethodName) ∈ th_tb := tbg (tbl1 (List.mem_of_getElem? (i := 161) rfl)) rfl
theorem k_162 : Jvm.Cond.code ({ cls := "TurnHost$Line", name := "<init>", desc := "()V" } : MethodName) prog_3_method_1_code (1 : Nat) (Option.none : Option Jvm.ClassFile.FieldType) ∈ th_tb := tbg (tbl1 (List.mem_of_getElem? (i := 162) rfl)) rfl
theorem k_163 : Jvm.Cond.methodLink "TurnHost$Line" (3 : Nat) ({ cls := "java/lang/Object", name := "<init>", desc := "()V" } : MethodName) ∈ th_tb := tbg (tbl1 (List.mem_of_getElem? (i := 163) rfl)) rfl
theorem k_164 : Jvm.Cond.fieldLink "TurnHost$Line" (9 : Nat) "TurnHost$Line" "numbers" "[I" ∈ th_tb := tbg (tbl1 (List.mem_of_getElem? (i := 164) rfl)) rfl
theorem k_165 : Jvm.Cond.fieldLink "TurnHost$Line" (15 : Nat) "TurnHost$Line" "count" "I" ∈ th_tb := tbg (tbl1 (List.mem_of_getElem? (i := 165) rfl)) rfl
theorem k_166 : Jvm.Cond.laysFinal "TurnHost$Line" "TurnHost$Line" "numbers" "[I" ∈ th_tb := tbg (tbl1 (List.mem_of_getElem? (i := 166) rfl)) rfl
theorem k_168 : Jvm.Cond.lays "TurnHost$Line" "TurnHost$Line" "count" "I" ∈ th_tb := tbg (tbl1 (List.mem_of_getElem? (i := 168) rfl)) rfl
theorem k_171 : Jvm.Cond.classLink "TurnHost$Society" (27 : Nat) "TurnHost$Term" ∈ th_tb := tbg (tbl1 (List.mem_of_getElem? (i := 171) rfl)) rfl
theorem k_172 : Jvm.Cond.methodLink "TurnHost$Society" (29 : Nat) ({ cls := "TurnHost$Term", name := "<init>", desc := "(II)V" } : MethodName) ∈ th_tb := tbg (tbl1 (List.mem_of_getElem? (i := 172) rfl)) rfl
theorem k_173 : Jvm.Cond.fieldLink "TurnHost$Society" (11 : Nat) "TurnHost$Society" "table" "[LTurnHost$HostProcess;" ∈ th_tb := tbg (tbl1 (List.mem_of_getElem? (i := 173) rfl)) rfl
theorem k_174 : Jvm.Cond.fieldLink "TurnHost$Society" (23 : Nat) "TurnHost$Society" "line" "LTurnHost$Line;" ∈ th_tb := tbg (tbl1 (List.mem_of_getElem? (i := 174) rfl)) rfl
theorem k_175 : Jvm.Cond.fieldLink "TurnHost" (66 : Nat) "TurnHost$Society" "line" "LTurnHost$Line;" ∈ th_tb := tbg (tbl1 (List.mem_of_getElem? (i := 175) rfl)) rfl
theorem k_176 : Jvm.Cond.fieldLink "TurnHost$Society" (32 : Nat) "TurnHost$Society" "nil" "LTurnHost$Term;" ∈ th_tb := tbg (tbl1 (List.mem_of_getElem? (i := 176) rfl)) rfl
theorem k_177 : Jvm.Cond.fieldLink "TurnHost$Machine" (70 : Nat) "TurnHost$Society" "nil" "LTurnHost$Term;" ∈ th_tb := tbg (tbl1 (List.mem_of_getElem? (i := 177) rfl)) rfl
theorem k_178 : Jvm.Cond.fieldLink "TurnHost$Society" (36 : Nat) "TurnHost$Society" "atoms" "[LTurnHost$Term;" ∈ th_tb := tbg (tbl1 (List.mem_of_getElem? (i := 178) rfl)) rfl
theorem k_179 : Jvm.Cond.fieldLink "TurnHost$Machine" (38 : Nat) "TurnHost$Society" "atoms" "[LTurnHost$Term;" ∈ th_tb := tbg (tbl1 (List.mem_of_getElem? (i := 179) rfl)) rfl
theorem k_180 : Jvm.Cond.fieldLink "TurnHost$Society" (40 : Nat) "TurnHost$Society" "count" "I" ∈ th_tb := tbg (tbl1 (List.mem_of_getElem? (i := 180) rfl)) rfl
theorem k_181 : Jvm.Cond.fieldLink "TurnHost" (83 : Nat) "TurnHost$Society" "count" "I" ∈ th_tb := tbg (tbl1 (List.mem_of_getElem? (i := 181) rfl)) rfl
theorem k_182 : Jvm.Cond.laysFinal "TurnHost$Society" "TurnHost$Society" "table" "[LTurnHost$HostProcess;" ∈ th_tb := tbg (tbl1 (List.mem_of_getElem? (i := 182) rfl)) rfl
theorem k_184 : Jvm.Cond.laysFinal "TurnHost$Society" "TurnHost$Society" "line" "LTurnHost$Line;" ∈ th_tb := tbg (tbl1 (List.mem_of_getElem? (i := 184) rfl)) rfl
theorem k_186 : Jvm.Cond.laysFinal "TurnHost$Society" "TurnHost$Society" "nil" "LTurnHost$Term;" ∈ th_tb := tbg (tbl1 (List.mem_of_getElem? (i := 186) rfl)) rfl
theorem k_188 : Jvm.Cond.laysFinal "TurnHost$Society" "TurnHost$Society" "atoms" "[LTurnHost$Term;" ∈ th_tb := tbg (tbl1 (List.mem_of_getElem? (i := 188) rfl)) rfl
theorem k_190 : Jvm.Cond.lays "TurnHost$Society" "TurnHost$Society" "count" "I" ∈ th_tb := tbg (tbl1 (List.mem_of_getElem? (i := 190) rfl)) rfl
theorem k_193 : Jvm.Cond.fieldLink "TurnHost$Machine" (12 : Nat) "TurnHost$Machine" "program" "LTurnHost$Program;" ∈ th_tb := tbg (tbl1 (List.mem_of_getElem? (i := 193) rfl)) rfl
theorem k_194 : Jvm.Cond.fieldLink "TurnHost" (20 : Nat) "TurnHost$Machine" "program" "LTurnHost$Program;" ∈ th_tb := tbg (tbl1 (List.mem_of_getElem? (i := 194) rfl)) rfl
theorem k_195 : Jvm.Cond.fieldLink "TurnHost$Machine" (21 : Nat) "TurnHost$Machine" "society" "LTurnHost$Society;" ∈ th_tb := tbg (tbl1 (List.mem_of_getElem? (i := 195) rfl)) rfl
theorem k_196 : Jvm.Cond.fieldLink "TurnHost" (25 : Nat) "TurnHost$Machine" "society" "LTurnHost$Society;" ∈ th_tb := tbg (tbl1 (List.mem_of_getElem? (i := 196) rfl)) rfl
theorem k_197 : Jvm.Cond.laysFinal "TurnHost$Machine" "TurnHost$Machine" "program" "LTurnHost$Program;" ∈ th_tb := tbg (tbl1 (List.mem_of_getElem? (i := 197) rfl)) rfl
theorem k_199 : Jvm.Cond.laysFinal "TurnHost$Machine" "TurnHost$Machine" "society" "LTurnHost$Society;" ∈ th_tb := tbg (tbl1 (List.mem_of_getElem? (i := 199) rfl)) rfl
theorem k_202 : Jvm.Cond.fieldLink "TurnHost" (9 : Nat) "TurnHost" "quota" "I" ∈ th_tb := tbg (tbl1 (List.mem_of_getElem? (i := 202) rfl)) rfl
theorem k_203 : Jvm.Cond.fieldLink "TurnHost" (16 : Nat) "TurnHost" "machine" "LTurnHost$Machine;" ∈ th_tb := tbg (tbl1 (List.mem_of_getElem? (i := 203) rfl)) rfl
theorem k_204 : Jvm.Cond.fieldLink "TurnHost" (24 : Nat) "TurnHost" "program" "LTurnHost$Program;" ∈ th_tb := tbg (tbl1 (List.mem_of_getElem? (i := 204) rfl)) rfl
theorem k_205 : Jvm.Cond.fieldLink "TurnHost" (29 : Nat) "TurnHost" "society" "LTurnHost$Society;" ∈ th_tb := tbg (tbl1 (List.mem_of_getElem? (i := 205) rfl)) rfl
theorem k_206 : Jvm.Cond.fieldLink "TurnHost" (30 : Nat) "TurnHost" "spent" "I" ∈ th_tb := tbg (tbl1 (List.mem_of_getElem? (i := 206) rfl)) rfl
theorem k_207 : Jvm.Cond.laysFinal "TurnHost" "TurnHost" "quota" "I" ∈ th_tb := tbg (tbl1 (List.mem_of_getElem? (i := 207) rfl)) rfl
theorem k_209 : Jvm.Cond.laysFinal "TurnHost" "TurnHost" "machine" "LTurnHost$Machine;" ∈ th_tb := tbg (tbl1 (List.mem_of_getElem? (i := 209) rfl)) rfl
theorem k_211 : Jvm.Cond.laysFinal "TurnHost" "TurnHost" "program" "LTurnHost$Program;" ∈ th_tb := tbg (tbl1 (List.mem_of_getElem? (i := 211) rfl)) rfl
theorem k_213 : Jvm.Cond.laysFinal "TurnHost" "TurnHost" "society" "LTurnHost$Society;" ∈ th_tb := tbg (tbl1 (List.mem_of_getElem? (i := 213) rfl)) rfl
theorem k_215 : Jvm.Cond.lays "TurnHost" "TurnHost" "spent" "I" ∈ th_tb := tbg (tbl1 (List.mem_of_getElem? (i := 215) rfl)) rfl
theorem k_218 : Jvm.Cond.methodLink "TurnHostLaw" (21 : Nat) ({ cls := "TurnHost", name := "add", desc := "(IIII)I" } : MethodName) ∈ th_tb := tbg (tbl1 (List.mem_of_getElem? (i := 218) rfl)) rfl
theorem k_219 : Jvm.Cond.instanceMethod ({ cls := "TurnHost", name := "add", desc := "(IIII)I" } : MethodName) ∈ th_tb := tbg (tbl1 (List.mem_of_getElem? (i := 219) rfl)) rfl
theorem k_220 : Jvm.Cond.selects "TurnHost" ({ cls := "TurnHost", name := "add", desc := "(IIII)I" } : MethodName) ({ cls := "TurnHost", name := "add", desc := "(IIII)I" } : MethodName) ∈ th_tb := tbg (tbl1 (List.mem_of_getElem? (i := 220) rfl)) rfl
theorem k_221 : Jvm.Cond.code ({ cls := "TurnHost", name := "add", desc := "(IIII)I" } : MethodName) prog_1_method_2_code (5 : Nat) (Option.some Jvm.ClassFile.FieldType.int) ∈ th_tb := tbg (tbl1 (List.mem_of_getElem? (i := 221) rfl)) rfl
theorem k_222 : Jvm.Cond.methodLink "TurnHost" (33 : Nat) ({ cls := "TurnHost$Program", name := "append", desc := "(IIII)I" } : MethodName) ∈ th_tb := tbg (tbl1 (List.mem_of_getElem? (i := 222) rfl)) rfl
theorem k_223 : Jvm.Cond.instanceMethod ({ cls := "TurnHost$Program", name := "append", desc := "(IIII)I" } : MethodName) ∈ th_tb := tbg (tbl1 (List.mem_of_getElem? (i := 223) rfl)) rfl
theorem k_224 : Jvm.Cond.selects "TurnHost$Program" ({ cls := "TurnHost$Program", name := "append", desc := "(IIII)I" } : MethodName) ({ cls := "TurnHost$Program", name := "append", desc := "(IIII)I" } : MethodName) ∈ th_tb := tbg (tbl1 (List.mem_of_getElem? (i := 224) rfl)) rfl
theorem k_225 : Jvm.Cond.code ({ cls := "TurnHost$Program", name := "append", desc := "(IIII)I" } : MethodName) prog_6_method_2_code (7 : Nat) (Option.some Jvm.ClassFile.FieldType.int) ∈ th_tb := tbg (tbl1 (List.mem_of_getElem? (i := 225) rfl)) rfl
theorem k_228 : Jvm.Cond.methodLink "TurnHost$Program" (22 : Nat) ({ cls := "TurnHost$Program", name := "fits", desc := "(II)Z" } : MethodName) ∈ th_tb := tbg (tbl1 (List.mem_of_getElem? (i := 228) rfl)) rfl
theorem k_229 : Jvm.Cond.static ({ cls := "TurnHost$Program", name := "fits", desc := "(II)Z" } : MethodName) ∈ th_tb := tbg (tbl1 (List.mem_of_getElem? (i := 229) rfl)) rfl
theorem k_230 : Jvm.Cond.code ({ cls := "TurnHost$Program", name := "fits", desc := "(II)Z" } : MethodName) prog_6_method_3_code (2 : Nat) (Option.some Jvm.ClassFile.FieldType.boolean) ∈ th_tb := tbg (tbl1 (List.mem_of_getElem? (i := 230) rfl)) rfl
theorem k_231 : Jvm.Cond.methodLink "TurnHostLaw" (26 : Nat) ({ cls := "TurnHost", name := "begin", desc := "(II)I" } : MethodName) ∈ th_tb := tbg (tbl1 (List.mem_of_getElem? (i := 231) rfl)) rfl
theorem k_232 : Jvm.Cond.instanceMethod ({ cls := "TurnHost", name := "begin", desc := "(II)I" } : MethodName) ∈ th_tb := tbg (tbl1 (List.mem_of_getElem? (i := 232) rfl)) rfl
theorem k_233 : Jvm.Cond.selects "TurnHost" ({ cls := "TurnHost", name := "begin", desc := "(II)I" } : MethodName) ({ cls := "TurnHost", name := "begin", desc := "(II)I" } : MethodName) ∈ th_tb := tbg (tbl1 (List.mem_of_getElem? (i := 233) rfl)) rfl
theorem k_234 : Jvm.Cond.code ({ cls := "TurnHost", name := "begin", desc := "(II)I" } : MethodName) prog_1_method_3_code (4 : Nat) (Option.some Jvm.ClassFile.FieldType.int) ∈ th_tb := tbg (tbl1 (List.mem_of_getElem? (i := 234) rfl)) rfl
theorem k_235 : Jvm.Cond.classLink "TurnHost" (39 : Nat) "TurnHost$Term" ∈ th_tb := tbg (tbl1 (List.mem_of_getElem? (i := 235) rfl)) rfl
theorem k_236 : Jvm.Cond.methodLink "TurnHost" (41 : Nat) ({ cls := "TurnHost$Term", name := "<init>", desc := "(II)V" } : MethodName) ∈ th_tb := tbg (tbl1 (List.mem_of_getElem? (i := 236) rfl)) rfl
theorem k_237 : Jvm.Cond.methodLink "TurnHost" (44 : Nat) ({ cls := "TurnHost$Society", name := "start", desc := "(ILTurnHost$Term;)LTurnHost$HostProcess;" } : MethodName) ∈ th_tb := tbg (tbl1 (List.mem_of_getElem? (i := 237) rfl)) rfl
theorem k_238 : Jvm.Cond.instanceMethod ({ cls := "TurnHost$Society", name := "start", desc := "(ILTurnHost$Term;)LTurnHost$HostProcess;" } : MethodName) ∈ th_tb := tbg (tbl1 (List.mem_of_getElem? (i := 238) rfl)) rfl
theorem k_239 : Jvm.Cond.selects "TurnHost$Society" ({ cls := "TurnHost$Society", name := "start", desc := "(ILTurnHost$Term;)LTurnHost$HostProcess;" } : MethodName) ({ cls := "TurnHost$Society", name := "start", desc := "(ILTurnHost$Term;)LTurnHost$HostProcess;" } : MethodName) ∈ th_tb := tbg (tbl1 (List.mem_of_getElem? (i := 239) rfl)) rfl
theorem k_240 : Jvm.Cond.code ({ cls := "TurnHost$Society", name := "start", desc := "(ILTurnHost$Term;)LTurnHost$HostProcess;" } : MethodName) prog_7_method_5_code (4 : Nat) (Option.some (Jvm.ClassFile.FieldType.object "TurnHost$HostProcess")) ∈ th_tb := tbg (tbl2 (List.mem_of_getElem? (i := 0) rfl)) rfl
theorem k_241 : Jvm.Cond.methodLink "TurnHost$Society" (57 : Nat) ({ cls := "TurnHost$HostProcess", name := "renew", desc := "(ILTurnHost$Term;LTurnHost$Term;)V" } : MethodName) ∈ th_tb := tbg (tbl2 (List.mem_of_getElem? (i := 1) rfl)) rfl
theorem k_242 : Jvm.Cond.instanceMethod ({ cls := "TurnHost$HostProcess", name := "renew", desc := "(ILTurnHost$Term;LTurnHost$Term;)V" } : MethodName) ∈ th_tb := tbg (tbl2 (List.mem_of_getElem? (i := 2) rfl)) rfl
theorem k_243 : Jvm.Cond.selects "TurnHost$HostProcess" ({ cls := "TurnHost$HostProcess", name := "renew", desc := "(ILTurnHost$Term;LTurnHost$Term;)V" } : MethodName) ({ cls := "TurnHost$HostProcess", name := "renew", desc := "(ILTurnHost$Term;LTurnHost$Term;)V" } : MethodName) ∈ th_tb := tbg (tbl2 (List.mem_of_getElem? (i := 3) rfl)) rfl
theorem k_244 : Jvm.Cond.code ({ cls := "TurnHost$HostProcess", name := "renew", desc := "(ILTurnHost$Term;LTurnHost$Term;)V" } : MethodName) prog_2_method_2_code (5 : Nat) (Option.none : Option Jvm.ClassFile.FieldType) ∈ th_tb := tbg (tbl2 (List.mem_of_getElem? (i := 4) rfl)) rfl
theorem k_245 : Jvm.Cond.methodLink "TurnHost$HostProcess" (39 : Nat) ({ cls := "TurnHost$Mailbox", name := "empty", desc := "()V" } : MethodName) ∈ th_tb := tbg (tbl2 (List.mem_of_getElem? (i := 5) rfl)) rfl
theorem k_246 : Jvm.Cond.instanceMethod ({ cls := "TurnHost$Mailbox", name := "empty", desc := "()V" } : MethodName) ∈ th_tb := tbg (tbl2 (List.mem_of_getElem? (i := 6) rfl)) rfl
theorem k_247 : Jvm.Cond.selects "TurnHost$Mailbox" ({ cls := "TurnHost$Mailbox", name := "empty", desc := "()V" } : MethodName) ({ cls := "TurnHost$Mailbox", name := "empty", desc := "()V" } : MethodName) ∈ th_tb := tbg (tbl2 (List.mem_of_getElem? (i := 7) rfl)) rfl
theorem k_248 : Jvm.Cond.code ({ cls := "TurnHost$Mailbox", name := "empty", desc := "()V" } : MethodName) prog_5_method_2_code (1 : Nat) (Option.none : Option Jvm.ClassFile.FieldType) ∈ th_tb := tbg (tbl2 (List.mem_of_getElem? (i := 8) rfl)) rfl
theorem k_249 : Jvm.Cond.methodLink "TurnHost$Society" (62 : Nat) ({ cls := "TurnHost$Line", name := "append", desc := "(I)V" } : MethodName) ∈ th_tb := tbg (tbl2 (List.mem_of_getElem? (i := 9) rfl)) rfl
theorem k_250 : Jvm.Cond.instanceMethod ({ cls := "TurnHost$Line", name := "append", desc := "(I)V" } : MethodName) ∈ th_tb := tbg (tbl2 (List.mem_of_getElem? (i := 10) rfl)) rfl
theorem k_251 : Jvm.Cond.selects "TurnHost$Line" ({ cls := "TurnHost$Line", name := "append", desc := "(I)V" } : MethodName) ({ cls := "TurnHost$Line", name := "append", desc := "(I)V" } : MethodName) ∈ th_tb := tbg (tbl2 (List.mem_of_getElem? (i := 11) rfl)) rfl
theorem k_252 : Jvm.Cond.code ({ cls := "TurnHost$Line", name := "append", desc := "(I)V" } : MethodName) prog_3_method_4_code (2 : Nat) (Option.none : Option Jvm.ClassFile.FieldType) ∈ th_tb := tbg (tbl2 (List.mem_of_getElem? (i := 12) rfl)) rfl
theorem k_253 : Jvm.Cond.methodLink "TurnHostLaw" (31 : Nat) ({ cls := "TurnHost", name := "tell", desc := "(II)Z" } : MethodName) ∈ th_tb := tbg (tbl2 (List.mem_of_getElem? (i := 13) rfl)) rfl
theorem k_254 : Jvm.Cond.instanceMethod ({ cls := "TurnHost", name := "tell", desc := "(II)Z" } : MethodName) ∈ th_tb := tbg (tbl2 (List.mem_of_getElem? (i := 14) rfl)) rfl
theorem k_255 : Jvm.Cond.selects "TurnHost" ({ cls := "TurnHost", name := "tell", desc := "(II)Z" } : MethodName) ({ cls := "TurnHost", name := "tell", desc := "(II)Z" } : MethodName) ∈ th_tb := tbg (tbl2 (List.mem_of_getElem? (i := 15) rfl)) rfl
theorem k_256 : Jvm.Cond.code ({ cls := "TurnHost", name := "tell", desc := "(II)Z" } : MethodName) prog_1_method_4_code (4 : Nat) (Option.some Jvm.ClassFile.FieldType.boolean) ∈ th_tb := tbg (tbl2 (List.mem_of_getElem? (i := 16) rfl)) rfl
theorem k_257 : Jvm.Cond.methodLink "TurnHost" (55 : Nat) ({ cls := "TurnHost$Society", name := "numbered", desc := "(I)LTurnHost$HostProcess;" } : MethodName) ∈ th_tb := tbg (tbl2 (List.mem_of_getElem? (i := 17) rfl)) rfl
theorem k_258 : Jvm.Cond.instanceMethod ({ cls := "TurnHost$Society", name := "numbered", desc := "(I)LTurnHost$HostProcess;" } : MethodName) ∈ th_tb := tbg (tbl2 (List.mem_of_getElem? (i := 18) rfl)) rfl
theorem k_259 : Jvm.Cond.selects "TurnHost$Society" ({ cls := "TurnHost$Society", name := "numbered", desc := "(I)LTurnHost$HostProcess;" } : MethodName) ({ cls := "TurnHost$Society", name := "numbered", desc := "(I)LTurnHost$HostProcess;" } : MethodName) ∈ th_tb := tbg (tbl2 (List.mem_of_getElem? (i := 19) rfl)) rfl
theorem k_260 : Jvm.Cond.code ({ cls := "TurnHost$Society", name := "numbered", desc := "(I)LTurnHost$HostProcess;" } : MethodName) prog_7_method_3_code (2 : Nat) (Option.some (Jvm.ClassFile.FieldType.object "TurnHost$HostProcess")) ∈ th_tb := tbg (tbl2 (List.mem_of_getElem? (i := 20) rfl)) rfl
theorem k_261 : Jvm.Cond.methodLink "TurnHost" (62 : Nat) ({ cls := "TurnHost$Society", name := "deliver", desc := "(LTurnHost$HostProcess;LTurnHost$Term;)V" } : MethodName) ∈ th_tb := tbg (tbl2 (List.mem_of_getElem? (i := 21) rfl)) rfl
theorem k_262 : Jvm.Cond.instanceMethod ({ cls := "TurnHost$Society", name := "deliver", desc := "(LTurnHost$HostProcess;LTurnHost$Term;)V" } : MethodName) ∈ th_tb := tbg (tbl2 (List.mem_of_getElem? (i := 22) rfl)) rfl
theorem k_263 : Jvm.Cond.selects "TurnHost$Society" ({ cls := "TurnHost$Society", name := "deliver", desc := "(LTurnHost$HostProcess;LTurnHost$Term;)V" } : MethodName) ({ cls := "TurnHost$Society", name := "deliver", desc := "(LTurnHost$HostProcess;LTurnHost$Term;)V" } : MethodName) ∈ th_tb := tbg (tbl2 (List.mem_of_getElem? (i := 23) rfl)) rfl
theorem k_264 : Jvm.Cond.code ({ cls := "TurnHost$Society", name := "deliver", desc := "(LTurnHost$HostProcess;LTurnHost$Term;)V" } : MethodName) prog_7_method_6_code (3 : Nat) (Option.none : Option Jvm.ClassFile.FieldType) ∈ th_tb := tbg (tbl2 (List.mem_of_getElem? (i := 24) rfl)) rfl
theorem k_265 : Jvm.Cond.methodLink "TurnHost$Society" (72 : Nat) ({ cls := "TurnHost$Mailbox", name := "put", desc := "(LTurnHost$Term;)Z" } : MethodName) ∈ th_tb := tbg (tbl2 (List.mem_of_getElem? (i := 25) rfl)) rfl
theorem k_266 : Jvm.Cond.instanceMethod ({ cls := "TurnHost$Mailbox", name := "put", desc := "(LTurnHost$Term;)Z" } : MethodName) ∈ th_tb := tbg (tbl2 (List.mem_of_getElem? (i := 26) rfl)) rfl
theorem k_267 : Jvm.Cond.selects "TurnHost$Mailbox" ({ cls := "TurnHost$Mailbox", name := "put", desc := "(LTurnHost$Term;)Z" } : MethodName) ({ cls := "TurnHost$Mailbox", name := "put", desc := "(LTurnHost$Term;)Z" } : MethodName) ∈ th_tb := tbg (tbl2 (List.mem_of_getElem? (i := 27) rfl)) rfl
theorem k_268 : Jvm.Cond.code ({ cls := "TurnHost$Mailbox", name := "put", desc := "(LTurnHost$Term;)Z" } : MethodName) prog_5_method_5_code (2 : Nat) (Option.some Jvm.ClassFile.FieldType.boolean) ∈ th_tb := tbg (tbl2 (List.mem_of_getElem? (i := 28) rfl)) rfl
theorem k_269 : Jvm.Cond.methodLink "TurnHostLaw" (36 : Nat) ({ cls := "TurnHost", name := "run", desc := "(I)I" } : MethodName) ∈ th_tb := tbg (tbl2 (List.mem_of_getElem? (i := 29) rfl)) rfl
theorem k_270 : Jvm.Cond.instanceMethod ({ cls := "TurnHost", name := "run", desc := "(I)I" } : MethodName) ∈ th_tb := tbg (tbl2 (List.mem_of_getElem? (i := 30) rfl)) rfl
theorem k_271 : Jvm.Cond.selects "TurnHost" ({ cls := "TurnHost", name := "run", desc := "(I)I" } : MethodName) ({ cls := "TurnHost", name := "run", desc := "(I)I" } : MethodName) ∈ th_tb := tbg (tbl2 (List.mem_of_getElem? (i := 31) rfl)) rfl
theorem k_272 : Jvm.Cond.code ({ cls := "TurnHost", name := "run", desc := "(I)I" } : MethodName) prog_1_method_5_code (4 : Nat) (Option.some Jvm.ClassFile.FieldType.int) ∈ th_tb := tbg (tbl2 (List.mem_of_getElem? (i := 32) rfl)) rfl
theorem k_273 : Jvm.Cond.methodLink "TurnHost" (70 : Nat) ({ cls := "TurnHost$Line", name := "at", desc := "(I)I" } : MethodName) ∈ th_tb := tbg (tbl2 (List.mem_of_getElem? (i := 33) rfl)) rfl
theorem k_274 : Jvm.Cond.instanceMethod ({ cls := "TurnHost$Line", name := "at", desc := "(I)I" } : MethodName) ∈ th_tb := tbg (tbl2 (List.mem_of_getElem? (i := 34) rfl)) rfl
theorem k_275 : Jvm.Cond.selects "TurnHost$Line" ({ cls := "TurnHost$Line", name := "at", desc := "(I)I" } : MethodName) ({ cls := "TurnHost$Line", name := "at", desc := "(I)I" } : MethodName) ∈ th_tb := tbg (tbl2 (List.mem_of_getElem? (i := 35) rfl)) rfl
theorem k_276 : Jvm.Cond.code ({ cls := "TurnHost$Line", name := "at", desc := "(I)I" } : MethodName) prog_3_method_3_code (2 : Nat) (Option.some Jvm.ClassFile.FieldType.int) ∈ th_tb := tbg (tbl2 (List.mem_of_getElem? (i := 36) rfl)) rfl
theorem k_277 : Jvm.Cond.methodLink "TurnHost" (76 : Nat) ({ cls := "TurnHost$Machine", name := "reduce", desc := "(LTurnHost$HostProcess;)V" } : MethodName) ∈ th_tb := tbg (tbl2 (List.mem_of_getElem? (i := 37) rfl)) rfl
theorem k_278 : Jvm.Cond.instanceMethod ({ cls := "TurnHost$Machine", name := "reduce", desc := "(LTurnHost$HostProcess;)V" } : MethodName) ∈ th_tb := tbg (tbl2 (List.mem_of_getElem? (i := 38) rfl)) rfl
theorem k_279 : Jvm.Cond.selects "TurnHost$Machine" ({ cls := "TurnHost$Machine", name := "reduce", desc := "(LTurnHost$HostProcess;)V" } : MethodName) ({ cls := "TurnHost$Machine", name := "reduce", desc := "(LTurnHost$HostProcess;)V" } : MethodName) ∈ th_tb := tbg (tbl2 (List.mem_of_getElem? (i := 39) rfl)) rfl
theorem k_280 : Jvm.Cond.code ({ cls := "TurnHost$Machine", name := "reduce", desc := "(LTurnHost$HostProcess;)V" } : MethodName) prog_4_method_2_code (4 : Nat) (Option.none : Option Jvm.ClassFile.FieldType) ∈ th_tb := tbg (tbl2 (List.mem_of_getElem? (i := 40) rfl)) rfl
theorem k_281 : Jvm.Cond.methodLink "TurnHost$Machine" (34 : Nat) ({ cls := "TurnHost$Program", name := "reaches", desc := "(I)Z" } : MethodName) ∈ th_tb := tbg (tbl2 (List.mem_of_getElem? (i := 41) rfl)) rfl
theorem k_282 : Jvm.Cond.instanceMethod ({ cls := "TurnHost$Program", name := "reaches", desc := "(I)Z" } : MethodName) ∈ th_tb := tbg (tbl2 (List.mem_of_getElem? (i := 42) rfl)) rfl
theorem k_283 : Jvm.Cond.selects "TurnHost$Program" ({ cls := "TurnHost$Program", name := "reaches", desc := "(I)Z" } : MethodName) ({ cls := "TurnHost$Program", name := "reaches", desc := "(I)Z" } : MethodName) ∈ th_tb := tbg (tbl2 (List.mem_of_getElem? (i := 43) rfl)) rfl
theorem k_284 : Jvm.Cond.code ({ cls := "TurnHost$Program", name := "reaches", desc := "(I)Z" } : MethodName) prog_6_method_4_code (2 : Nat) (Option.some Jvm.ClassFile.FieldType.boolean) ∈ th_tb := tbg (tbl2 (List.mem_of_getElem? (i := 44) rfl)) rfl
theorem k_287 : Jvm.Cond.instanceMethod ({ cls := "TurnHost$Society", name := "end", desc := "(LTurnHost$HostProcess;LTurnHost$Term;)V" } : MethodName) ∈ th_tb := tbg (tbl2 (List.mem_of_getElem? (i := 47) rfl)) rfl
theorem k_288 : Jvm.Cond.code ({ cls := "TurnHost$Society", name := "end", desc := "(LTurnHost$HostProcess;LTurnHost$Term;)V" } : MethodName) prog_7_method_10_code (4 : Nat) (Option.none : Option Jvm.ClassFile.FieldType) ∈ th_tb := tbg (tbl2 (List.mem_of_getElem? (i := 48) rfl)) rfl
theorem k_289 : Jvm.Cond.methodLink "TurnHost$Society" (78 : Nat) ({ cls := "TurnHost$Line", name := "leave", desc := "(I)V" } : MethodName) ∈ th_tb := tbg (tbl2 (List.mem_of_getElem? (i := 49) rfl)) rfl
theorem k_290 : Jvm.Cond.instanceMethod ({ cls := "TurnHost$Line", name := "leave", desc := "(I)V" } : MethodName) ∈ th_tb := tbg (tbl2 (List.mem_of_getElem? (i := 50) rfl)) rfl
theorem k_291 : Jvm.Cond.selects "TurnHost$Line" ({ cls := "TurnHost$Line", name := "leave", desc := "(I)V" } : MethodName) ({ cls := "TurnHost$Line", name := "leave", desc := "(I)V" } : MethodName) ∈ th_tb := tbg (tbl2 (List.mem_of_getElem? (i := 51) rfl)) rfl
theorem k_292 : Jvm.Cond.code ({ cls := "TurnHost$Line", name := "leave", desc := "(I)V" } : MethodName) prog_3_method_5_code (4 : Nat) (Option.none : Option Jvm.ClassFile.FieldType) ∈ th_tb := tbg (tbl2 (List.mem_of_getElem? (i := 52) rfl)) rfl
theorem k_293 : Jvm.Cond.methodLink "TurnHost$Society" (87 : Nat) ({ cls := "TurnHost$Society", name := "untie", desc := "(LTurnHost$HostProcess;LTurnHost$HostProcess;)V" } : MethodName) ∈ th_tb := tbg (tbl2 (List.mem_of_getElem? (i := 53) rfl)) rfl
theorem k_295 : Jvm.Cond.instanceMethod ({ cls := "TurnHost$Society", name := "untie", desc := "(LTurnHost$HostProcess;LTurnHost$HostProcess;)V" } : MethodName) ∈ th_tb := tbg (tbl2 (List.mem_of_getElem? (i := 55) rfl)) rfl
theorem k_296 : Jvm.Cond.code ({ cls := "TurnHost$Society", name := "untie", desc := "(LTurnHost$HostProcess;LTurnHost$HostProcess;)V" } : MethodName) prog_7_method_9_code (3 : Nat) (Option.none : Option Jvm.ClassFile.FieldType) ∈ th_tb := tbg (tbl2 (List.mem_of_getElem? (i := 56) rfl)) rfl
theorem k_297 : Jvm.Cond.methodLink "TurnHost$Society" (91 : Nat) ({ cls := "TurnHost$Society", name := "signal", desc := "(LTurnHost$HostProcess;LTurnHost$HostProcess;LTurnHost$Term;)V" } : MethodName) ∈ th_tb := tbg (tbl2 (List.mem_of_getElem? (i := 57) rfl)) rfl
theorem k_299 : Jvm.Cond.instanceMethod ({ cls := "TurnHost$Society", name := "signal", desc := "(LTurnHost$HostProcess;LTurnHost$HostProcess;LTurnHost$Term;)V" } : MethodName) ∈ th_tb := tbg (tbl2 (List.mem_of_getElem? (i := 59) rfl)) rfl
theorem k_300 : Jvm.Cond.code ({ cls := "TurnHost$Society", name := "signal", desc := "(LTurnHost$HostProcess;LTurnHost$HostProcess;LTurnHost$Term;)V" } : MethodName) prog_7_method_11_code (4 : Nat) (Option.none : Option Jvm.ClassFile.FieldType) ∈ th_tb := tbg (tbl2 (List.mem_of_getElem? (i := 60) rfl)) rfl
theorem k_301 : Jvm.Cond.methodLink "TurnHost$Society" (99 : Nat) ({ cls := "TurnHost$Society", name := "exitNotice", desc := "(LTurnHost$HostProcess;LTurnHost$Term;)LTurnHost$Term;" } : MethodName) ∈ th_tb := tbg (tbl2 (List.mem_of_getElem? (i := 61) rfl)) rfl
theorem k_303 : Jvm.Cond.instanceMethod ({ cls := "TurnHost$Society", name := "exitNotice", desc := "(LTurnHost$HostProcess;LTurnHost$Term;)LTurnHost$Term;" } : MethodName) ∈ th_tb := tbg (tbl2 (List.mem_of_getElem? (i := 63) rfl)) rfl
theorem k_304 : Jvm.Cond.code ({ cls := "TurnHost$Society", name := "exitNotice", desc := "(LTurnHost$HostProcess;LTurnHost$Term;)LTurnHost$Term;" } : MethodName) prog_7_method_12_code (4 : Nat) (Option.some (Jvm.ClassFile.FieldType.object "TurnHost$Term")) ∈ th_tb := tbg (tbl2 (List.mem_of_getElem? (i := 64) rfl)) rfl
theorem k_305 : Jvm.Cond.methodLink "TurnHost$Society" (120 : Nat) ({ cls := "TurnHost$Term", name := "<init>", desc := "(ILTurnHost$Term;LTurnHost$Term;)V" } : MethodName) ∈ th_tb := tbg (tbl2 (List.mem_of_getElem? (i := 65) rfl)) rfl
theorem k_306 : Jvm.Cond.instanceMethod ({ cls := "TurnHost$Term", name := "<init>", desc := "(ILTurnHost$Term;LTurnHost$Term;)V" } : MethodName) ∈ th_tb := tbg (tbl2 (List.mem_of_getElem? (i := 66) rfl)) rfl
theorem k_307 : Jvm.Cond.code ({ cls := "TurnHost$Term", name := "<init>", desc := "(ILTurnHost$Term;LTurnHost$Term;)V" } : MethodName) prog_8_method_2_code (4 : Nat) (Option.none : Option Jvm.ClassFile.FieldType) ∈ th_tb := tbg (tbl2 (List.mem_of_getElem? (i := 67) rfl)) rfl
theorem k_308 : Jvm.Cond.methodLink "TurnHost$Society" (103 : Nat) ({ cls := "TurnHost$Society", name := "deliver", desc := "(LTurnHost$HostProcess;LTurnHost$Term;)V" } : MethodName) ∈ th_tb := tbg (tbl2 (List.mem_of_getElem? (i := 68) rfl)) rfl
theorem k_310 : Jvm.Cond.static ({ cls := "TurnHost$Term", name := "alike", desc := "(LTurnHost$Term;LTurnHost$Term;)Z" } : MethodName) ∈ th_tb := tbg (tbl2 (List.mem_of_getElem? (i := 70) rfl)) rfl
theorem k_311 : Jvm.Cond.code ({ cls := "TurnHost$Term", name := "alike", desc := "(LTurnHost$Term;LTurnHost$Term;)Z" } : MethodName) prog_8_method_7_code (2 : Nat) (Option.some Jvm.ClassFile.FieldType.boolean) ∈ th_tb := tbg (tbl2 (List.mem_of_getElem? (i := 71) rfl)) rfl
theorem k_312 : Jvm.Cond.methodLink "TurnHost$Term" (42 : Nat) ({ cls := "TurnHost$Term", name := "hasParts", desc := "()Z" } : MethodName) ∈ th_tb := tbg (tbl2 (List.mem_of_getElem? (i := 72) rfl)) rfl
theorem k_313 : Jvm.Cond.instanceMethod ({ cls := "TurnHost$Term", name := "hasParts", desc := "()Z" } : MethodName) ∈ th_tb := tbg (tbl2 (List.mem_of_getElem? (i := 73) rfl)) rfl
theorem k_314 : Jvm.Cond.selects "TurnHost$Term" ({ cls := "TurnHost$Term", name := "hasParts", desc := "()Z" } : MethodName) ({ cls := "TurnHost$Term", name := "hasParts", desc := "()Z" } : MethodName) ∈ th_tb := tbg (tbl2 (List.mem_of_getElem? (i := 74) rfl)) rfl
theorem k_315 : Jvm.Cond.code ({ cls := "TurnHost$Term", name := "hasParts", desc := "()Z" } : MethodName) prog_8_method_4_code (1 : Nat) (Option.some Jvm.ClassFile.FieldType.boolean) ∈ th_tb := tbg (tbl2 (List.mem_of_getElem? (i := 75) rfl)) rfl
theorem k_316 : Jvm.Cond.methodLink "TurnHost$Term" (45 : Nat) ({ cls := "TurnHost$Term", name := "alike", desc := "(LTurnHost$Term;LTurnHost$Term;)Z" } : MethodName) ∈ th_tb := tbg (tbl2 (List.mem_of_getElem? (i := 76) rfl)) rfl
theorem k_317 : Jvm.Cond.methodLink "TurnHost$Society" (111 : Nat) ({ cls := "TurnHost$Society", name := "end", desc := "(LTurnHost$HostProcess;LTurnHost$Term;)V" } : MethodName) ∈ th_tb := tbg (tbl2 (List.mem_of_getElem? (i := 77) rfl)) rfl
theorem k_318 : Jvm.Cond.methodLink "TurnHost$Machine" (50 : Nat) ({ cls := "TurnHost$Machine", name := "perform", desc := "(LTurnHost$HostProcess;IIII)Z" } : MethodName) ∈ th_tb := tbg (tbl2 (List.mem_of_getElem? (i := 78) rfl)) rfl
theorem k_320 : Jvm.Cond.instanceMethod ({ cls := "TurnHost$Machine", name := "perform", desc := "(LTurnHost$HostProcess;IIII)Z" } : MethodName) ∈ th_tb := tbg (tbl2 (List.mem_of_getElem? (i := 80) rfl)) rfl
theorem k_321 : Jvm.Cond.code ({ cls := "TurnHost$Machine", name := "perform", desc := "(LTurnHost$HostProcess;IIII)Z" } : MethodName) prog_4_method_3_code (7 : Nat) (Option.some Jvm.ClassFile.FieldType.boolean) ∈ th_tb := tbg (tbl2 (List.mem_of_getElem? (i := 81) rfl)) rfl
theorem k_322 : Jvm.Cond.classLink "TurnHost$Machine" (57 : Nat) "TurnHost$Term" ∈ th_tb := tbg (tbl2 (List.mem_of_getElem? (i := 82) rfl)) rfl
theorem k_323 : Jvm.Cond.methodLink "TurnHost$Machine" (59 : Nat) ({ cls := "TurnHost$Term", name := "<init>", desc := "(II)V" } : MethodName) ∈ th_tb := tbg (tbl2 (List.mem_of_getElem? (i := 83) rfl)) rfl
theorem k_324 : Jvm.Cond.methodLink "TurnHost$Machine" (62 : Nat) ({ cls := "TurnHost$HostProcess", name := "set", desc := "(ILTurnHost$Term;)Z" } : MethodName) ∈ th_tb := tbg (tbl2 (List.mem_of_getElem? (i := 84) rfl)) rfl
theorem k_325 : Jvm.Cond.instanceMethod ({ cls := "TurnHost$HostProcess", name := "set", desc := "(ILTurnHost$Term;)Z" } : MethodName) ∈ th_tb := tbg (tbl2 (List.mem_of_getElem? (i := 85) rfl)) rfl
theorem k_326 : Jvm.Cond.selects "TurnHost$HostProcess" ({ cls := "TurnHost$HostProcess", name := "set", desc := "(ILTurnHost$Term;)Z" } : MethodName) ({ cls := "TurnHost$HostProcess", name := "set", desc := "(ILTurnHost$Term;)Z" } : MethodName) ∈ th_tb := tbg (tbl2 (List.mem_of_getElem? (i := 86) rfl)) rfl
theorem k_327 : Jvm.Cond.code ({ cls := "TurnHost$HostProcess", name := "set", desc := "(ILTurnHost$Term;)Z" } : MethodName) prog_2_method_3_code (3 : Nat) (Option.some Jvm.ClassFile.FieldType.boolean) ∈ th_tb := tbg (tbl2 (List.mem_of_getElem? (i := 87) rfl)) rfl
theorem k_328 : Jvm.Cond.methodLink "TurnHost$Machine" (73 : Nat) ({ cls := "TurnHost$Term", name := "joined", desc := "(ILTurnHost$Term;LTurnHost$Term;)LTurnHost$Term;" } : MethodName) ∈ th_tb := tbg (tbl2 (List.mem_of_getElem? (i := 88) rfl)) rfl
theorem k_329 : Jvm.Cond.static ({ cls := "TurnHost$Term", name := "joined", desc := "(ILTurnHost$Term;LTurnHost$Term;)LTurnHost$Term;" } : MethodName) ∈ th_tb := tbg (tbl2 (List.mem_of_getElem? (i := 89) rfl)) rfl
theorem k_330 : Jvm.Cond.code ({ cls := "TurnHost$Term", name := "joined", desc := "(ILTurnHost$Term;LTurnHost$Term;)LTurnHost$Term;" } : MethodName) prog_8_method_3_code (3 : Nat) (Option.some (Jvm.ClassFile.FieldType.object "TurnHost$Term")) ∈ th_tb := tbg (tbl2 (List.mem_of_getElem? (i := 90) rfl)) rfl
theorem k_331 : Jvm.Cond.classLink "TurnHost$Term" (10 : Nat) "TurnHost$Term" ∈ th_tb := tbg (tbl2 (List.mem_of_getElem? (i := 91) rfl)) rfl
theorem k_332 : Jvm.Cond.methodLink "TurnHost$Term" (28 : Nat) ({ cls := "TurnHost$Term", name := "<init>", desc := "(ILTurnHost$Term;LTurnHost$Term;)V" } : MethodName) ∈ th_tb := tbg (tbl2 (List.mem_of_getElem? (i := 92) rfl)) rfl
theorem k_333 : Jvm.Cond.methodLink "TurnHost$Machine" (83 : Nat) ({ cls := "TurnHost$Machine", name := "areInts", desc := "(LTurnHost$Term;LTurnHost$Term;)Z" } : MethodName) ∈ th_tb := tbg (tbl2 (List.mem_of_getElem? (i := 93) rfl)) rfl
theorem k_334 : Jvm.Cond.static ({ cls := "TurnHost$Machine", name := "areInts", desc := "(LTurnHost$Term;LTurnHost$Term;)Z" } : MethodName) ∈ th_tb := tbg (tbl2 (List.mem_of_getElem? (i := 94) rfl)) rfl
theorem k_335 : Jvm.Cond.code ({ cls := "TurnHost$Machine", name := "areInts", desc := "(LTurnHost$Term;LTurnHost$Term;)Z" } : MethodName) prog_4_method_4_code (2 : Nat) (Option.some Jvm.ClassFile.FieldType.boolean) ∈ th_tb := tbg (tbl2 (List.mem_of_getElem? (i := 95) rfl)) rfl
theorem k_336 : Jvm.Cond.methodLink "TurnHost$Machine" (90 : Nat) ({ cls := "TurnHost$Machine", name := "goUnless", desc := "(LTurnHost$HostProcess;ZI)Z" } : MethodName) ∈ th_tb := tbg (tbl2 (List.mem_of_getElem? (i := 96) rfl)) rfl
theorem k_337 : Jvm.Cond.static ({ cls := "TurnHost$Machine", name := "goUnless", desc := "(LTurnHost$HostProcess;ZI)Z" } : MethodName) ∈ th_tb := tbg (tbl2 (List.mem_of_getElem? (i := 97) rfl)) rfl
theorem k_338 : Jvm.Cond.code ({ cls := "TurnHost$Machine", name := "goUnless", desc := "(LTurnHost$HostProcess;ZI)Z" } : MethodName) prog_4_method_5_code (3 : Nat) (Option.some Jvm.ClassFile.FieldType.boolean) ∈ th_tb := tbg (tbl2 (List.mem_of_getElem? (i := 98) rfl)) rfl
theorem k_339 : Jvm.Cond.methodLink "TurnHost$Machine" (100 : Nat) ({ cls := "TurnHost$HostProcess", name := "goTo", desc := "(I)Z" } : MethodName) ∈ th_tb := tbg (tbl2 (List.mem_of_getElem? (i := 99) rfl)) rfl
theorem k_340 : Jvm.Cond.instanceMethod ({ cls := "TurnHost$HostProcess", name := "goTo", desc := "(I)Z" } : MethodName) ∈ th_tb := tbg (tbl2 (List.mem_of_getElem? (i := 100) rfl)) rfl
theorem k_341 : Jvm.Cond.selects "TurnHost$HostProcess" ({ cls := "TurnHost$HostProcess", name := "goTo", desc := "(I)Z" } : MethodName) ({ cls := "TurnHost$HostProcess", name := "goTo", desc := "(I)Z" } : MethodName) ∈ th_tb := tbg (tbl2 (List.mem_of_getElem? (i := 101) rfl)) rfl
theorem k_342 : Jvm.Cond.code ({ cls := "TurnHost$HostProcess", name := "goTo", desc := "(I)Z" } : MethodName) prog_2_method_4_code (2 : Nat) (Option.some Jvm.ClassFile.FieldType.boolean) ∈ th_tb := tbg (tbl2 (List.mem_of_getElem? (i := 102) rfl)) rfl
theorem k_344 : Jvm.Cond.methodLink "TurnHost$Machine" (103 : Nat) ({ cls := "TurnHost$HostProcess", name := "pushReturn", desc := "()Z" } : MethodName) ∈ th_tb := tbg (tbl2 (List.mem_of_getElem? (i := 104) rfl)) rfl
theorem k_345 : Jvm.Cond.instanceMethod ({ cls := "TurnHost$HostProcess", name := "pushReturn", desc := "()Z" } : MethodName) ∈ th_tb := tbg (tbl2 (List.mem_of_getElem? (i := 105) rfl)) rfl
theorem k_346 : Jvm.Cond.selects "TurnHost$HostProcess" ({ cls := "TurnHost$HostProcess", name := "pushReturn", desc := "()Z" } : MethodName) ({ cls := "TurnHost$HostProcess", name := "pushReturn", desc := "()Z" } : MethodName) ∈ th_tb := tbg (tbl2 (List.mem_of_getElem? (i := 106) rfl)) rfl
theorem k_347 : Jvm.Cond.code ({ cls := "TurnHost$HostProcess", name := "pushReturn", desc := "()Z" } : MethodName) prog_2_method_5_code (1 : Nat) (Option.some Jvm.ClassFile.FieldType.boolean) ∈ th_tb := tbg (tbl2 (List.mem_of_getElem? (i := 107) rfl)) rfl
theorem k_348 : Jvm.Cond.methodLink "TurnHost$Machine" (107 : Nat) ({ cls := "TurnHost$Machine", name := "goBack", desc := "(LTurnHost$HostProcess;)Z" } : MethodName) ∈ th_tb := tbg (tbl2 (List.mem_of_getElem? (i := 108) rfl)) rfl
theorem k_350 : Jvm.Cond.instanceMethod ({ cls := "TurnHost$Machine", name := "goBack", desc := "(LTurnHost$HostProcess;)Z" } : MethodName) ∈ th_tb := tbg (tbl2 (List.mem_of_getElem? (i := 110) rfl)) rfl
theorem k_351 : Jvm.Cond.code ({ cls := "TurnHost$Machine", name := "goBack", desc := "(LTurnHost$HostProcess;)Z" } : MethodName) prog_4_method_6_code (2 : Nat) (Option.some Jvm.ClassFile.FieldType.boolean) ∈ th_tb := tbg (tbl2 (List.mem_of_getElem? (i := 111) rfl)) rfl
theorem k_352 : Jvm.Cond.methodLink "TurnHost$Machine" (111 : Nat) ({ cls := "TurnHost$Society", name := "bearing", desc := "(LTurnHost$Term;)LTurnHost$HostProcess;" } : MethodName) ∈ th_tb := tbg (tbl2 (List.mem_of_getElem? (i := 112) rfl)) rfl
theorem k_353 : Jvm.Cond.instanceMethod ({ cls := "TurnHost$Society", name := "bearing", desc := "(LTurnHost$Term;)LTurnHost$HostProcess;" } : MethodName) ∈ th_tb := tbg (tbl2 (List.mem_of_getElem? (i := 113) rfl)) rfl
theorem k_354 : Jvm.Cond.selects "TurnHost$Society" ({ cls := "TurnHost$Society", name := "bearing", desc := "(LTurnHost$Term;)LTurnHost$HostProcess;" } : MethodName) ({ cls := "TurnHost$Society", name := "bearing", desc := "(LTurnHost$Term;)LTurnHost$HostProcess;" } : MethodName) ∈ th_tb := tbg (tbl2 (List.mem_of_getElem? (i := 114) rfl)) rfl
theorem k_355 : Jvm.Cond.code ({ cls := "TurnHost$Society", name := "bearing", desc := "(LTurnHost$Term;)LTurnHost$HostProcess;" } : MethodName) prog_7_method_4_code (2 : Nat) (Option.some (Jvm.ClassFile.FieldType.object "TurnHost$HostProcess")) ∈ th_tb := tbg (tbl2 (List.mem_of_getElem? (i := 115) rfl)) rfl
theorem k_356 : Jvm.Cond.methodLink "TurnHost$Society" (53 : Nat) ({ cls := "TurnHost$Society", name := "numbered", desc := "(I)LTurnHost$HostProcess;" } : MethodName) ∈ th_tb := tbg (tbl2 (List.mem_of_getElem? (i := 116) rfl)) rfl
theorem k_357 : Jvm.Cond.methodLink "TurnHost$Machine" (115 : Nat) ({ cls := "TurnHost$Machine", name := "send", desc := "(LTurnHost$HostProcess;LTurnHost$Term;)Z" } : MethodName) ∈ th_tb := tbg (tbl2 (List.mem_of_getElem? (i := 117) rfl)) rfl
theorem k_359 : Jvm.Cond.instanceMethod ({ cls := "TurnHost$Machine", name := "send", desc := "(LTurnHost$HostProcess;LTurnHost$Term;)Z" } : MethodName) ∈ th_tb := tbg (tbl2 (List.mem_of_getElem? (i := 119) rfl)) rfl
theorem k_360 : Jvm.Cond.code ({ cls := "TurnHost$Machine", name := "send", desc := "(LTurnHost$HostProcess;LTurnHost$Term;)Z" } : MethodName) prog_4_method_7_code (3 : Nat) (Option.some Jvm.ClassFile.FieldType.boolean) ∈ th_tb := tbg (tbl2 (List.mem_of_getElem? (i := 120) rfl)) rfl
theorem k_361 : Jvm.Cond.methodLink "TurnHost$Machine" (163 : Nat) ({ cls := "TurnHost$Society", name := "deliver", desc := "(LTurnHost$HostProcess;LTurnHost$Term;)V" } : MethodName) ∈ th_tb := tbg (tbl2 (List.mem_of_getElem? (i := 121) rfl)) rfl
theorem k_362 : Jvm.Cond.methodLink "TurnHost$Machine" (123 : Nat) ({ cls := "TurnHost$Mailbox", name := "marked", desc := "()LTurnHost$Term;" } : MethodName) ∈ th_tb := tbg (tbl2 (List.mem_of_getElem? (i := 122) rfl)) rfl
theorem k_363 : Jvm.Cond.instanceMethod ({ cls := "TurnHost$Mailbox", name := "marked", desc := "()LTurnHost$Term;" } : MethodName) ∈ th_tb := tbg (tbl2 (List.mem_of_getElem? (i := 123) rfl)) rfl
theorem k_364 : Jvm.Cond.selects "TurnHost$Mailbox" ({ cls := "TurnHost$Mailbox", name := "marked", desc := "()LTurnHost$Term;" } : MethodName) ({ cls := "TurnHost$Mailbox", name := "marked", desc := "()LTurnHost$Term;" } : MethodName) ∈ th_tb := tbg (tbl2 (List.mem_of_getElem? (i := 124) rfl)) rfl
theorem k_365 : Jvm.Cond.code ({ cls := "TurnHost$Mailbox", name := "marked", desc := "()LTurnHost$Term;" } : MethodName) prog_5_method_4_code (1 : Nat) (Option.some (Jvm.ClassFile.FieldType.object "TurnHost$Term")) ∈ th_tb := tbg (tbl2 (List.mem_of_getElem? (i := 125) rfl)) rfl
theorem k_366 : Jvm.Cond.methodLink "TurnHost$Mailbox" (24 : Nat) ({ cls := "TurnHost$Mailbox", name := "at", desc := "(I)LTurnHost$Term;" } : MethodName) ∈ th_tb := tbg (tbl2 (List.mem_of_getElem? (i := 126) rfl)) rfl
theorem k_367 : Jvm.Cond.instanceMethod ({ cls := "TurnHost$Mailbox", name := "at", desc := "(I)LTurnHost$Term;" } : MethodName) ∈ th_tb := tbg (tbl2 (List.mem_of_getElem? (i := 127) rfl)) rfl
theorem k_368 : Jvm.Cond.selects "TurnHost$Mailbox" ({ cls := "TurnHost$Mailbox", name := "at", desc := "(I)LTurnHost$Term;" } : MethodName) ({ cls := "TurnHost$Mailbox", name := "at", desc := "(I)LTurnHost$Term;" } : MethodName) ∈ th_tb := tbg (tbl2 (List.mem_of_getElem? (i := 128) rfl)) rfl
theorem k_369 : Jvm.Cond.code ({ cls := "TurnHost$Mailbox", name := "at", desc := "(I)LTurnHost$Term;" } : MethodName) prog_5_method_3_code (2 : Nat) (Option.some (Jvm.ClassFile.FieldType.object "TurnHost$Term")) ∈ th_tb := tbg (tbl2 (List.mem_of_getElem? (i := 129) rfl)) rfl
theorem k_370 : Jvm.Cond.methodLink "TurnHost$Machine" (129 : Nat) ({ cls := "TurnHost$Mailbox", name := "take", desc := "()Z" } : MethodName) ∈ th_tb := tbg (tbl2 (List.mem_of_getElem? (i := 130) rfl)) rfl
theorem k_371 : Jvm.Cond.instanceMethod ({ cls := "TurnHost$Mailbox", name := "take", desc := "()Z" } : MethodName) ∈ th_tb := tbg (tbl2 (List.mem_of_getElem? (i := 131) rfl)) rfl
theorem k_372 : Jvm.Cond.selects "TurnHost$Mailbox" ({ cls := "TurnHost$Mailbox", name := "take", desc := "()Z" } : MethodName) ({ cls := "TurnHost$Mailbox", name := "take", desc := "()Z" } : MethodName) ∈ th_tb := tbg (tbl2 (List.mem_of_getElem? (i := 132) rfl)) rfl
theorem k_373 : Jvm.Cond.code ({ cls := "TurnHost$Mailbox", name := "take", desc := "()Z" } : MethodName) prog_5_method_6_code (2 : Nat) (Option.some Jvm.ClassFile.FieldType.boolean) ∈ th_tb := tbg (tbl2 (List.mem_of_getElem? (i := 133) rfl)) rfl
theorem k_374 : Jvm.Cond.methodLink "TurnHost$Mailbox" (28 : Nat) ({ cls := "TurnHost$Mailbox", name := "marked", desc := "()LTurnHost$Term;" } : MethodName) ∈ th_tb := tbg (tbl2 (List.mem_of_getElem? (i := 134) rfl)) rfl
theorem k_375 : Jvm.Cond.methodLink "TurnHost$Machine" (132 : Nat) ({ cls := "TurnHost$Machine", name := "passOver", desc := "(LTurnHost$HostProcess;I)Z" } : MethodName) ∈ th_tb := tbg (tbl2 (List.mem_of_getElem? (i := 135) rfl)) rfl
theorem k_376 : Jvm.Cond.static ({ cls := "TurnHost$Machine", name := "passOver", desc := "(LTurnHost$HostProcess;I)Z" } : MethodName) ∈ th_tb := tbg (tbl2 (List.mem_of_getElem? (i := 136) rfl)) rfl
theorem k_377 : Jvm.Cond.code ({ cls := "TurnHost$Machine", name := "passOver", desc := "(LTurnHost$HostProcess;I)Z" } : MethodName) prog_4_method_8_code (2 : Nat) (Option.some Jvm.ClassFile.FieldType.boolean) ∈ th_tb := tbg (tbl2 (List.mem_of_getElem? (i := 137) rfl)) rfl
theorem k_378 : Jvm.Cond.methodLink "TurnHost$Machine" (136 : Nat) ({ cls := "TurnHost$Machine", name := "waitOrGoOn", desc := "(LTurnHost$HostProcess;I)Z" } : MethodName) ∈ th_tb := tbg (tbl2 (List.mem_of_getElem? (i := 138) rfl)) rfl
theorem k_380 : Jvm.Cond.instanceMethod ({ cls := "TurnHost$Machine", name := "waitOrGoOn", desc := "(LTurnHost$HostProcess;I)Z" } : MethodName) ∈ th_tb := tbg (tbl2 (List.mem_of_getElem? (i := 140) rfl)) rfl
theorem k_381 : Jvm.Cond.code ({ cls := "TurnHost$Machine", name := "waitOrGoOn", desc := "(LTurnHost$HostProcess;I)Z" } : MethodName) prog_4_method_9_code (3 : Nat) (Option.some Jvm.ClassFile.FieldType.boolean) ∈ th_tb := tbg (tbl2 (List.mem_of_getElem? (i := 141) rfl)) rfl
theorem k_382 : Jvm.Cond.methodLink "TurnHost$Machine" (169 : Nat) ({ cls := "TurnHost$Society", name := "suspend", desc := "(LTurnHost$HostProcess;)V" } : MethodName) ∈ th_tb := tbg (tbl2 (List.mem_of_getElem? (i := 142) rfl)) rfl
theorem k_383 : Jvm.Cond.instanceMethod ({ cls := "TurnHost$Society", name := "suspend", desc := "(LTurnHost$HostProcess;)V" } : MethodName) ∈ th_tb := tbg (tbl2 (List.mem_of_getElem? (i := 143) rfl)) rfl
theorem k_384 : Jvm.Cond.selects "TurnHost$Society" ({ cls := "TurnHost$Society", name := "suspend", desc := "(LTurnHost$HostProcess;)V" } : MethodName) ({ cls := "TurnHost$Society", name := "suspend", desc := "(LTurnHost$HostProcess;)V" } : MethodName) ∈ th_tb := tbg (tbl2 (List.mem_of_getElem? (i := 144) rfl)) rfl
theorem k_385 : Jvm.Cond.code ({ cls := "TurnHost$Society", name := "suspend", desc := "(LTurnHost$HostProcess;)V" } : MethodName) prog_7_method_7_code (2 : Nat) (Option.none : Option Jvm.ClassFile.FieldType) ∈ th_tb := tbg (tbl2 (List.mem_of_getElem? (i := 145) rfl)) rfl
theorem k_386 : Jvm.Cond.methodLink "TurnHost$Machine" (139 : Nat) ({ cls := "TurnHost$Machine", name := "spawn", desc := "(LTurnHost$HostProcess;IILTurnHost$Term;)Z" } : MethodName) ∈ th_tb := tbg (tbl2 (List.mem_of_getElem? (i := 146) rfl)) rfl
theorem k_388 : Jvm.Cond.instanceMethod ({ cls := "TurnHost$Machine", name := "spawn", desc := "(LTurnHost$HostProcess;IILTurnHost$Term;)Z" } : MethodName) ∈ th_tb := tbg (tbl2 (List.mem_of_getElem? (i := 148) rfl)) rfl
theorem k_389 : Jvm.Cond.code ({ cls := "TurnHost$Machine", name := "spawn", desc := "(LTurnHost$HostProcess;IILTurnHost$Term;)Z" } : MethodName) prog_4_method_10_code (6 : Nat) (Option.some Jvm.ClassFile.FieldType.boolean) ∈ th_tb := tbg (tbl2 (List.mem_of_getElem? (i := 149) rfl)) rfl
theorem k_390 : Jvm.Cond.methodLink "TurnHost$Machine" (173 : Nat) ({ cls := "TurnHost$Society", name := "start", desc := "(ILTurnHost$Term;)LTurnHost$HostProcess;" } : MethodName) ∈ th_tb := tbg (tbl2 (List.mem_of_getElem? (i := 150) rfl)) rfl
theorem k_391 : Jvm.Cond.methodLink "TurnHost$Machine" (143 : Nat) ({ cls := "TurnHost$Machine", name := "link", desc := "(LTurnHost$HostProcess;LTurnHost$HostProcess;)Z" } : MethodName) ∈ th_tb := tbg (tbl2 (List.mem_of_getElem? (i := 151) rfl)) rfl
theorem k_393 : Jvm.Cond.instanceMethod ({ cls := "TurnHost$Machine", name := "link", desc := "(LTurnHost$HostProcess;LTurnHost$HostProcess;)Z" } : MethodName) ∈ th_tb := tbg (tbl2 (List.mem_of_getElem? (i := 153) rfl)) rfl
theorem k_394 : Jvm.Cond.code ({ cls := "TurnHost$Machine", name := "link", desc := "(LTurnHost$HostProcess;LTurnHost$HostProcess;)Z" } : MethodName) prog_4_method_11_code (3 : Nat) (Option.some Jvm.ClassFile.FieldType.boolean) ∈ th_tb := tbg (tbl2 (List.mem_of_getElem? (i := 154) rfl)) rfl
theorem k_396 : Jvm.Cond.methodLink "TurnHost$Machine" (184 : Nat) ({ cls := "TurnHost$Society", name := "tie", desc := "(LTurnHost$HostProcess;LTurnHost$HostProcess;)V" } : MethodName) ∈ th_tb := tbg (tbl2 (List.mem_of_getElem? (i := 156) rfl)) rfl
theorem k_397 : Jvm.Cond.instanceMethod ({ cls := "TurnHost$Society", name := "tie", desc := "(LTurnHost$HostProcess;LTurnHost$HostProcess;)V" } : MethodName) ∈ th_tb := tbg (tbl2 (List.mem_of_getElem? (i := 157) rfl)) rfl
theorem k_398 : Jvm.Cond.selects "TurnHost$Society" ({ cls := "TurnHost$Society", name := "tie", desc := "(LTurnHost$HostProcess;LTurnHost$HostProcess;)V" } : MethodName) ({ cls := "TurnHost$Society", name := "tie", desc := "(LTurnHost$HostProcess;LTurnHost$HostProcess;)V" } : MethodName) ∈ th_tb := tbg (tbl2 (List.mem_of_getElem? (i := 158) rfl)) rfl
theorem k_399 : Jvm.Cond.code ({ cls := "TurnHost$Society", name := "tie", desc := "(LTurnHost$HostProcess;LTurnHost$HostProcess;)V" } : MethodName) prog_7_method_8_code (3 : Nat) (Option.none : Option Jvm.ClassFile.FieldType) ∈ th_tb := tbg (tbl2 (List.mem_of_getElem? (i := 159) rfl)) rfl
theorem k_400 : Jvm.Cond.methodLink "TurnHost$Machine" (147 : Nat) ({ cls := "TurnHost$Machine", name := "trap", desc := "(LTurnHost$HostProcess;Z)Z" } : MethodName) ∈ th_tb := tbg (tbl2 (List.mem_of_getElem? (i := 160) rfl)) rfl
theorem k_401 : Jvm.Cond.static ({ cls := "TurnHost$Machine", name := "trap", desc := "(LTurnHost$HostProcess;Z)Z" } : MethodName) ∈ th_tb := tbg (tbl2 (List.mem_of_getElem? (i := 161) rfl)) rfl
theorem k_402 : Jvm.Cond.code ({ cls := "TurnHost$Machine", name := "trap", desc := "(LTurnHost$HostProcess;Z)Z" } : MethodName) prog_4_method_12_code (2 : Nat) (Option.some Jvm.ClassFile.FieldType.boolean) ∈ th_tb := tbg (tbl2 (List.mem_of_getElem? (i := 162) rfl)) rfl
theorem k_403 : Jvm.Cond.methodLink "TurnHost$Machine" (151 : Nat) ({ cls := "TurnHost$Machine", name := "finish", desc := "(LTurnHost$HostProcess;LTurnHost$Term;)Z" } : MethodName) ∈ th_tb := tbg (tbl2 (List.mem_of_getElem? (i := 163) rfl)) rfl
theorem k_405 : Jvm.Cond.instanceMethod ({ cls := "TurnHost$Machine", name := "finish", desc := "(LTurnHost$HostProcess;LTurnHost$Term;)Z" } : MethodName) ∈ th_tb := tbg (tbl2 (List.mem_of_getElem? (i := 165) rfl)) rfl
theorem k_406 : Jvm.Cond.code ({ cls := "TurnHost$Machine", name := "finish", desc := "(LTurnHost$HostProcess;LTurnHost$Term;)Z" } : MethodName) prog_4_method_13_code (3 : Nat) (Option.some Jvm.ClassFile.FieldType.boolean) ∈ th_tb := tbg (tbl2 (List.mem_of_getElem? (i := 166) rfl)) rfl
theorem k_407 : Jvm.Cond.methodLink "TurnHost$Machine" (154 : Nat) ({ cls := "TurnHost$Machine", name := "stop", desc := "(LTurnHost$HostProcess;LTurnHost$HostProcess;)Z" } : MethodName) ∈ th_tb := tbg (tbl2 (List.mem_of_getElem? (i := 167) rfl)) rfl
theorem k_409 : Jvm.Cond.instanceMethod ({ cls := "TurnHost$Machine", name := "stop", desc := "(LTurnHost$HostProcess;LTurnHost$HostProcess;)Z" } : MethodName) ∈ th_tb := tbg (tbl2 (List.mem_of_getElem? (i := 169) rfl)) rfl
theorem k_410 : Jvm.Cond.code ({ cls := "TurnHost$Machine", name := "stop", desc := "(LTurnHost$HostProcess;LTurnHost$HostProcess;)Z" } : MethodName) prog_4_method_14_code (3 : Nat) (Option.some Jvm.ClassFile.FieldType.boolean) ∈ th_tb := tbg (tbl2 (List.mem_of_getElem? (i := 170) rfl)) rfl
theorem k_411 : Jvm.Cond.methodLink "TurnHost" (80 : Nat) ({ cls := "TurnHost", name := "countInTurn", desc := "(LTurnHost$HostProcess;)V" } : MethodName) ∈ th_tb := tbg (tbl2 (List.mem_of_getElem? (i := 171) rfl)) rfl
theorem k_413 : Jvm.Cond.instanceMethod ({ cls := "TurnHost", name := "countInTurn", desc := "(LTurnHost$HostProcess;)V" } : MethodName) ∈ th_tb := tbg (tbl2 (List.mem_of_getElem? (i := 173) rfl)) rfl
theorem k_414 : Jvm.Cond.code ({ cls := "TurnHost", name := "countInTurn", desc := "(LTurnHost$HostProcess;)V" } : MethodName) prog_1_method_13_code (2 : Nat) (Option.none : Option Jvm.ClassFile.FieldType) ∈ th_tb := tbg (tbl2 (List.mem_of_getElem? (i := 174) rfl)) rfl
theorem k_415 : Jvm.Cond.methodLink "TurnHost" (111 : Nat) ({ cls := "TurnHost$Line", name := "leave", desc := "(I)V" } : MethodName) ∈ th_tb := tbg (tbl2 (List.mem_of_getElem? (i := 175) rfl)) rfl
theorem k_416 : Jvm.Cond.methodLink "TurnHost" (115 : Nat) ({ cls := "TurnHost$Line", name := "append", desc := "(I)V" } : MethodName) ∈ th_tb := tbg (tbl2 (List.mem_of_getElem? (i := 176) rfl)) rfl
theorem k_417 : Jvm.Cond.methodLink "TurnHostLaw" (41 : Nat) ({ cls := "TurnHost", name := "clear", desc := "(Z)I" } : MethodName) ∈ th_tb := tbg (tbl2 (List.mem_of_getElem? (i := 177) rfl)) rfl
theorem k_418 : Jvm.Cond.instanceMethod ({ cls := "TurnHost", name := "clear", desc := "(Z)I" } : MethodName) ∈ th_tb := tbg (tbl2 (List.mem_of_getElem? (i := 178) rfl)) rfl
theorem k_419 : Jvm.Cond.selects "TurnHost" ({ cls := "TurnHost", name := "clear", desc := "(Z)I" } : MethodName) ({ cls := "TurnHost", name := "clear", desc := "(Z)I" } : MethodName) ∈ th_tb := tbg (tbl2 (List.mem_of_getElem? (i := 179) rfl)) rfl
theorem k_420 : Jvm.Cond.code ({ cls := "TurnHost", name := "clear", desc := "(Z)I" } : MethodName) prog_1_method_6_code (3 : Nat) (Option.some Jvm.ClassFile.FieldType.int) ∈ th_tb := tbg (tbl2 (List.mem_of_getElem? (i := 180) rfl)) rfl
theorem k_421 : Jvm.Cond.methodLink "TurnHost" (86 : Nat) ({ cls := "TurnHost$Society", name := "dissolve", desc := "()V" } : MethodName) ∈ th_tb := tbg (tbl2 (List.mem_of_getElem? (i := 181) rfl)) rfl
theorem k_422 : Jvm.Cond.instanceMethod ({ cls := "TurnHost$Society", name := "dissolve", desc := "()V" } : MethodName) ∈ th_tb := tbg (tbl2 (List.mem_of_getElem? (i := 182) rfl)) rfl
theorem k_423 : Jvm.Cond.selects "TurnHost$Society" ({ cls := "TurnHost$Society", name := "dissolve", desc := "()V" } : MethodName) ({ cls := "TurnHost$Society", name := "dissolve", desc := "()V" } : MethodName) ∈ th_tb := tbg (tbl2 (List.mem_of_getElem? (i := 183) rfl)) rfl
theorem k_424 : Jvm.Cond.code ({ cls := "TurnHost$Society", name := "dissolve", desc := "()V" } : MethodName) prog_7_method_2_code (1 : Nat) (Option.none : Option Jvm.ClassFile.FieldType) ∈ th_tb := tbg (tbl2 (List.mem_of_getElem? (i := 184) rfl)) rfl
theorem k_425 : Jvm.Cond.methodLink "TurnHost$Society" (44 : Nat) ({ cls := "TurnHost$Line", name := "empty", desc := "()V" } : MethodName) ∈ th_tb := tbg (tbl2 (List.mem_of_getElem? (i := 185) rfl)) rfl
theorem k_426 : Jvm.Cond.instanceMethod ({ cls := "TurnHost$Line", name := "empty", desc := "()V" } : MethodName) ∈ th_tb := tbg (tbl2 (List.mem_of_getElem? (i := 186) rfl)) rfl
theorem k_427 : Jvm.Cond.selects "TurnHost$Line" ({ cls := "TurnHost$Line", name := "empty", desc := "()V" } : MethodName) ({ cls := "TurnHost$Line", name := "empty", desc := "()V" } : MethodName) ∈ th_tb := tbg (tbl2 (List.mem_of_getElem? (i := 187) rfl)) rfl
theorem k_428 : Jvm.Cond.code ({ cls := "TurnHost$Line", name := "empty", desc := "()V" } : MethodName) prog_3_method_2_code (1 : Nat) (Option.none : Option Jvm.ClassFile.FieldType) ∈ th_tb := tbg (tbl2 (List.mem_of_getElem? (i := 188) rfl)) rfl
theorem k_429 : Jvm.Cond.methodLink "TurnHost" (89 : Nat) ({ cls := "TurnHost$Program", name := "wipe", desc := "()V" } : MethodName) ∈ th_tb := tbg (tbl2 (List.mem_of_getElem? (i := 189) rfl)) rfl
theorem k_430 : Jvm.Cond.instanceMethod ({ cls := "TurnHost$Program", name := "wipe", desc := "()V" } : MethodName) ∈ th_tb := tbg (tbl2 (List.mem_of_getElem? (i := 190) rfl)) rfl
theorem k_431 : Jvm.Cond.selects "TurnHost$Program" ({ cls := "TurnHost$Program", name := "wipe", desc := "()V" } : MethodName) ({ cls := "TurnHost$Program", name := "wipe", desc := "()V" } : MethodName) ∈ th_tb := tbg (tbl2 (List.mem_of_getElem? (i := 191) rfl)) rfl
theorem k_432 : Jvm.Cond.code ({ cls := "TurnHost$Program", name := "wipe", desc := "()V" } : MethodName) prog_6_method_5_code (1 : Nat) (Option.none : Option Jvm.ClassFile.FieldType) ∈ th_tb := tbg (tbl2 (List.mem_of_getElem? (i := 192) rfl)) rfl
theorem k_433 : Jvm.Cond.methodLink "TurnHostLaw" (46 : Nat) ({ cls := "TurnHost", name := "process", desc := "(II)I" } : MethodName) ∈ th_tb := tbg (tbl2 (List.mem_of_getElem? (i := 193) rfl)) rfl
theorem k_434 : Jvm.Cond.instanceMethod ({ cls := "TurnHost", name := "process", desc := "(II)I" } : MethodName) ∈ th_tb := tbg (tbl2 (List.mem_of_getElem? (i := 194) rfl)) rfl
theorem k_435 : Jvm.Cond.selects "TurnHost" ({ cls := "TurnHost", name := "process", desc := "(II)I" } : MethodName) ({ cls := "TurnHost", name := "process", desc := "(II)I" } : MethodName) ∈ th_tb := tbg (tbl2 (List.mem_of_getElem? (i := 195) rfl)) rfl
theorem k_436 : Jvm.Cond.code ({ cls := "TurnHost", name := "process", desc := "(II)I" } : MethodName) prog_1_method_7_code (4 : Nat) (Option.some Jvm.ClassFile.FieldType.int) ∈ th_tb := tbg (tbl2 (List.mem_of_getElem? (i := 196) rfl)) rfl
theorem k_437 : Jvm.Cond.methodLink "TurnHost" (92 : Nat) ({ cls := "TurnHost$HostProcess", name := "answer", desc := "(I)I" } : MethodName) ∈ th_tb := tbg (tbl2 (List.mem_of_getElem? (i := 197) rfl)) rfl
theorem k_438 : Jvm.Cond.instanceMethod ({ cls := "TurnHost$HostProcess", name := "answer", desc := "(I)I" } : MethodName) ∈ th_tb := tbg (tbl2 (List.mem_of_getElem? (i := 198) rfl)) rfl
theorem k_439 : Jvm.Cond.selects "TurnHost$HostProcess" ({ cls := "TurnHost$HostProcess", name := "answer", desc := "(I)I" } : MethodName) ({ cls := "TurnHost$HostProcess", name := "answer", desc := "(I)I" } : MethodName) ∈ th_tb := tbg (tbl2 (List.mem_of_getElem? (i := 199) rfl)) rfl
theorem k_440 : Jvm.Cond.code ({ cls := "TurnHost$HostProcess", name := "answer", desc := "(I)I" } : MethodName) prog_2_method_6_code (2 : Nat) (Option.some Jvm.ClassFile.FieldType.int) ∈ th_tb := tbg (tbl2 (List.mem_of_getElem? (i := 200) rfl)) rfl
theorem k_441 : Jvm.Cond.methodLink "TurnHostLaw" (50 : Nat) ({ cls := "TurnHost", name := "queue", desc := "(I)I" } : MethodName) ∈ th_tb := tbg (tbl2 (List.mem_of_getElem? (i := 201) rfl)) rfl
theorem k_442 : Jvm.Cond.instanceMethod ({ cls := "TurnHost", name := "queue", desc := "(I)I" } : MethodName) ∈ th_tb := tbg (tbl2 (List.mem_of_getElem? (i := 202) rfl)) rfl
theorem k_443 : Jvm.Cond.selects "TurnHost" ({ cls := "TurnHost", name := "queue", desc := "(I)I" } : MethodName) ({ cls := "TurnHost", name := "queue", desc := "(I)I" } : MethodName) ∈ th_tb := tbg (tbl2 (List.mem_of_getElem? (i := 203) rfl)) rfl
theorem k_444 : Jvm.Cond.code ({ cls := "TurnHost", name := "queue", desc := "(I)I" } : MethodName) prog_1_method_8_code (2 : Nat) (Option.some Jvm.ClassFile.FieldType.int) ∈ th_tb := tbg (tbl2 (List.mem_of_getElem? (i := 204) rfl)) rfl
theorem k_445 : Jvm.Cond.methodLink "TurnHostLaw" (54 : Nat) ({ cls := "TurnHost", name := "processes", desc := "()I" } : MethodName) ∈ th_tb := tbg (tbl2 (List.mem_of_getElem? (i := 205) rfl)) rfl
theorem k_446 : Jvm.Cond.instanceMethod ({ cls := "TurnHost", name := "processes", desc := "()I" } : MethodName) ∈ th_tb := tbg (tbl2 (List.mem_of_getElem? (i := 206) rfl)) rfl
theorem k_447 : Jvm.Cond.selects "TurnHost" ({ cls := "TurnHost", name := "processes", desc := "()I" } : MethodName) ({ cls := "TurnHost", name := "processes", desc := "()I" } : MethodName) ∈ th_tb := tbg (tbl2 (List.mem_of_getElem? (i := 207) rfl)) rfl
theorem k_448 : Jvm.Cond.code ({ cls := "TurnHost", name := "processes", desc := "()I" } : MethodName) prog_1_method_9_code (1 : Nat) (Option.some Jvm.ClassFile.FieldType.int) ∈ th_tb := tbg (tbl2 (List.mem_of_getElem? (i := 208) rfl)) rfl
theorem k_449 : Jvm.Cond.methodLink "TurnHostLaw" (59 : Nat) ({ cls := "TurnHost", name := "term", desc := "(II)I" } : MethodName) ∈ th_tb := tbg (tbl2 (List.mem_of_getElem? (i := 209) rfl)) rfl
theorem k_450 : Jvm.Cond.instanceMethod ({ cls := "TurnHost", name := "term", desc := "(II)I" } : MethodName) ∈ th_tb := tbg (tbl2 (List.mem_of_getElem? (i := 210) rfl)) rfl
theorem k_451 : Jvm.Cond.selects "TurnHost" ({ cls := "TurnHost", name := "term", desc := "(II)I" } : MethodName) ({ cls := "TurnHost", name := "term", desc := "(II)I" } : MethodName) ∈ th_tb := tbg (tbl2 (List.mem_of_getElem? (i := 211) rfl)) rfl
theorem k_452 : Jvm.Cond.code ({ cls := "TurnHost", name := "term", desc := "(II)I" } : MethodName) prog_1_method_10_code (4 : Nat) (Option.some Jvm.ClassFile.FieldType.int) ∈ th_tb := tbg (tbl2 (List.mem_of_getElem? (i := 212) rfl)) rfl
theorem k_453 : Jvm.Cond.methodLink "TurnHost" (95 : Nat) ({ cls := "TurnHost", name := "termOf", desc := "(II)LTurnHost$Term;" } : MethodName) ∈ th_tb := tbg (tbl2 (List.mem_of_getElem? (i := 213) rfl)) rfl
theorem k_455 : Jvm.Cond.instanceMethod ({ cls := "TurnHost", name := "termOf", desc := "(II)LTurnHost$Term;" } : MethodName) ∈ th_tb := tbg (tbl2 (List.mem_of_getElem? (i := 215) rfl)) rfl
theorem k_456 : Jvm.Cond.code ({ cls := "TurnHost", name := "termOf", desc := "(II)LTurnHost$Term;" } : MethodName) prog_1_method_12_code (4 : Nat) (Option.some (Jvm.ClassFile.FieldType.object "TurnHost$Term")) ∈ th_tb := tbg (tbl2 (List.mem_of_getElem? (i := 216) rfl)) rfl
theorem k_457 : Jvm.Cond.methodLink "TurnHost" (107 : Nat) ({ cls := "TurnHost$HostProcess", name := "termAt", desc := "(I)LTurnHost$Term;" } : MethodName) ∈ th_tb := tbg (tbl2 (List.mem_of_getElem? (i := 217) rfl)) rfl
theorem k_458 : Jvm.Cond.instanceMethod ({ cls := "TurnHost$HostProcess", name := "termAt", desc := "(I)LTurnHost$Term;" } : MethodName) ∈ th_tb := tbg (tbl2 (List.mem_of_getElem? (i := 218) rfl)) rfl
theorem k_459 : Jvm.Cond.selects "TurnHost$HostProcess" ({ cls := "TurnHost$HostProcess", name := "termAt", desc := "(I)LTurnHost$Term;" } : MethodName) ({ cls := "TurnHost$HostProcess", name := "termAt", desc := "(I)LTurnHost$Term;" } : MethodName) ∈ th_tb := tbg (tbl2 (List.mem_of_getElem? (i := 219) rfl)) rfl
theorem k_460 : Jvm.Cond.code ({ cls := "TurnHost$HostProcess", name := "termAt", desc := "(I)LTurnHost$Term;" } : MethodName) prog_2_method_7_code (2 : Nat) (Option.some (Jvm.ClassFile.FieldType.object "TurnHost$Term")) ∈ th_tb := tbg (tbl2 (List.mem_of_getElem? (i := 220) rfl)) rfl
theorem k_461 : Jvm.Cond.methodLink "TurnHost$HostProcess" (70 : Nat) ({ cls := "TurnHost$Mailbox", name := "at", desc := "(I)LTurnHost$Term;" } : MethodName) ∈ th_tb := tbg (tbl2 (List.mem_of_getElem? (i := 221) rfl)) rfl
theorem k_462 : Jvm.Cond.methodLink "TurnHost" (99 : Nat) ({ cls := "TurnHost$Term", name := "summary", desc := "()I" } : MethodName) ∈ th_tb := tbg (tbl2 (List.mem_of_getElem? (i := 222) rfl)) rfl
theorem k_463 : Jvm.Cond.instanceMethod ({ cls := "TurnHost$Term", name := "summary", desc := "()I" } : MethodName) ∈ th_tb := tbg (tbl2 (List.mem_of_getElem? (i := 223) rfl)) rfl
theorem k_464 : Jvm.Cond.selects "TurnHost$Term" ({ cls := "TurnHost$Term", name := "summary", desc := "()I" } : MethodName) ({ cls := "TurnHost$Term", name := "summary", desc := "()I" } : MethodName) ∈ th_tb := tbg (tbl2 (List.mem_of_getElem? (i := 224) rfl)) rfl
theorem k_465 : Jvm.Cond.code ({ cls := "TurnHost$Term", name := "summary", desc := "()I" } : MethodName) prog_8_method_6_code (2 : Nat) (Option.some Jvm.ClassFile.FieldType.int) ∈ th_tb := tbg (tbl2 (List.mem_of_getElem? (i := 225) rfl)) rfl
theorem k_466 : Jvm.Cond.methodLink "TurnHost$Term" (31 : Nat) ({ cls := "TurnHost$Term", name := "hasNumber", desc := "()Z" } : MethodName) ∈ th_tb := tbg (tbl2 (List.mem_of_getElem? (i := 226) rfl)) rfl
theorem k_467 : Jvm.Cond.instanceMethod ({ cls := "TurnHost$Term", name := "hasNumber", desc := "()Z" } : MethodName) ∈ th_tb := tbg (tbl2 (List.mem_of_getElem? (i := 227) rfl)) rfl
theorem k_468 : Jvm.Cond.selects "TurnHost$Term" ({ cls := "TurnHost$Term", name := "hasNumber", desc := "()Z" } : MethodName) ({ cls := "TurnHost$Term", name := "hasNumber", desc := "()Z" } : MethodName) ∈ th_tb := tbg (tbl2 (List.mem_of_getElem? (i := 228) rfl)) rfl
theorem k_469 : Jvm.Cond.code ({ cls := "TurnHost$Term", name := "hasNumber", desc := "()Z" } : MethodName) prog_8_method_5_code (1 : Nat) (Option.some Jvm.ClassFile.FieldType.boolean) ∈ th_tb := tbg (tbl2 (List.mem_of_getElem? (i := 229) rfl)) rfl
theorem k_470 : Jvm.Cond.methodLink "TurnHost$Term" (35 : Nat) ({ cls := "java/lang/Math", name := "floorMod", desc := "(II)I" } : MethodName) ∈ th_tb := tbg (tbl2 (List.mem_of_getElem? (i := 230) rfl)) rfl
theorem k_471 : Jvm.Cond.static ({ cls := "java/lang/Math", name := "floorMod", desc := "(II)I" } : MethodName) ∈ th_tb := tbg (tbl2 (List.mem_of_getElem? (i := 231) rfl)) rfl
theorem k_472 : Jvm.Cond.code ({ cls := "java/lang/Math", name := "floorMod", desc := "(II)I" } : MethodName) prog_11_method_50_code (3 : Nat) (Option.some Jvm.ClassFile.FieldType.int) ∈ th_tb := tbg (tbl2 (List.mem_of_getElem? (i := 232) rfl)) rfl
theorem k_473 : Jvm.Cond.constant "TurnHost$Term" (41 : Nat) (1000000 : Int32) ∈ th_tb := tbg (tbl2 (List.mem_of_getElem? (i := 233) rfl)) rfl
theorem k_474 : Jvm.Cond.methodLink "TurnHostLaw" (63 : Nat) ({ cls := "TurnHost", name := "digest", desc := "(II)I" } : MethodName) ∈ th_tb := tbg (tbl2 (List.mem_of_getElem? (i := 234) rfl)) rfl
theorem k_475 : Jvm.Cond.instanceMethod ({ cls := "TurnHost", name := "digest", desc := "(II)I" } : MethodName) ∈ th_tb := tbg (tbl2 (List.mem_of_getElem? (i := 235) rfl)) rfl
theorem k_476 : Jvm.Cond.selects "TurnHost" ({ cls := "TurnHost", name := "digest", desc := "(II)I" } : MethodName) ({ cls := "TurnHost", name := "digest", desc := "(II)I" } : MethodName) ∈ th_tb := tbg (tbl2 (List.mem_of_getElem? (i := 236) rfl)) rfl
theorem k_477 : Jvm.Cond.code ({ cls := "TurnHost", name := "digest", desc := "(II)I" } : MethodName) prog_1_method_11_code (4 : Nat) (Option.some Jvm.ClassFile.FieldType.int) ∈ th_tb := tbg (tbl2 (List.mem_of_getElem? (i := 237) rfl)) rfl
theorem k_479 : Jvm.Cond.static ({ cls := "TurnHost$Term", name := "mixed", desc := "(ILTurnHost$Term;)I" } : MethodName) ∈ th_tb := tbg (tbl2 (List.mem_of_getElem? (i := 239) rfl)) rfl
theorem k_480 : Jvm.Cond.code ({ cls := "TurnHost$Term", name := "mixed", desc := "(ILTurnHost$Term;)I" } : MethodName) prog_8_method_8_code (3 : Nat) (Option.some Jvm.ClassFile.FieldType.int) ∈ th_tb := tbg (tbl3 (List.mem_of_getElem? (i := 0) rfl)) rfl
theorem k_481 : Jvm.Cond.methodLink "TurnHost$Term" (49 : Nat) ({ cls := "TurnHost$Term", name := "mixed", desc := "(ILTurnHost$Term;)I" } : MethodName) ∈ th_tb := tbg (tbl3 (List.mem_of_getElem? (i := 1) rfl)) rfl
theorem k_482 : Jvm.Cond.methodLink "TurnHostLaw" (9 : Nat) ({ cls := "TurnHostLaw", name := "cell", desc := "([II)I" } : MethodName) ∈ th_tb := tbg (tbl3 (List.mem_of_getElem? (i := 2) rfl)) rfl
theorem k_483 : Jvm.Cond.static ({ cls := "TurnHostLaw", name := "cell", desc := "([II)I" } : MethodName) ∈ th_tb := tbg (tbl3 (List.mem_of_getElem? (i := 3) rfl)) rfl
theorem k_484 : Jvm.Cond.code ({ cls := "TurnHostLaw", name := "cell", desc := "([II)I" } : MethodName) method_2_code (2 : Nat) (Option.some Jvm.ClassFile.FieldType.int) ∈ th_tb := tbg (tbl3 (List.mem_of_getElem? (i := 4) rfl)) rfl
theorem k_485 : Jvm.Cond.classLink "TurnHostLaw" (18 : Nat) "TurnHostModel" ∈ th_tb := tbg (tbl3 (List.mem_of_getElem? (i := 5) rfl)) rfl
theorem k_486 : Jvm.Cond.instantiable "TurnHostModel" (22 : Nat) ∈ th_tb := tbg (tbl3 (List.mem_of_getElem? (i := 6) rfl)) rfl
theorem k_487 : Jvm.Cond.methodLink "TurnHostLaw" (20 : Nat) ({ cls := "TurnHostModel", name := "<init>", desc := "(I)V" } : MethodName) ∈ th_tb := tbg (tbl3 (List.mem_of_getElem? (i := 7) rfl)) rfl
theorem k_488 : Jvm.Cond.instanceMethod ({ cls := "TurnHostModel", name := "<init>", desc := "(I)V" } : MethodName) ∈ th_tb := tbg (tbl3 (List.mem_of_getElem? (i := 8) rfl)) rfl
theorem k_489 : Jvm.Cond.code ({ cls := "TurnHostModel", name := "<init>", desc := "(I)V" } : MethodName) prog_10_method_1_code (2 : Nat) (Option.none : Option Jvm.ClassFile.FieldType) ∈ th_tb := tbg (tbl3 (List.mem_of_getElem? (i := 9) rfl)) rfl
theorem k_490 : Jvm.Cond.methodLink "TurnHostModel" (1 : Nat) ({ cls := "java/lang/Object", name := "<init>", desc := "()V" } : MethodName) ∈ th_tb := tbg (tbl3 (List.mem_of_getElem? (i := 10) rfl)) rfl
theorem k_491 : Jvm.Cond.fieldLink "TurnHostModel" (62 : Nat) "TurnHostModel" "quota" "I" ∈ th_tb := tbg (tbl3 (List.mem_of_getElem? (i := 11) rfl)) rfl
theorem k_492 : Jvm.Cond.fieldLink "TurnHostModel" (85 : Nat) "TurnHostModel" "size" "I" ∈ th_tb := tbg (tbl3 (List.mem_of_getElem? (i := 12) rfl)) rfl
theorem k_493 : Jvm.Cond.fieldLink "TurnHostModel" (7 : Nat) "TurnHostModel" "op" "[I" ∈ th_tb := tbg (tbl3 (List.mem_of_getElem? (i := 13) rfl)) rfl
theorem k_494 : Jvm.Cond.fieldLink "TurnHostModel" (13 : Nat) "TurnHostModel" "one" "[I" ∈ th_tb := tbg (tbl3 (List.mem_of_getElem? (i := 14) rfl)) rfl
theorem k_495 : Jvm.Cond.fieldLink "TurnHostModel" (16 : Nat) "TurnHostModel" "two" "[I" ∈ th_tb := tbg (tbl3 (List.mem_of_getElem? (i := 15) rfl)) rfl
theorem k_496 : Jvm.Cond.fieldLink "TurnHostModel" (19 : Nat) "TurnHostModel" "three" "[I" ∈ th_tb := tbg (tbl3 (List.mem_of_getElem? (i := 16) rfl)) rfl
theorem k_497 : Jvm.Cond.fieldLink "TurnHostModel" (22 : Nat) "TurnHostModel" "table" "[I" ∈ th_tb := tbg (tbl3 (List.mem_of_getElem? (i := 17) rfl)) rfl
theorem k_498 : Jvm.Cond.fieldLink "TurnHostModel" (131 : Nat) "TurnHostModel" "count" "I" ∈ th_tb := tbg (tbl3 (List.mem_of_getElem? (i := 18) rfl)) rfl
theorem k_499 : Jvm.Cond.fieldLink "TurnHostModel" (25 : Nat) "TurnHostModel" "state" "[I" ∈ th_tb := tbg (tbl3 (List.mem_of_getElem? (i := 19) rfl)) rfl
theorem k_500 : Jvm.Cond.fieldLink "TurnHostModel" (28 : Nat) "TurnHostModel" "place" "[I" ∈ th_tb := tbg (tbl3 (List.mem_of_getElem? (i := 20) rfl)) rfl
theorem k_501 : Jvm.Cond.fieldLink "TurnHostModel" (31 : Nat) "TurnHostModel" "mark" "[I" ∈ th_tb := tbg (tbl3 (List.mem_of_getElem? (i := 21) rfl)) rfl
theorem k_502 : Jvm.Cond.fieldLink "TurnHostModel" (34 : Nat) "TurnHostModel" "messages" "[I" ∈ th_tb := tbg (tbl3 (List.mem_of_getElem? (i := 22) rfl)) rfl
theorem k_503 : Jvm.Cond.fieldLink "TurnHostModel" (37 : Nat) "TurnHostModel" "calls" "[I" ∈ th_tb := tbg (tbl3 (List.mem_of_getElem? (i := 23) rfl)) rfl
theorem k_504 : Jvm.Cond.fieldLink "TurnHostModel" (40 : Nat) "TurnHostModel" "returns" "[I" ∈ th_tb := tbg (tbl3 (List.mem_of_getElem? (i := 24) rfl)) rfl
theorem k_505 : Jvm.Cond.fieldLink "TurnHostModel" (43 : Nat) "TurnHostModel" "links" "[I" ∈ th_tb := tbg (tbl3 (List.mem_of_getElem? (i := 25) rfl)) rfl
theorem k_506 : Jvm.Cond.fieldLink "TurnHostModel" (46 : Nat) "TurnHostModel" "traps" "[Z" ∈ th_tb := tbg (tbl3 (List.mem_of_getElem? (i := 26) rfl)) rfl
theorem k_507 : Jvm.Cond.fieldLink "TurnHostModel" (50 : Nat) "TurnHostModel" "done" "[I" ∈ th_tb := tbg (tbl3 (List.mem_of_getElem? (i := 27) rfl)) rfl
theorem k_508 : Jvm.Cond.fieldLink "TurnHostModel" (101 : Nat) "TurnHostModel" "waiting" "I" ∈ th_tb := tbg (tbl3 (List.mem_of_getElem? (i := 28) rfl)) rfl
theorem k_509 : Jvm.Cond.fieldLink "TurnHostModel" (53 : Nat) "TurnHostModel" "row" "[I" ∈ th_tb := tbg (tbl3 (List.mem_of_getElem? (i := 29) rfl)) rfl
theorem k_510 : Jvm.Cond.fieldLink "TurnHostModel" (104 : Nat) "TurnHostModel" "used" "I" ∈ th_tb := tbg (tbl3 (List.mem_of_getElem? (i := 30) rfl)) rfl
theorem k_511 : Jvm.Cond.fieldLink "TurnHostModel" (56 : Nat) "TurnHostModel" "telling" "[I" ∈ th_tb := tbg (tbl3 (List.mem_of_getElem? (i := 31) rfl)) rfl
theorem k_512 : Jvm.Cond.fieldLink "TurnHostModel" (59 : Nat) "TurnHostModel" "next" "[I" ∈ th_tb := tbg (tbl3 (List.mem_of_getElem? (i := 32) rfl)) rfl
theorem k_513 : Jvm.Cond.laysFinal "TurnHostModel" "TurnHostModel" "quota" "I" ∈ th_tb := tbg (tbl3 (List.mem_of_getElem? (i := 33) rfl)) rfl
theorem k_515 : Jvm.Cond.lays "TurnHostModel" "TurnHostModel" "size" "I" ∈ th_tb := tbg (tbl3 (List.mem_of_getElem? (i := 35) rfl)) rfl
theorem k_517 : Jvm.Cond.laysFinal "TurnHostModel" "TurnHostModel" "op" "[I" ∈ th_tb := tbg (tbl3 (List.mem_of_getElem? (i := 37) rfl)) rfl
theorem k_519 : Jvm.Cond.laysFinal "TurnHostModel" "TurnHostModel" "one" "[I" ∈ th_tb := tbg (tbl3 (List.mem_of_getElem? (i := 39) rfl)) rfl
theorem k_521 : Jvm.Cond.laysFinal "TurnHostModel" "TurnHostModel" "two" "[I" ∈ th_tb := tbg (tbl3 (List.mem_of_getElem? (i := 41) rfl)) rfl
theorem k_523 : Jvm.Cond.laysFinal "TurnHostModel" "TurnHostModel" "three" "[I" ∈ th_tb := tbg (tbl3 (List.mem_of_getElem? (i := 43) rfl)) rfl
theorem k_525 : Jvm.Cond.laysFinal "TurnHostModel" "TurnHostModel" "table" "[I" ∈ th_tb := tbg (tbl3 (List.mem_of_getElem? (i := 45) rfl)) rfl
theorem k_527 : Jvm.Cond.lays "TurnHostModel" "TurnHostModel" "count" "I" ∈ th_tb := tbg (tbl3 (List.mem_of_getElem? (i := 47) rfl)) rfl
theorem k_529 : Jvm.Cond.laysFinal "TurnHostModel" "TurnHostModel" "state" "[I" ∈ th_tb := tbg (tbl3 (List.mem_of_getElem? (i := 49) rfl)) rfl
theorem k_531 : Jvm.Cond.laysFinal "TurnHostModel" "TurnHostModel" "place" "[I" ∈ th_tb := tbg (tbl3 (List.mem_of_getElem? (i := 51) rfl)) rfl
theorem k_533 : Jvm.Cond.laysFinal "TurnHostModel" "TurnHostModel" "mark" "[I" ∈ th_tb := tbg (tbl3 (List.mem_of_getElem? (i := 53) rfl)) rfl
theorem k_535 : Jvm.Cond.laysFinal "TurnHostModel" "TurnHostModel" "messages" "[I" ∈ th_tb := tbg (tbl3 (List.mem_of_getElem? (i := 55) rfl)) rfl
theorem k_537 : Jvm.Cond.laysFinal "TurnHostModel" "TurnHostModel" "calls" "[I" ∈ th_tb := tbg (tbl3 (List.mem_of_getElem? (i := 57) rfl)) rfl
theorem k_539 : Jvm.Cond.laysFinal "TurnHostModel" "TurnHostModel" "returns" "[I" ∈ th_tb := tbg (tbl3 (List.mem_of_getElem? (i := 59) rfl)) rfl
theorem k_541 : Jvm.Cond.laysFinal "TurnHostModel" "TurnHostModel" "links" "[I" ∈ th_tb := tbg (tbl3 (List.mem_of_getElem? (i := 61) rfl)) rfl
theorem k_543 : Jvm.Cond.laysFinal "TurnHostModel" "TurnHostModel" "traps" "[Z" ∈ th_tb := tbg (tbl3 (List.mem_of_getElem? (i := 63) rfl)) rfl
theorem k_545 : Jvm.Cond.laysFinal "TurnHostModel" "TurnHostModel" "done" "[I" ∈ th_tb := tbg (tbl3 (List.mem_of_getElem? (i := 65) rfl)) rfl
theorem k_547 : Jvm.Cond.lays "TurnHostModel" "TurnHostModel" "waiting" "I" ∈ th_tb := tbg (tbl3 (List.mem_of_getElem? (i := 67) rfl)) rfl
theorem k_549 : Jvm.Cond.laysFinal "TurnHostModel" "TurnHostModel" "row" "[I" ∈ th_tb := tbg (tbl3 (List.mem_of_getElem? (i := 69) rfl)) rfl
theorem k_551 : Jvm.Cond.lays "TurnHostModel" "TurnHostModel" "used" "I" ∈ th_tb := tbg (tbl3 (List.mem_of_getElem? (i := 71) rfl)) rfl
theorem k_553 : Jvm.Cond.laysFinal "TurnHostModel" "TurnHostModel" "telling" "[I" ∈ th_tb := tbg (tbl3 (List.mem_of_getElem? (i := 73) rfl)) rfl
theorem k_555 : Jvm.Cond.laysFinal "TurnHostModel" "TurnHostModel" "next" "[I" ∈ th_tb := tbg (tbl3 (List.mem_of_getElem? (i := 75) rfl)) rfl
theorem k_558 : Jvm.Cond.arrayClass Jvm.ClassFile.FieldType.boolean ∈ th_tb := tbg (tbl3 (List.mem_of_getElem? (i := 78) rfl)) rfl
theorem k_559 : Jvm.Cond.methodLink "TurnHostLaw" (25 : Nat) ({ cls := "TurnHostModel", name := "add", desc := "(IIII)I" } : MethodName) ∈ th_tb := tbg (tbl3 (List.mem_of_getElem? (i := 79) rfl)) rfl
theorem k_560 : Jvm.Cond.instanceMethod ({ cls := "TurnHostModel", name := "add", desc := "(IIII)I" } : MethodName) ∈ th_tb := tbg (tbl3 (List.mem_of_getElem? (i := 80) rfl)) rfl
theorem k_561 : Jvm.Cond.selects "TurnHostModel" ({ cls := "TurnHostModel", name := "add", desc := "(IIII)I" } : MethodName) ({ cls := "TurnHostModel", name := "add", desc := "(IIII)I" } : MethodName) ∈ th_tb := tbg (tbl3 (List.mem_of_getElem? (i := 81) rfl)) rfl
theorem k_562 : Jvm.Cond.code ({ cls := "TurnHostModel", name := "add", desc := "(IIII)I" } : MethodName) prog_10_method_16_code (6 : Nat) (Option.some Jvm.ClassFile.FieldType.int) ∈ th_tb := tbg (tbl3 (List.mem_of_getElem? (i := 82) rfl)) rfl
theorem k_563 : Jvm.Cond.methodLink "TurnHostModel" (81 : Nat) ({ cls := "TurnHostModel", name := "in", desc := "(III)Z" } : MethodName) ∈ th_tb := tbg (tbl3 (List.mem_of_getElem? (i := 83) rfl)) rfl
theorem k_564 : Jvm.Cond.static ({ cls := "TurnHostModel", name := "in", desc := "(III)Z" } : MethodName) ∈ th_tb := tbg (tbl3 (List.mem_of_getElem? (i := 84) rfl)) rfl
theorem k_565 : Jvm.Cond.code ({ cls := "TurnHostModel", name := "in", desc := "(III)Z" } : MethodName) prog_10_method_2_code (3 : Nat) (Option.some Jvm.ClassFile.FieldType.boolean) ∈ th_tb := tbg (tbl3 (List.mem_of_getElem? (i := 85) rfl)) rfl
theorem k_566 : Jvm.Cond.methodLink "TurnHostModel" (88 : Nat) ({ cls := "TurnHostModel", name := "firstNeeds", desc := "(I)I" } : MethodName) ∈ th_tb := tbg (tbl3 (List.mem_of_getElem? (i := 86) rfl)) rfl
theorem k_567 : Jvm.Cond.static ({ cls := "TurnHostModel", name := "firstNeeds", desc := "(I)I" } : MethodName) ∈ th_tb := tbg (tbl3 (List.mem_of_getElem? (i := 87) rfl)) rfl
theorem k_568 : Jvm.Cond.code ({ cls := "TurnHostModel", name := "firstNeeds", desc := "(I)I" } : MethodName) prog_10_method_13_code (1 : Nat) (Option.some Jvm.ClassFile.FieldType.int) ∈ th_tb := tbg (tbl3 (List.mem_of_getElem? (i := 88) rfl)) rfl
theorem k_569 : Jvm.Cond.methodLink "TurnHostModel" (91 : Nat) ({ cls := "TurnHostModel", name := "isRight", desc := "(II)Z" } : MethodName) ∈ th_tb := tbg (tbl3 (List.mem_of_getElem? (i := 89) rfl)) rfl
theorem k_570 : Jvm.Cond.static ({ cls := "TurnHostModel", name := "isRight", desc := "(II)Z" } : MethodName) ∈ th_tb := tbg (tbl3 (List.mem_of_getElem? (i := 90) rfl)) rfl
theorem k_571 : Jvm.Cond.code ({ cls := "TurnHostModel", name := "isRight", desc := "(II)Z" } : MethodName) prog_10_method_12_code (2 : Nat) (Option.some Jvm.ClassFile.FieldType.boolean) ∈ th_tb := tbg (tbl3 (List.mem_of_getElem? (i := 91) rfl)) rfl
theorem k_572 : Jvm.Cond.methodLink "TurnHostModel" (95 : Nat) ({ cls := "TurnHostModel", name := "secondNeeds", desc := "(I)I" } : MethodName) ∈ th_tb := tbg (tbl3 (List.mem_of_getElem? (i := 92) rfl)) rfl
theorem k_573 : Jvm.Cond.static ({ cls := "TurnHostModel", name := "secondNeeds", desc := "(I)I" } : MethodName) ∈ th_tb := tbg (tbl3 (List.mem_of_getElem? (i := 93) rfl)) rfl
theorem k_574 : Jvm.Cond.code ({ cls := "TurnHostModel", name := "secondNeeds", desc := "(I)I" } : MethodName) prog_10_method_14_code (1 : Nat) (Option.some Jvm.ClassFile.FieldType.int) ∈ th_tb := tbg (tbl3 (List.mem_of_getElem? (i := 94) rfl)) rfl
theorem k_575 : Jvm.Cond.methodLink "TurnHostModel" (98 : Nat) ({ cls := "TurnHostModel", name := "thirdNeeds", desc := "(I)I" } : MethodName) ∈ th_tb := tbg (tbl3 (List.mem_of_getElem? (i := 95) rfl)) rfl
theorem k_576 : Jvm.Cond.static ({ cls := "TurnHostModel", name := "thirdNeeds", desc := "(I)I" } : MethodName) ∈ th_tb := tbg (tbl3 (List.mem_of_getElem? (i := 96) rfl)) rfl
theorem k_577 : Jvm.Cond.code ({ cls := "TurnHostModel", name := "thirdNeeds", desc := "(I)I" } : MethodName) prog_10_method_15_code (1 : Nat) (Option.some Jvm.ClassFile.FieldType.int) ∈ th_tb := tbg (tbl3 (List.mem_of_getElem? (i := 97) rfl)) rfl
theorem k_578 : Jvm.Cond.methodLink "TurnHostLaw" (30 : Nat) ({ cls := "TurnHostModel", name := "begin", desc := "(II)I" } : MethodName) ∈ th_tb := tbg (tbl3 (List.mem_of_getElem? (i := 98) rfl)) rfl
theorem k_579 : Jvm.Cond.instanceMethod ({ cls := "TurnHostModel", name := "begin", desc := "(II)I" } : MethodName) ∈ th_tb := tbg (tbl3 (List.mem_of_getElem? (i := 99) rfl)) rfl
theorem k_580 : Jvm.Cond.selects "TurnHostModel" ({ cls := "TurnHostModel", name := "begin", desc := "(II)I" } : MethodName) ({ cls := "TurnHostModel", name := "begin", desc := "(II)I" } : MethodName) ∈ th_tb := tbg (tbl3 (List.mem_of_getElem? (i := 100) rfl)) rfl
theorem k_581 : Jvm.Cond.code ({ cls := "TurnHostModel", name := "begin", desc := "(II)I" } : MethodName) prog_10_method_31_code (3 : Nat) (Option.some Jvm.ClassFile.FieldType.int) ∈ th_tb := tbg (tbl3 (List.mem_of_getElem? (i := 101) rfl)) rfl
theorem k_582 : Jvm.Cond.methodLink "TurnHostModel" (115 : Nat) ({ cls := "TurnHostModel", name := "put", desc := "(III)V" } : MethodName) ∈ th_tb := tbg (tbl3 (List.mem_of_getElem? (i := 102) rfl)) rfl
theorem k_584 : Jvm.Cond.instanceMethod ({ cls := "TurnHostModel", name := "put", desc := "(III)V" } : MethodName) ∈ th_tb := tbg (tbl3 (List.mem_of_getElem? (i := 104) rfl)) rfl
theorem k_585 : Jvm.Cond.code ({ cls := "TurnHostModel", name := "put", desc := "(III)V" } : MethodName) prog_10_method_4_code (4 : Nat) (Option.none : Option Jvm.ClassFile.FieldType) ∈ th_tb := tbg (tbl3 (List.mem_of_getElem? (i := 105) rfl)) rfl
theorem k_586 : Jvm.Cond.methodLink "TurnHostModel" (152 : Nat) ({ cls := "TurnHostModel", name := "start", desc := "(II)I" } : MethodName) ∈ th_tb := tbg (tbl3 (List.mem_of_getElem? (i := 106) rfl)) rfl
theorem k_588 : Jvm.Cond.instanceMethod ({ cls := "TurnHostModel", name := "start", desc := "(II)I" } : MethodName) ∈ th_tb := tbg (tbl3 (List.mem_of_getElem? (i := 108) rfl)) rfl
theorem k_589 : Jvm.Cond.code ({ cls := "TurnHostModel", name := "start", desc := "(II)I" } : MethodName) prog_10_method_24_code (5 : Nat) (Option.some Jvm.ClassFile.FieldType.int) ∈ th_tb := tbg (tbl3 (List.mem_of_getElem? (i := 109) rfl)) rfl
theorem k_590 : Jvm.Cond.methodLink "TurnHostModel" (107 : Nat) ({ cls := "TurnHostModel", name := "copy", desc := "(II)V" } : MethodName) ∈ th_tb := tbg (tbl3 (List.mem_of_getElem? (i := 110) rfl)) rfl
theorem k_592 : Jvm.Cond.instanceMethod ({ cls := "TurnHostModel", name := "copy", desc := "(II)V" } : MethodName) ∈ th_tb := tbg (tbl3 (List.mem_of_getElem? (i := 112) rfl)) rfl
theorem k_593 : Jvm.Cond.code ({ cls := "TurnHostModel", name := "copy", desc := "(II)V" } : MethodName) prog_10_method_3_code (4 : Nat) (Option.none : Option Jvm.ClassFile.FieldType) ∈ th_tb := tbg (tbl3 (List.mem_of_getElem? (i := 113) rfl)) rfl
theorem k_594 : Jvm.Cond.methodLink "TurnHostModel" (111 : Nat) ({ cls := "TurnHostModel", name := "come", desc := "(I)V" } : MethodName) ∈ th_tb := tbg (tbl3 (List.mem_of_getElem? (i := 114) rfl)) rfl
theorem k_596 : Jvm.Cond.instanceMethod ({ cls := "TurnHostModel", name := "come", desc := "(I)V" } : MethodName) ∈ th_tb := tbg (tbl3 (List.mem_of_getElem? (i := 116) rfl)) rfl
theorem k_597 : Jvm.Cond.code ({ cls := "TurnHostModel", name := "come", desc := "(I)V" } : MethodName) prog_10_method_17_code (2 : Nat) (Option.none : Option Jvm.ClassFile.FieldType) ∈ th_tb := tbg (tbl3 (List.mem_of_getElem? (i := 117) rfl)) rfl
theorem k_598 : Jvm.Cond.methodLink "TurnHostLaw" (35 : Nat) ({ cls := "TurnHostModel", name := "tell", desc := "(II)Z" } : MethodName) ∈ th_tb := tbg (tbl3 (List.mem_of_getElem? (i := 118) rfl)) rfl
theorem k_599 : Jvm.Cond.instanceMethod ({ cls := "TurnHostModel", name := "tell", desc := "(II)Z" } : MethodName) ∈ th_tb := tbg (tbl3 (List.mem_of_getElem? (i := 119) rfl)) rfl
theorem k_600 : Jvm.Cond.selects "TurnHostModel" ({ cls := "TurnHostModel", name := "tell", desc := "(II)Z" } : MethodName) ({ cls := "TurnHostModel", name := "tell", desc := "(II)Z" } : MethodName) ∈ th_tb := tbg (tbl3 (List.mem_of_getElem? (i := 120) rfl)) rfl
theorem k_601 : Jvm.Cond.code ({ cls := "TurnHostModel", name := "tell", desc := "(II)Z" } : MethodName) prog_10_method_32_code (3 : Nat) (Option.some Jvm.ClassFile.FieldType.boolean) ∈ th_tb := tbg (tbl3 (List.mem_of_getElem? (i := 121) rfl)) rfl
theorem k_602 : Jvm.Cond.methodLink "TurnHostModel" (122 : Nat) ({ cls := "TurnHostModel", name := "deliver", desc := "(II)V" } : MethodName) ∈ th_tb := tbg (tbl3 (List.mem_of_getElem? (i := 122) rfl)) rfl
theorem k_604 : Jvm.Cond.instanceMethod ({ cls := "TurnHostModel", name := "deliver", desc := "(II)V" } : MethodName) ∈ th_tb := tbg (tbl3 (List.mem_of_getElem? (i := 124) rfl)) rfl
theorem k_605 : Jvm.Cond.code ({ cls := "TurnHostModel", name := "deliver", desc := "(II)V" } : MethodName) prog_10_method_19_code (3 : Nat) (Option.none : Option Jvm.ClassFile.FieldType) ∈ th_tb := tbg (tbl3 (List.mem_of_getElem? (i := 125) rfl)) rfl
theorem k_606 : Jvm.Cond.methodLink "TurnHostLaw" (40 : Nat) ({ cls := "TurnHostModel", name := "run", desc := "(I)I" } : MethodName) ∈ th_tb := tbg (tbl3 (List.mem_of_getElem? (i := 126) rfl)) rfl
theorem k_607 : Jvm.Cond.instanceMethod ({ cls := "TurnHostModel", name := "run", desc := "(I)I" } : MethodName) ∈ th_tb := tbg (tbl3 (List.mem_of_getElem? (i := 127) rfl)) rfl
theorem k_608 : Jvm.Cond.selects "TurnHostModel" ({ cls := "TurnHostModel", name := "run", desc := "(I)I" } : MethodName) ({ cls := "TurnHostModel", name := "run", desc := "(I)I" } : MethodName) ∈ th_tb := tbg (tbl3 (List.mem_of_getElem? (i := 128) rfl)) rfl
theorem k_609 : Jvm.Cond.code ({ cls := "TurnHostModel", name := "run", desc := "(I)I" } : MethodName) prog_10_method_33_code (5 : Nat) (Option.some Jvm.ClassFile.FieldType.int) ∈ th_tb := tbg (tbl3 (List.mem_of_getElem? (i := 129) rfl)) rfl
theorem k_610 : Jvm.Cond.methodLink "TurnHostModel" (169 : Nat) ({ cls := "TurnHostModel", name := "step", desc := "(I)V" } : MethodName) ∈ th_tb := tbg (tbl3 (List.mem_of_getElem? (i := 130) rfl)) rfl
theorem k_612 : Jvm.Cond.instanceMethod ({ cls := "TurnHostModel", name := "step", desc := "(I)V" } : MethodName) ∈ th_tb := tbg (tbl3 (List.mem_of_getElem? (i := 132) rfl)) rfl
theorem k_613 : Jvm.Cond.code ({ cls := "TurnHostModel", name := "step", desc := "(I)V" } : MethodName) prog_10_method_30_code (5 : Nat) (Option.none : Option Jvm.ClassFile.FieldType) ∈ th_tb := tbg (tbl3 (List.mem_of_getElem? (i := 133) rfl)) rfl
theorem k_614 : Jvm.Cond.methodLink "TurnHostModel" (155 : Nat) ({ cls := "TurnHostModel", name := "make", desc := "(IIIII)Z" } : MethodName) ∈ th_tb := tbg (tbl3 (List.mem_of_getElem? (i := 134) rfl)) rfl
theorem k_616 : Jvm.Cond.instanceMethod ({ cls := "TurnHostModel", name := "make", desc := "(IIIII)Z" } : MethodName) ∈ th_tb := tbg (tbl3 (List.mem_of_getElem? (i := 136) rfl)) rfl
theorem k_617 : Jvm.Cond.code ({ cls := "TurnHostModel", name := "make", desc := "(IIIII)Z" } : MethodName) prog_10_method_25_code (9 : Nat) (Option.some Jvm.ClassFile.FieldType.boolean) ∈ th_tb := tbg (tbl3 (List.mem_of_getElem? (i := 137) rfl)) rfl
theorem k_618 : Jvm.Cond.methodLink "TurnHostModel" (77 : Nat) ({ cls := "TurnHostModel", name := "weight", desc := "(I)I" } : MethodName) ∈ th_tb := tbg (tbl3 (List.mem_of_getElem? (i := 138) rfl)) rfl
theorem k_620 : Jvm.Cond.instanceMethod ({ cls := "TurnHostModel", name := "weight", desc := "(I)I" } : MethodName) ∈ th_tb := tbg (tbl3 (List.mem_of_getElem? (i := 140) rfl)) rfl
theorem k_621 : Jvm.Cond.code ({ cls := "TurnHostModel", name := "weight", desc := "(I)I" } : MethodName) prog_10_method_7_code (2 : Nat) (Option.some Jvm.ClassFile.FieldType.int) ∈ th_tb := tbg (tbl3 (List.mem_of_getElem? (i := 141) rfl)) rfl
theorem k_622 : Jvm.Cond.methodLink "TurnHostModel" (118 : Nat) ({ cls := "TurnHostModel", name := "addParts", desc := "(IIII)V" } : MethodName) ∈ th_tb := tbg (tbl3 (List.mem_of_getElem? (i := 142) rfl)) rfl
theorem k_624 : Jvm.Cond.instanceMethod ({ cls := "TurnHostModel", name := "addParts", desc := "(IIII)V" } : MethodName) ∈ th_tb := tbg (tbl3 (List.mem_of_getElem? (i := 144) rfl)) rfl
theorem k_625 : Jvm.Cond.code ({ cls := "TurnHostModel", name := "addParts", desc := "(IIII)V" } : MethodName) prog_10_method_6_code (6 : Nat) (Option.none : Option Jvm.ClassFile.FieldType) ∈ th_tb := tbg (tbl3 (List.mem_of_getElem? (i := 145) rfl)) rfl
theorem k_626 : Jvm.Cond.methodLink "TurnHostModel" (66 : Nat) ({ cls := "TurnHostModel", name := "sortOf", desc := "(II)I" } : MethodName) ∈ th_tb := tbg (tbl3 (List.mem_of_getElem? (i := 146) rfl)) rfl
theorem k_628 : Jvm.Cond.instanceMethod ({ cls := "TurnHostModel", name := "sortOf", desc := "(II)I" } : MethodName) ∈ th_tb := tbg (tbl3 (List.mem_of_getElem? (i := 148) rfl)) rfl
theorem k_629 : Jvm.Cond.code ({ cls := "TurnHostModel", name := "sortOf", desc := "(II)I" } : MethodName) prog_10_method_8_code (3 : Nat) (Option.some Jvm.ClassFile.FieldType.int) ∈ th_tb := tbg (tbl3 (List.mem_of_getElem? (i := 149) rfl)) rfl
theorem k_630 : Jvm.Cond.methodLink "TurnHostModel" (70 : Nat) ({ cls := "TurnHostModel", name := "numberOf", desc := "(II)I" } : MethodName) ∈ th_tb := tbg (tbl3 (List.mem_of_getElem? (i := 150) rfl)) rfl
theorem k_632 : Jvm.Cond.instanceMethod ({ cls := "TurnHostModel", name := "numberOf", desc := "(II)I" } : MethodName) ∈ th_tb := tbg (tbl3 (List.mem_of_getElem? (i := 152) rfl)) rfl
theorem k_633 : Jvm.Cond.code ({ cls := "TurnHostModel", name := "numberOf", desc := "(II)I" } : MethodName) prog_10_method_9_code (3 : Nat) (Option.some Jvm.ClassFile.FieldType.int) ∈ th_tb := tbg (tbl3 (List.mem_of_getElem? (i := 153) rfl)) rfl
theorem k_634 : Jvm.Cond.methodLink "TurnHostModel" (73 : Nat) ({ cls := "TurnHostModel", name := "append", desc := "(III)V" } : MethodName) ∈ th_tb := tbg (tbl3 (List.mem_of_getElem? (i := 154) rfl)) rfl
theorem k_636 : Jvm.Cond.instanceMethod ({ cls := "TurnHostModel", name := "append", desc := "(III)V" } : MethodName) ∈ th_tb := tbg (tbl3 (List.mem_of_getElem? (i := 156) rfl)) rfl
theorem k_637 : Jvm.Cond.code ({ cls := "TurnHostModel", name := "append", desc := "(III)V" } : MethodName) prog_10_method_5_code (5 : Nat) (Option.none : Option Jvm.ClassFile.FieldType) ∈ th_tb := tbg (tbl3 (List.mem_of_getElem? (i := 157) rfl)) rfl
theorem k_638 : Jvm.Cond.methodLink "TurnHostModel" (140 : Nat) ({ cls := "TurnHostModel", name := "behind", desc := "(II)I" } : MethodName) ∈ th_tb := tbg (tbl3 (List.mem_of_getElem? (i := 158) rfl)) rfl
theorem k_640 : Jvm.Cond.instanceMethod ({ cls := "TurnHostModel", name := "behind", desc := "(II)I" } : MethodName) ∈ th_tb := tbg (tbl3 (List.mem_of_getElem? (i := 160) rfl)) rfl
theorem k_641 : Jvm.Cond.code ({ cls := "TurnHostModel", name := "behind", desc := "(II)I" } : MethodName) prog_10_method_10_code (5 : Nat) (Option.some Jvm.ClassFile.FieldType.int) ∈ th_tb := tbg (tbl3 (List.mem_of_getElem? (i := 161) rfl)) rfl
theorem k_642 : Jvm.Cond.methodLink "TurnHostModel" (159 : Nat) ({ cls := "TurnHostModel", name := "branch", desc := "(IIIII)Z" } : MethodName) ∈ th_tb := tbg (tbl3 (List.mem_of_getElem? (i := 162) rfl)) rfl
theorem k_644 : Jvm.Cond.instanceMethod ({ cls := "TurnHostModel", name := "branch", desc := "(IIIII)Z" } : MethodName) ∈ th_tb := tbg (tbl3 (List.mem_of_getElem? (i := 164) rfl)) rfl
theorem k_645 : Jvm.Cond.code ({ cls := "TurnHostModel", name := "branch", desc := "(IIIII)Z" } : MethodName) prog_10_method_26_code (8 : Nat) (Option.some Jvm.ClassFile.FieldType.boolean) ∈ th_tb := tbg (tbl3 (List.mem_of_getElem? (i := 165) rfl)) rfl
theorem k_646 : Jvm.Cond.methodLink "TurnHostModel" (143 : Nat) ({ cls := "TurnHostModel", name := "isSame", desc := "(II)Z" } : MethodName) ∈ th_tb := tbg (tbl3 (List.mem_of_getElem? (i := 166) rfl)) rfl
theorem k_648 : Jvm.Cond.instanceMethod ({ cls := "TurnHostModel", name := "isSame", desc := "(II)Z" } : MethodName) ∈ th_tb := tbg (tbl3 (List.mem_of_getElem? (i := 168) rfl)) rfl
theorem k_649 : Jvm.Cond.code ({ cls := "TurnHostModel", name := "isSame", desc := "(II)Z" } : MethodName) prog_10_method_11_code (5 : Nat) (Option.some Jvm.ClassFile.FieldType.boolean) ∈ th_tb := tbg (tbl3 (List.mem_of_getElem? (i := 169) rfl)) rfl
theorem k_650 : Jvm.Cond.methodLink "TurnHostModel" (146 : Nat) ({ cls := "TurnHostModel", name := "endBy", desc := "(II)V" } : MethodName) ∈ th_tb := tbg (tbl3 (List.mem_of_getElem? (i := 170) rfl)) rfl
theorem k_652 : Jvm.Cond.instanceMethod ({ cls := "TurnHostModel", name := "endBy", desc := "(II)V" } : MethodName) ∈ th_tb := tbg (tbl3 (List.mem_of_getElem? (i := 172) rfl)) rfl
theorem k_653 : Jvm.Cond.code ({ cls := "TurnHostModel", name := "endBy", desc := "(II)V" } : MethodName) prog_10_method_23_code (3 : Nat) (Option.none : Option Jvm.ClassFile.FieldType) ∈ th_tb := tbg (tbl3 (List.mem_of_getElem? (i := 173) rfl)) rfl
theorem k_654 : Jvm.Cond.methodLink "TurnHostModel" (137 : Nat) ({ cls := "TurnHostModel", name := "end", desc := "(II)V" } : MethodName) ∈ th_tb := tbg (tbl3 (List.mem_of_getElem? (i := 174) rfl)) rfl
theorem k_656 : Jvm.Cond.instanceMethod ({ cls := "TurnHostModel", name := "end", desc := "(II)V" } : MethodName) ∈ th_tb := tbg (tbl3 (List.mem_of_getElem? (i := 176) rfl)) rfl
theorem k_657 : Jvm.Cond.code ({ cls := "TurnHostModel", name := "end", desc := "(II)V" } : MethodName) prog_10_method_22_code (6 : Nat) (Option.none : Option Jvm.ClassFile.FieldType) ∈ th_tb := tbg (tbl3 (List.mem_of_getElem? (i := 177) rfl)) rfl
theorem k_658 : Jvm.Cond.methodLink "TurnHostModel" (128 : Nat) ({ cls := "TurnHostModel", name := "stop", desc := "(II)V" } : MethodName) ∈ th_tb := tbg (tbl3 (List.mem_of_getElem? (i := 178) rfl)) rfl
theorem k_660 : Jvm.Cond.instanceMethod ({ cls := "TurnHostModel", name := "stop", desc := "(II)V" } : MethodName) ∈ th_tb := tbg (tbl3 (List.mem_of_getElem? (i := 180) rfl)) rfl
theorem k_661 : Jvm.Cond.code ({ cls := "TurnHostModel", name := "stop", desc := "(II)V" } : MethodName) prog_10_method_21_code (3 : Nat) (Option.none : Option Jvm.ClassFile.FieldType) ∈ th_tb := tbg (tbl3 (List.mem_of_getElem? (i := 181) rfl)) rfl
theorem k_662 : Jvm.Cond.methodLink "TurnHostModel" (125 : Nat) ({ cls := "TurnHostModel", name := "leave", desc := "(I)V" } : MethodName) ∈ th_tb := tbg (tbl3 (List.mem_of_getElem? (i := 182) rfl)) rfl
theorem k_664 : Jvm.Cond.instanceMethod ({ cls := "TurnHostModel", name := "leave", desc := "(I)V" } : MethodName) ∈ th_tb := tbg (tbl3 (List.mem_of_getElem? (i := 184) rfl)) rfl
theorem k_665 : Jvm.Cond.code ({ cls := "TurnHostModel", name := "leave", desc := "(I)V" } : MethodName) prog_10_method_18_code (4 : Nat) (Option.none : Option Jvm.ClassFile.FieldType) ∈ th_tb := tbg (tbl3 (List.mem_of_getElem? (i := 185) rfl)) rfl
theorem k_666 : Jvm.Cond.methodLink "TurnHostModel" (134 : Nat) ({ cls := "TurnHostModel", name := "signal", desc := "(III)Z" } : MethodName) ∈ th_tb := tbg (tbl3 (List.mem_of_getElem? (i := 186) rfl)) rfl
theorem k_668 : Jvm.Cond.instanceMethod ({ cls := "TurnHostModel", name := "signal", desc := "(III)Z" } : MethodName) ∈ th_tb := tbg (tbl3 (List.mem_of_getElem? (i := 188) rfl)) rfl
theorem k_669 : Jvm.Cond.code ({ cls := "TurnHostModel", name := "signal", desc := "(III)Z" } : MethodName) prog_10_method_20_code (4 : Nat) (Option.some Jvm.ClassFile.FieldType.boolean) ∈ th_tb := tbg (tbl3 (List.mem_of_getElem? (i := 189) rfl)) rfl
theorem k_670 : Jvm.Cond.methodLink "TurnHostModel" (162 : Nat) ({ cls := "TurnHostModel", name := "mail", desc := "(IIII)Z" } : MethodName) ∈ th_tb := tbg (tbl3 (List.mem_of_getElem? (i := 190) rfl)) rfl
theorem k_672 : Jvm.Cond.instanceMethod ({ cls := "TurnHostModel", name := "mail", desc := "(IIII)Z" } : MethodName) ∈ th_tb := tbg (tbl3 (List.mem_of_getElem? (i := 192) rfl)) rfl
theorem k_673 : Jvm.Cond.code ({ cls := "TurnHostModel", name := "mail", desc := "(IIII)Z" } : MethodName) prog_10_method_28_code (8 : Nat) (Option.some Jvm.ClassFile.FieldType.boolean) ∈ th_tb := tbg (tbl3 (List.mem_of_getElem? (i := 193) rfl)) rfl
theorem k_674 : Jvm.Cond.methodLink "TurnHostModel" (149 : Nat) ({ cls := "TurnHostModel", name := "named", desc := "(I)I" } : MethodName) ∈ th_tb := tbg (tbl3 (List.mem_of_getElem? (i := 194) rfl)) rfl
theorem k_676 : Jvm.Cond.instanceMethod ({ cls := "TurnHostModel", name := "named", desc := "(I)I" } : MethodName) ∈ th_tb := tbg (tbl3 (List.mem_of_getElem? (i := 196) rfl)) rfl
theorem k_677 : Jvm.Cond.code ({ cls := "TurnHostModel", name := "named", desc := "(I)I" } : MethodName) prog_10_method_27_code (2 : Nat) (Option.some Jvm.ClassFile.FieldType.int) ∈ th_tb := tbg (tbl3 (List.mem_of_getElem? (i := 197) rfl)) rfl
theorem k_678 : Jvm.Cond.methodLink "TurnHostModel" (166 : Nat) ({ cls := "TurnHostModel", name := "life", desc := "(IIIII)Z" } : MethodName) ∈ th_tb := tbg (tbl3 (List.mem_of_getElem? (i := 198) rfl)) rfl
theorem k_680 : Jvm.Cond.instanceMethod ({ cls := "TurnHostModel", name := "life", desc := "(IIIII)Z" } : MethodName) ∈ th_tb := tbg (tbl3 (List.mem_of_getElem? (i := 200) rfl)) rfl
theorem k_681 : Jvm.Cond.code ({ cls := "TurnHostModel", name := "life", desc := "(IIIII)Z" } : MethodName) prog_10_method_29_code (8 : Nat) (Option.some Jvm.ClassFile.FieldType.boolean) ∈ th_tb := tbg (tbl3 (List.mem_of_getElem? (i := 201) rfl)) rfl
theorem k_682 : Jvm.Cond.methodLink "TurnHostLaw" (45 : Nat) ({ cls := "TurnHostModel", name := "clear", desc := "(Z)I" } : MethodName) ∈ th_tb := tbg (tbl3 (List.mem_of_getElem? (i := 202) rfl)) rfl
theorem k_683 : Jvm.Cond.instanceMethod ({ cls := "TurnHostModel", name := "clear", desc := "(Z)I" } : MethodName) ∈ th_tb := tbg (tbl3 (List.mem_of_getElem? (i := 203) rfl)) rfl
theorem k_684 : Jvm.Cond.selects "TurnHostModel" ({ cls := "TurnHostModel", name := "clear", desc := "(Z)I" } : MethodName) ({ cls := "TurnHostModel", name := "clear", desc := "(Z)I" } : MethodName) ∈ th_tb := tbg (tbl3 (List.mem_of_getElem? (i := 204) rfl)) rfl
theorem k_685 : Jvm.Cond.code ({ cls := "TurnHostModel", name := "clear", desc := "(Z)I" } : MethodName) prog_10_method_34_code (3 : Nat) (Option.some Jvm.ClassFile.FieldType.int) ∈ th_tb := tbg (tbl3 (List.mem_of_getElem? (i := 205) rfl)) rfl
theorem k_686 : Jvm.Cond.methodLink "TurnHostLaw" (49 : Nat) ({ cls := "TurnHostModel", name := "process", desc := "(II)I" } : MethodName) ∈ th_tb := tbg (tbl3 (List.mem_of_getElem? (i := 206) rfl)) rfl
theorem k_687 : Jvm.Cond.instanceMethod ({ cls := "TurnHostModel", name := "process", desc := "(II)I" } : MethodName) ∈ th_tb := tbg (tbl3 (List.mem_of_getElem? (i := 207) rfl)) rfl
theorem k_688 : Jvm.Cond.selects "TurnHostModel" ({ cls := "TurnHostModel", name := "process", desc := "(II)I" } : MethodName) ({ cls := "TurnHostModel", name := "process", desc := "(II)I" } : MethodName) ∈ th_tb := tbg (tbl3 (List.mem_of_getElem? (i := 208) rfl)) rfl
theorem k_689 : Jvm.Cond.code ({ cls := "TurnHostModel", name := "process", desc := "(II)I" } : MethodName) prog_10_method_35_code (3 : Nat) (Option.some Jvm.ClassFile.FieldType.int) ∈ th_tb := tbg (tbl3 (List.mem_of_getElem? (i := 209) rfl)) rfl
theorem k_690 : Jvm.Cond.methodLink "TurnHostLaw" (53 : Nat) ({ cls := "TurnHostModel", name := "queue", desc := "(I)I" } : MethodName) ∈ th_tb := tbg (tbl3 (List.mem_of_getElem? (i := 210) rfl)) rfl
theorem k_691 : Jvm.Cond.instanceMethod ({ cls := "TurnHostModel", name := "queue", desc := "(I)I" } : MethodName) ∈ th_tb := tbg (tbl3 (List.mem_of_getElem? (i := 211) rfl)) rfl
theorem k_692 : Jvm.Cond.selects "TurnHostModel" ({ cls := "TurnHostModel", name := "queue", desc := "(I)I" } : MethodName) ({ cls := "TurnHostModel", name := "queue", desc := "(I)I" } : MethodName) ∈ th_tb := tbg (tbl3 (List.mem_of_getElem? (i := 212) rfl)) rfl
theorem k_693 : Jvm.Cond.code ({ cls := "TurnHostModel", name := "queue", desc := "(I)I" } : MethodName) prog_10_method_36_code (2 : Nat) (Option.some Jvm.ClassFile.FieldType.int) ∈ th_tb := tbg (tbl3 (List.mem_of_getElem? (i := 213) rfl)) rfl
theorem k_694 : Jvm.Cond.methodLink "TurnHostLaw" (58 : Nat) ({ cls := "TurnHostModel", name := "processes", desc := "()I" } : MethodName) ∈ th_tb := tbg (tbl3 (List.mem_of_getElem? (i := 214) rfl)) rfl
theorem k_695 : Jvm.Cond.instanceMethod ({ cls := "TurnHostModel", name := "processes", desc := "()I" } : MethodName) ∈ th_tb := tbg (tbl3 (List.mem_of_getElem? (i := 215) rfl)) rfl
theorem k_696 : Jvm.Cond.selects "TurnHostModel" ({ cls := "TurnHostModel", name := "processes", desc := "()I" } : MethodName) ({ cls := "TurnHostModel", name := "processes", desc := "()I" } : MethodName) ∈ th_tb := tbg (tbl3 (List.mem_of_getElem? (i := 216) rfl)) rfl
theorem k_697 : Jvm.Cond.code ({ cls := "TurnHostModel", name := "processes", desc := "()I" } : MethodName) prog_10_method_37_code (1 : Nat) (Option.some Jvm.ClassFile.FieldType.int) ∈ th_tb := tbg (tbl3 (List.mem_of_getElem? (i := 217) rfl)) rfl
theorem k_698 : Jvm.Cond.methodLink "TurnHostLaw" (62 : Nat) ({ cls := "TurnHostModel", name := "term", desc := "(II)I" } : MethodName) ∈ th_tb := tbg (tbl3 (List.mem_of_getElem? (i := 218) rfl)) rfl
theorem k_699 : Jvm.Cond.instanceMethod ({ cls := "TurnHostModel", name := "term", desc := "(II)I" } : MethodName) ∈ th_tb := tbg (tbl3 (List.mem_of_getElem? (i := 219) rfl)) rfl
theorem k_700 : Jvm.Cond.selects "TurnHostModel" ({ cls := "TurnHostModel", name := "term", desc := "(II)I" } : MethodName) ({ cls := "TurnHostModel", name := "term", desc := "(II)I" } : MethodName) ∈ th_tb := tbg (tbl3 (List.mem_of_getElem? (i := 220) rfl)) rfl
theorem k_701 : Jvm.Cond.code ({ cls := "TurnHostModel", name := "term", desc := "(II)I" } : MethodName) prog_10_method_39_code (5 : Nat) (Option.some Jvm.ClassFile.FieldType.int) ∈ th_tb := tbg (tbl3 (List.mem_of_getElem? (i := 221) rfl)) rfl
theorem k_702 : Jvm.Cond.methodLink "TurnHostModel" (172 : Nat) ({ cls := "TurnHostModel", name := "isTerm", desc := "(II)Z" } : MethodName) ∈ th_tb := tbg (tbl3 (List.mem_of_getElem? (i := 222) rfl)) rfl
theorem k_704 : Jvm.Cond.instanceMethod ({ cls := "TurnHostModel", name := "isTerm", desc := "(II)Z" } : MethodName) ∈ th_tb := tbg (tbl3 (List.mem_of_getElem? (i := 224) rfl)) rfl
theorem k_705 : Jvm.Cond.code ({ cls := "TurnHostModel", name := "isTerm", desc := "(II)Z" } : MethodName) prog_10_method_38_code (3 : Nat) (Option.some Jvm.ClassFile.FieldType.boolean) ∈ th_tb := tbg (tbl3 (List.mem_of_getElem? (i := 225) rfl)) rfl
theorem k_706 : Jvm.Cond.constant "TurnHostModel" (175 : Nat) (1000000 : Int32) ∈ th_tb := tbg (tbl3 (List.mem_of_getElem? (i := 226) rfl)) rfl
theorem k_707 : Jvm.Cond.methodLink "TurnHostLaw" (66 : Nat) ({ cls := "TurnHostModel", name := "digest", desc := "(II)I" } : MethodName) ∈ th_tb := tbg (tbl3 (List.mem_of_getElem? (i := 227) rfl)) rfl
theorem k_708 : Jvm.Cond.instanceMethod ({ cls := "TurnHostModel", name := "digest", desc := "(II)I" } : MethodName) ∈ th_tb := tbg (tbl3 (List.mem_of_getElem? (i := 228) rfl)) rfl
theorem k_709 : Jvm.Cond.selects "TurnHostModel" ({ cls := "TurnHostModel", name := "digest", desc := "(II)I" } : MethodName) ({ cls := "TurnHostModel", name := "digest", desc := "(II)I" } : MethodName) ∈ th_tb := tbg (tbl3 (List.mem_of_getElem? (i := 229) rfl)) rfl
theorem k_710 : Jvm.Cond.code ({ cls := "TurnHostModel", name := "digest", desc := "(II)I" } : MethodName) prog_10_method_40_code (6 : Nat) (Option.some Jvm.ClassFile.FieldType.int) ∈ th_tb := tbg (tbl3 (List.mem_of_getElem? (i := 230) rfl)) rfl
theorem k_oi1 : Jvm.Cond.instanceMethod Lib.objectInit ∈ th_tb := k_17
theorem k_oi2 : Jvm.Cond.code Lib.objectInit ⟨#[0xb1]⟩ 1 none ∈ th_tb := k_18
theorem ok_T : th_ok 0 R_T F_T 5 ty_T := ⟨rfl, List.forall_mem_cons.mpr ⟨k_71, List.forall_mem_cons.mpr ⟨k_73, List.forall_mem_cons.mpr ⟨k_75, List.forall_mem_cons.mpr ⟨k_77, List.forall_mem_cons.mpr ⟨k_79, fun _ h => absurd h List.not_mem_nil⟩⟩⟩⟩⟩, ty_T_ok, n_T⟩
theorem ok_B : th_ok 1 R_B F_B 3 ty_B := ⟨rfl, List.forall_mem_cons.mpr ⟨k_96, List.forall_mem_cons.mpr ⟨k_98, List.forall_mem_cons.mpr ⟨k_100, fun _ h => absurd h List.not_mem_nil⟩⟩⟩, ty_B_ok, n_B⟩
theorem ok_P : th_ok 2 R_P F_P 12 ty_P := ⟨rfl, List.forall_mem_cons.mpr ⟨k_133, List.forall_mem_cons.mpr ⟨k_135, List.forall_mem_cons.mpr ⟨k_137, List.forall_mem_cons.mpr ⟨k_139, List.forall_mem_cons.mpr ⟨k_141, List.forall_mem_cons.mpr ⟨k_143, List.forall_mem_cons.mpr ⟨k_145, List.forall_mem_cons.mpr ⟨k_147, List.forall_mem_cons.mpr ⟨k_149, List.forall_mem_cons.mpr ⟨k_151, List.forall_mem_cons.mpr ⟨k_153, List.forall_mem_cons.mpr ⟨k_155, fun _ h => absurd h List.not_mem_nil⟩⟩⟩⟩⟩⟩⟩⟩⟩⟩⟩⟩, ty_P_ok, n_P⟩
theorem ok_L : th_ok 3 R_L F_L 2 ty_L := ⟨rfl, List.forall_mem_cons.mpr ⟨k_166, List.forall_mem_cons.mpr ⟨k_168, fun _ h => absurd h List.not_mem_nil⟩⟩, ty_L_ok, n_L⟩
theorem ok_S : th_ok 4 R_S F_S 5 ty_S := ⟨rfl, List.forall_mem_cons.mpr ⟨k_182, List.forall_mem_cons.mpr ⟨k_184, List.forall_mem_cons.mpr ⟨k_186, List.forall_mem_cons.mpr ⟨k_188, List.forall_mem_cons.mpr ⟨k_190, fun _ h => absurd h List.not_mem_nil⟩⟩⟩⟩⟩, ty_S_ok, n_S⟩
theorem ok_G : th_ok 5 R_G F_G 2 ty_G := ⟨rfl, List.forall_mem_cons.mpr ⟨k_34, List.forall_mem_cons.mpr ⟨k_36, fun _ h => absurd h List.not_mem_nil⟩⟩, ty_G_ok, n_G⟩
theorem ok_M : th_ok 6 R_M F_M 2 ty_M := ⟨rfl, List.forall_mem_cons.mpr ⟨k_197, List.forall_mem_cons.mpr ⟨k_199, fun _ h => absurd h List.not_mem_nil⟩⟩, ty_M_ok, n_M⟩
theorem ok_H : th_ok 7 R_H F_H 5 ty_H := ⟨rfl, List.forall_mem_cons.mpr ⟨k_207, List.forall_mem_cons.mpr ⟨k_209, List.forall_mem_cons.mpr ⟨k_211, List.forall_mem_cons.mpr ⟨k_213, List.forall_mem_cons.mpr ⟨k_215, fun _ h => absurd h List.not_mem_nil⟩⟩⟩⟩⟩, ty_H_ok, n_H⟩
theorem ok_N : th_ok 8 R_N F_N 22 ty_N := ⟨rfl, List.forall_mem_cons.mpr ⟨k_513, List.forall_mem_cons.mpr ⟨k_515, List.forall_mem_cons.mpr ⟨k_517, List.forall_mem_cons.mpr ⟨k_519, List.forall_mem_cons.mpr ⟨k_521, List.forall_mem_cons.mpr ⟨k_523, List.forall_mem_cons.mpr ⟨k_525, List.forall_mem_cons.mpr ⟨k_527, List.forall_mem_cons.mpr ⟨k_529, List.forall_mem_cons.mpr ⟨k_531, List.forall_mem_cons.mpr ⟨k_533, List.forall_mem_cons.mpr ⟨k_535, List.forall_mem_cons.mpr ⟨k_537, List.forall_mem_cons.mpr ⟨k_539, List.forall_mem_cons.mpr ⟨k_541, List.forall_mem_cons.mpr ⟨k_543, List.forall_mem_cons.mpr ⟨k_545, List.forall_mem_cons.mpr ⟨k_547, List.forall_mem_cons.mpr ⟨k_549, List.forall_mem_cons.mpr ⟨k_551, List.forall_mem_cons.mpr ⟨k_553, List.forall_mem_cons.mpr ⟨k_555, fun _ h => absurd h List.not_mem_nil⟩⟩⟩⟩⟩⟩⟩⟩⟩⟩⟩⟩⟩⟩⟩⟩⟩⟩⟩⟩⟩⟩, ty_N_ok, n_N⟩
def dv_T : Nat → Value := fun k => defaultValue (ty_T k)
def dv_B : Nat → Value := fun k => defaultValue (ty_B k)
def dv_P : Nat → Value := fun k => defaultValue (ty_P k)
def dv_L : Nat → Value := fun k => defaultValue (ty_L k)
def dv_S : Nat → Value := fun k => defaultValue (ty_S k)
def dv_G : Nat → Value := fun k => defaultValue (ty_G k)
def dv_M : Nat → Value := fun k => defaultValue (ty_M k)
def dv_H : Nat → Value := fun k => defaultValue (ty_H k)
def dv_N : Nat → Value := fun k => defaultValue (ty_N k)
theorem ln_W_7 : th_ln "TurnHostLaw" 7 7 5 dv_H := ⟨R_H, F_H, ty_H, ok_H, k_11, k_12, k_1, fun j hj => rfl⟩
theorem lc_W_7 : Jvm.Cond.classLink "TurnHostLaw" 7 "TurnHost" ∈ th_tb := k_11
theorem lm_W_15 : th_mi "TurnHostLaw" 15 m_H_init 1 := ⟨⟨⟨by decide +kernel, by decide +kernel, by decide +kernel⟩, by decide +kernel, k_1, k_15⟩, k_13, k_14, rfl, rfl⟩
theorem lo_H_1 : Jvm.Cond.methodLink "TurnHost" 1 Lib.objectInit ∈ th_tb := k_16
theorem ln_H_13 : th_ln "TurnHost" 13 6 2 dv_M := ⟨R_M, F_M, ty_M, ok_M, k_19, k_20, k_2, fun j hj => rfl⟩
theorem lc_H_13 : Jvm.Cond.classLink "TurnHost" 13 "TurnHost$Machine" ∈ th_tb := k_19
theorem lm_H_15 : th_mi "TurnHost" 15 m_M_init 0 := ⟨⟨⟨by decide +kernel, by decide +kernel, by decide +kernel⟩, by decide +kernel, k_2, k_23⟩, k_21, k_22, rfl, rfl⟩
theorem lo_M_3 : Jvm.Cond.methodLink "TurnHost$Machine" 3 Lib.objectInit ∈ th_tb := k_24
theorem ln_M_9 : th_ln "TurnHost$Machine" 9 5 2 dv_G := ⟨R_G, F_G, ty_G, ok_G, k_25, k_26, k_3, fun j hj => rfl⟩
theorem lc_M_9 : Jvm.Cond.classLink "TurnHost$Machine" 9 "TurnHost$Program" ∈ th_tb := k_25
theorem lm_M_11 : th_mi "TurnHost$Machine" 11 m_G_init 0 := ⟨⟨⟨by decide +kernel, by decide +kernel, by decide +kernel⟩, by decide +kernel, k_3, k_29⟩, k_27, k_28, rfl, rfl⟩
theorem lo_G_3 : Jvm.Cond.methodLink "TurnHost$Program" 3 Lib.objectInit ∈ th_tb := k_30
theorem lf_G_9 : th_lf "TurnHost$Program" 9 5 0 := ⟨R_G, F_G, 2, ty_G, ok_G, by decide, k_31⟩
theorem lp_G_9 : th_lpF "TurnHost$Program" 9 5 0 1 := ⟨R_G, F_G, 2, ty_G, ok_G, by decide, k_31, rfl, rfl, (th_fty_a _)⟩
theorem lf_M_46 : th_lf "TurnHost$Machine" 46 5 0 := ⟨R_G, F_G, 2, ty_G, ok_G, by decide, k_32⟩
theorem lf_G_15 : th_lf "TurnHost$Program" 15 5 1 := ⟨R_G, F_G, 2, ty_G, ok_G, by decide, k_33⟩
theorem lp_G_15 : th_lp "TurnHost$Program" 15 5 1 0 := ⟨R_G, F_G, 2, ty_G, ok_G, by decide, k_33, rfl, th_fty_i⟩
theorem ln_M_18 : th_ln "TurnHost$Machine" 18 4 5 dv_S := ⟨R_S, F_S, ty_S, ok_S, k_40, k_41, k_4, fun j hj => rfl⟩
theorem lc_M_18 : Jvm.Cond.classLink "TurnHost$Machine" 18 "TurnHost$Society" ∈ th_tb := k_40
theorem lm_M_20 : th_mi "TurnHost$Machine" 20 m_S_init 0 := ⟨⟨⟨by decide +kernel, by decide +kernel, by decide +kernel⟩, by decide +kernel, k_4, k_44⟩, k_42, k_43, rfl, rfl⟩
theorem lo_S_3 : Jvm.Cond.methodLink "TurnHost$Society" 3 Lib.objectInit ∈ th_tb := k_45
theorem ln_S_9 : th_ln "TurnHost$Society" 9 2 12 dv_P := ⟨R_P, F_P, ty_P, ok_P, k_46, k_48, k_5, fun j hj => rfl⟩
theorem lc_S_9 : Jvm.Cond.classLink "TurnHost$Society" 9 "TurnHost$HostProcess" ∈ th_tb := k_46
theorem lm_S_17 : th_mi "TurnHost$Society" 17 m_P_init 1 := ⟨⟨⟨by decide +kernel, by decide +kernel, by decide +kernel⟩, by decide +kernel, k_5, k_51⟩, k_49, k_50, rfl, rfl⟩
theorem lo_P_3 : Jvm.Cond.methodLink "TurnHost$HostProcess" 3 Lib.objectInit ∈ th_tb := k_52
theorem ln_P_15 : th_ln "TurnHost$HostProcess" 15 0 5 dv_T := ⟨R_T, F_T, ty_T, ok_T, k_53, k_54, k_6, fun j hj => rfl⟩
theorem lc_P_15 : Jvm.Cond.classLink "TurnHost$HostProcess" 15 "TurnHost$Term" ∈ th_tb := k_53
theorem lm_P_17 : th_mi "TurnHost$HostProcess" 17 m_T_init 2 := ⟨⟨⟨by decide +kernel, by decide +kernel, by decide +kernel⟩, by decide +kernel, k_6, k_57⟩, k_55, k_56, rfl, rfl⟩
theorem lo_T_3 : Jvm.Cond.methodLink "TurnHost$Term" 3 Lib.objectInit ∈ th_tb := k_58
theorem lf_T_9 : th_lf "TurnHost$Term" 9 0 0 := ⟨R_T, F_T, 5, ty_T, ok_T, by decide, k_59⟩
theorem lp_T_9 : th_lpF "TurnHost$Term" 9 0 0 0 := ⟨R_T, F_T, 5, ty_T, ok_T, by decide, k_59, rfl, rfl, th_fty_i⟩
theorem lf_M_97 : th_lf "TurnHost$Machine" 97 0 0 := ⟨R_T, F_T, 5, ty_T, ok_T, by decide, k_60⟩
theorem lf_S_47 : th_lf "TurnHost$Society" 47 0 0 := ⟨R_T, F_T, 5, ty_T, ok_T, by decide, k_61⟩
theorem lf_T_15 : th_lf "TurnHost$Term" 15 0 1 := ⟨R_T, F_T, 5, ty_T, ok_T, by decide, k_62⟩
theorem lp_T_15 : th_lpF "TurnHost$Term" 15 0 1 0 := ⟨R_T, F_T, 5, ty_T, ok_T, by decide, k_62, rfl, rfl, th_fty_i⟩
theorem lf_M_87 : th_lf "TurnHost$Machine" 87 0 1 := ⟨R_T, F_T, 5, ty_T, ok_T, by decide, k_63⟩
theorem lf_S_50 : th_lf "TurnHost$Society" 50 0 1 := ⟨R_T, F_T, 5, ty_T, ok_T, by decide, k_64⟩
theorem lf_T_18 : th_lf "TurnHost$Term" 18 0 2 := ⟨R_T, F_T, 5, ty_T, ok_T, by decide, k_65⟩
theorem lp_T_18 : th_lpF "TurnHost$Term" 18 0 2 1 := ⟨R_T, F_T, 5, ty_T, ok_T, by decide, k_65, rfl, rfl, (th_fty_o _)⟩
theorem lf_M_77 : th_lf "TurnHost$Machine" 77 0 2 := ⟨R_T, F_T, 5, ty_T, ok_T, by decide, k_66⟩
theorem lf_T_22 : th_lf "TurnHost$Term" 22 0 3 := ⟨R_T, F_T, 5, ty_T, ok_T, by decide, k_67⟩
theorem lp_T_22 : th_lpF "TurnHost$Term" 22 0 3 1 := ⟨R_T, F_T, 5, ty_T, ok_T, by decide, k_67, rfl, rfl, (th_fty_o _)⟩
theorem lf_M_80 : th_lf "TurnHost$Machine" 80 0 3 := ⟨R_T, F_T, 5, ty_T, ok_T, by decide, k_68⟩
theorem lf_T_25 : th_lf "TurnHost$Term" 25 0 4 := ⟨R_T, F_T, 5, ty_T, ok_T, by decide, k_69⟩
theorem lp_T_25 : th_lpF "TurnHost$Term" 25 0 4 0 := ⟨R_T, F_T, 5, ty_T, ok_T, by decide, k_69, rfl, rfl, th_fty_i⟩
theorem lf_S_114 : th_lf "TurnHost$Society" 114 0 4 := ⟨R_T, F_T, 5, ty_T, ok_T, by decide, k_70⟩
theorem ln_P_32 : th_ln "TurnHost$HostProcess" 32 1 3 dv_B := ⟨R_B, F_B, ty_B, ok_B, k_83, k_84, k_7, fun j hj => rfl⟩
theorem lc_P_32 : Jvm.Cond.classLink "TurnHost$HostProcess" 32 "TurnHost$Mailbox" ∈ th_tb := k_83
theorem lm_P_34 : th_mi "TurnHost$HostProcess" 34 m_B_init 0 := ⟨⟨⟨by decide +kernel, by decide +kernel, by decide +kernel⟩, by decide +kernel, k_7, k_87⟩, k_85, k_86, rfl, rfl⟩
theorem lo_B_3 : Jvm.Cond.methodLink "TurnHost$Mailbox" 3 Lib.objectInit ∈ th_tb := k_88
theorem ln_B_9 : th_ln "TurnHost$Mailbox" 9 0 5 dv_T := ⟨R_T, F_T, ty_T, ok_T, k_89, k_54, k_6, fun j hj => rfl⟩
theorem lc_B_9 : Jvm.Cond.classLink "TurnHost$Mailbox" 9 "TurnHost$Term" ∈ th_tb := k_89
theorem lf_B_11 : th_lf "TurnHost$Mailbox" 11 1 0 := ⟨R_B, F_B, 3, ty_B, ok_B, by decide, k_90⟩
theorem lp_B_11 : th_lpF "TurnHost$Mailbox" 11 1 0 1 := ⟨R_B, F_B, 3, ty_B, ok_B, by decide, k_90, rfl, rfl, (th_fty_a _)⟩
theorem lf_B_17 : th_lf "TurnHost$Mailbox" 17 1 1 := ⟨R_B, F_B, 3, ty_B, ok_B, by decide, k_91⟩
theorem lp_B_17 : th_lp "TurnHost$Mailbox" 17 1 1 0 := ⟨R_B, F_B, 3, ty_B, ok_B, by decide, k_91, rfl, th_fty_i⟩
theorem lf_P_67 : th_lf "TurnHost$HostProcess" 67 1 1 := ⟨R_B, F_B, 3, ty_B, ok_B, by decide, k_92⟩
theorem lp_P_67 : th_lp "TurnHost$HostProcess" 67 1 1 0 := ⟨R_B, F_B, 3, ty_B, ok_B, by decide, k_92, rfl, th_fty_i⟩
theorem lf_B_21 : th_lf "TurnHost$Mailbox" 21 1 2 := ⟨R_B, F_B, 3, ty_B, ok_B, by decide, k_93⟩
theorem lp_B_21 : th_lp "TurnHost$Mailbox" 21 1 2 0 := ⟨R_B, F_B, 3, ty_B, ok_B, by decide, k_93, rfl, th_fty_i⟩
theorem lf_P_64 : th_lf "TurnHost$HostProcess" 64 1 2 := ⟨R_B, F_B, 3, ty_B, ok_B, by decide, k_94⟩
theorem lp_P_64 : th_lp "TurnHost$HostProcess" 64 1 2 0 := ⟨R_B, F_B, 3, ty_B, ok_B, by decide, k_94, rfl, th_fty_i⟩
theorem lf_M_166 : th_lf "TurnHost$Machine" 166 1 2 := ⟨R_B, F_B, 3, ty_B, ok_B, by decide, k_95⟩
theorem lp_M_166 : th_lp "TurnHost$Machine" 166 1 2 0 := ⟨R_B, F_B, 3, ty_B, ok_B, by decide, k_95, rfl, th_fty_i⟩
theorem lf_P_9 : th_lf "TurnHost$HostProcess" 9 2 0 := ⟨R_P, F_P, 12, ty_P, ok_P, by decide, k_103⟩
theorem lp_P_9 : th_lpF "TurnHost$HostProcess" 9 2 0 0 := ⟨R_P, F_P, 12, ty_P, ok_P, by decide, k_103, rfl, rfl, th_fty_i⟩
theorem lf_H_50 : th_lf "TurnHost" 50 2 0 := ⟨R_P, F_P, 12, ty_P, ok_P, by decide, k_104⟩
theorem lf_S_61 : th_lf "TurnHost$Society" 61 2 0 := ⟨R_P, F_P, 12, ty_P, ok_P, by decide, k_105⟩
theorem lf_P_20 : th_lf "TurnHost$HostProcess" 20 2 1 := ⟨R_P, F_P, 12, ty_P, ok_P, by decide, k_106⟩
theorem lp_P_20 : th_lpF "TurnHost$HostProcess" 20 2 1 1 := ⟨R_P, F_P, 12, ty_P, ok_P, by decide, k_106, rfl, rfl, (th_fty_o _)⟩
theorem lf_M_66 : th_lf "TurnHost$Machine" 66 2 1 := ⟨R_P, F_P, 12, ty_P, ok_P, by decide, k_107⟩
theorem lf_S_117 : th_lf "TurnHost$Society" 117 2 1 := ⟨R_P, F_P, 12, ty_P, ok_P, by decide, k_108⟩
theorem lf_P_24 : th_lf "TurnHost$HostProcess" 24 2 2 := ⟨R_P, F_P, 12, ty_P, ok_P, by decide, k_109⟩
theorem lp_P_24 : th_lpF "TurnHost$HostProcess" 24 2 2 1 := ⟨R_P, F_P, 12, ty_P, ok_P, by decide, k_109, rfl, rfl, (th_fty_a _)⟩
theorem lf_M_54 : th_lf "TurnHost$Machine" 54 2 2 := ⟨R_P, F_P, 12, ty_P, ok_P, by decide, k_110⟩
theorem lf_P_28 : th_lf "TurnHost$HostProcess" 28 2 3 := ⟨R_P, F_P, 12, ty_P, ok_P, by decide, k_111⟩
theorem lp_P_28 : th_lpF "TurnHost$HostProcess" 28 2 3 1 := ⟨R_P, F_P, 12, ty_P, ok_P, by decide, k_111, rfl, rfl, (th_fty_a _)⟩
theorem lf_M_160 : th_lf "TurnHost$Machine" 160 2 3 := ⟨R_P, F_P, 12, ty_P, ok_P, by decide, k_112⟩
theorem lf_P_35 : th_lf "TurnHost$HostProcess" 35 2 4 := ⟨R_P, F_P, 12, ty_P, ok_P, by decide, k_113⟩
theorem lp_P_35 : th_lpF "TurnHost$HostProcess" 35 2 4 1 := ⟨R_P, F_P, 12, ty_P, ok_P, by decide, k_113, rfl, rfl, (th_fty_o _)⟩
theorem lf_M_119 : th_lf "TurnHost$Machine" 119 2 4 := ⟨R_P, F_P, 12, ty_P, ok_P, by decide, k_114⟩
theorem lf_S_68 : th_lf "TurnHost$Society" 68 2 4 := ⟨R_P, F_P, 12, ty_P, ok_P, by decide, k_115⟩
theorem lf_P_42 : th_lf "TurnHost$HostProcess" 42 2 5 := ⟨R_P, F_P, 12, ty_P, ok_P, by decide, k_116⟩
theorem lp_P_42 : th_lp "TurnHost$HostProcess" 42 2 5 0 := ⟨R_P, F_P, 12, ty_P, ok_P, by decide, k_116, rfl, th_fty_i⟩
theorem lf_M_157 : th_lf "TurnHost$Machine" 157 2 5 := ⟨R_P, F_P, 12, ty_P, ok_P, by decide, k_117⟩
theorem lp_M_157 : th_lp "TurnHost$Machine" 157 2 5 0 := ⟨R_P, F_P, 12, ty_P, ok_P, by decide, k_117, rfl, th_fty_i⟩
theorem lf_M_31 : th_lf "TurnHost$Machine" 31 2 6 := ⟨R_P, F_P, 12, ty_P, ok_P, by decide, k_118⟩
theorem lp_M_31 : th_lp "TurnHost$Machine" 31 2 6 0 := ⟨R_P, F_P, 12, ty_P, ok_P, by decide, k_118, rfl, th_fty_i⟩
theorem lf_P_45 : th_lf "TurnHost$HostProcess" 45 2 6 := ⟨R_P, F_P, 12, ty_P, ok_P, by decide, k_119⟩
theorem lp_P_45 : th_lp "TurnHost$HostProcess" 45 2 6 0 := ⟨R_P, F_P, 12, ty_P, ok_P, by decide, k_119, rfl, th_fty_i⟩
theorem lf_P_48 : th_lf "TurnHost$HostProcess" 48 2 7 := ⟨R_P, F_P, 12, ty_P, ok_P, by decide, k_120⟩
theorem lp_P_48 : th_lp "TurnHost$HostProcess" 48 2 7 0 := ⟨R_P, F_P, 12, ty_P, ok_P, by decide, k_120, rfl, th_fty_i⟩
theorem lf_S_81 : th_lf "TurnHost$Society" 81 2 7 := ⟨R_P, F_P, 12, ty_P, ok_P, by decide, k_121⟩
theorem lp_S_81 : th_lp "TurnHost$Society" 81 2 7 0 := ⟨R_P, F_P, 12, ty_P, ok_P, by decide, k_121, rfl, th_fty_i⟩
theorem lf_P_51 : th_lf "TurnHost$HostProcess" 51 2 8 := ⟨R_P, F_P, 12, ty_P, ok_P, by decide, k_122⟩
theorem lp_P_51 : th_lp "TurnHost$HostProcess" 51 2 8 2 := ⟨R_P, F_P, 12, ty_P, ok_P, by decide, k_122, rfl, th_fty_b⟩
theorem lf_S_95 : th_lf "TurnHost$Society" 95 2 8 := ⟨R_P, F_P, 12, ty_P, ok_P, by decide, k_123⟩
theorem lp_S_95 : th_lp "TurnHost$Society" 95 2 8 2 := ⟨R_P, F_P, 12, ty_P, ok_P, by decide, k_123, rfl, th_fty_b⟩
theorem lf_M_188 : th_lf "TurnHost$Machine" 188 2 8 := ⟨R_P, F_P, 12, ty_P, ok_P, by decide, k_124⟩
theorem lp_M_188 : th_lp "TurnHost$Machine" 188 2 8 2 := ⟨R_P, F_P, 12, ty_P, ok_P, by decide, k_124, rfl, th_fty_b⟩
theorem lf_P_55 : th_lf "TurnHost$HostProcess" 55 2 9 := ⟨R_P, F_P, 12, ty_P, ok_P, by decide, k_125⟩
theorem lp_P_55 : th_lp "TurnHost$HostProcess" 55 2 9 0 := ⟨R_P, F_P, 12, ty_P, ok_P, by decide, k_125, rfl, th_fty_i⟩
theorem lf_H_59 : th_lf "TurnHost" 59 2 9 := ⟨R_P, F_P, 12, ty_P, ok_P, by decide, k_126⟩
theorem lp_H_59 : th_lp "TurnHost" 59 2 9 0 := ⟨R_P, F_P, 12, ty_P, ok_P, by decide, k_126, rfl, th_fty_i⟩
theorem lf_S_65 : th_lf "TurnHost$Society" 65 2 9 := ⟨R_P, F_P, 12, ty_P, ok_P, by decide, k_127⟩
theorem lp_S_65 : th_lp "TurnHost$Society" 65 2 9 0 := ⟨R_P, F_P, 12, ty_P, ok_P, by decide, k_127, rfl, th_fty_i⟩
theorem lf_M_177 : th_lf "TurnHost$Machine" 177 2 9 := ⟨R_P, F_P, 12, ty_P, ok_P, by decide, k_128⟩
theorem lp_M_177 : th_lp "TurnHost$Machine" 177 2 9 0 := ⟨R_P, F_P, 12, ty_P, ok_P, by decide, k_128, rfl, th_fty_i⟩
theorem lf_P_58 : th_lf "TurnHost$HostProcess" 58 2 10 := ⟨R_P, F_P, 12, ty_P, ok_P, by decide, k_129⟩
theorem lp_P_58 : th_lp "TurnHost$HostProcess" 58 2 10 1 := ⟨R_P, F_P, 12, ty_P, ok_P, by decide, k_129, rfl, (th_fty_o _)⟩
theorem lf_S_84 : th_lf "TurnHost$Society" 84 2 10 := ⟨R_P, F_P, 12, ty_P, ok_P, by decide, k_130⟩
theorem lp_S_84 : th_lp "TurnHost$Society" 84 2 10 1 := ⟨R_P, F_P, 12, ty_P, ok_P, by decide, k_130, rfl, (th_fty_o _)⟩
theorem lf_M_25 : th_lf "TurnHost$Machine" 25 2 11 := ⟨R_P, F_P, 12, ty_P, ok_P, by decide, k_131⟩
theorem lp_M_25 : th_lp "TurnHost$Machine" 25 2 11 0 := ⟨R_P, F_P, 12, ty_P, ok_P, by decide, k_131, rfl, th_fty_i⟩
theorem lf_P_61 : th_lf "TurnHost$HostProcess" 61 2 11 := ⟨R_P, F_P, 12, ty_P, ok_P, by decide, k_132⟩
theorem lp_P_61 : th_lp "TurnHost$HostProcess" 61 2 11 0 := ⟨R_P, F_P, 12, ty_P, ok_P, by decide, k_132, rfl, th_fty_i⟩
theorem ln_S_20 : th_ln "TurnHost$Society" 20 3 2 dv_L := ⟨R_L, F_L, ty_L, ok_L, k_158, k_159, k_8, fun j hj => rfl⟩
theorem lc_S_20 : Jvm.Cond.classLink "TurnHost$Society" 20 "TurnHost$Line" ∈ th_tb := k_158
theorem lm_S_22 : th_mi "TurnHost$Society" 22 m_L_init 0 := ⟨⟨⟨by decide +kernel, by decide +kernel, by decide +kernel⟩, by decide +kernel, k_8, k_162⟩, k_160, k_161, rfl, rfl⟩
theorem lo_L_3 : Jvm.Cond.methodLink "TurnHost$Line" 3 Lib.objectInit ∈ th_tb := k_163
theorem lf_L_9 : th_lf "TurnHost$Line" 9 3 0 := ⟨R_L, F_L, 2, ty_L, ok_L, by decide, k_164⟩
theorem lp_L_9 : th_lpF "TurnHost$Line" 9 3 0 1 := ⟨R_L, F_L, 2, ty_L, ok_L, by decide, k_164, rfl, rfl, (th_fty_a _)⟩
theorem lf_L_15 : th_lf "TurnHost$Line" 15 3 1 := ⟨R_L, F_L, 2, ty_L, ok_L, by decide, k_165⟩
theorem lp_L_15 : th_lp "TurnHost$Line" 15 3 1 0 := ⟨R_L, F_L, 2, ty_L, ok_L, by decide, k_165, rfl, th_fty_i⟩
theorem ln_S_27 : th_ln "TurnHost$Society" 27 0 5 dv_T := ⟨R_T, F_T, ty_T, ok_T, k_171, k_54, k_6, fun j hj => rfl⟩
theorem lc_S_27 : Jvm.Cond.classLink "TurnHost$Society" 27 "TurnHost$Term" ∈ th_tb := k_171
theorem lm_S_29 : th_mi "TurnHost$Society" 29 m_T_init 2 := ⟨⟨⟨by decide +kernel, by decide +kernel, by decide +kernel⟩, by decide +kernel, k_6, k_57⟩, k_172, k_56, rfl, rfl⟩
theorem lf_S_11 : th_lf "TurnHost$Society" 11 4 0 := ⟨R_S, F_S, 5, ty_S, ok_S, by decide, k_173⟩
theorem lp_S_11 : th_lpF "TurnHost$Society" 11 4 0 1 := ⟨R_S, F_S, 5, ty_S, ok_S, by decide, k_173, rfl, rfl, (th_fty_a _)⟩
theorem lf_S_23 : th_lf "TurnHost$Society" 23 4 1 := ⟨R_S, F_S, 5, ty_S, ok_S, by decide, k_174⟩
theorem lp_S_23 : th_lpF "TurnHost$Society" 23 4 1 1 := ⟨R_S, F_S, 5, ty_S, ok_S, by decide, k_174, rfl, rfl, (th_fty_o _)⟩
theorem lf_H_66 : th_lf "TurnHost" 66 4 1 := ⟨R_S, F_S, 5, ty_S, ok_S, by decide, k_175⟩
theorem lf_S_32 : th_lf "TurnHost$Society" 32 4 2 := ⟨R_S, F_S, 5, ty_S, ok_S, by decide, k_176⟩
theorem lp_S_32 : th_lpF "TurnHost$Society" 32 4 2 1 := ⟨R_S, F_S, 5, ty_S, ok_S, by decide, k_176, rfl, rfl, (th_fty_o _)⟩
theorem lf_M_70 : th_lf "TurnHost$Machine" 70 4 2 := ⟨R_S, F_S, 5, ty_S, ok_S, by decide, k_177⟩
theorem lf_S_36 : th_lf "TurnHost$Society" 36 4 3 := ⟨R_S, F_S, 5, ty_S, ok_S, by decide, k_178⟩
theorem lp_S_36 : th_lpF "TurnHost$Society" 36 4 3 1 := ⟨R_S, F_S, 5, ty_S, ok_S, by decide, k_178, rfl, rfl, (th_fty_a _)⟩
theorem lf_M_38 : th_lf "TurnHost$Machine" 38 4 3 := ⟨R_S, F_S, 5, ty_S, ok_S, by decide, k_179⟩
theorem lf_S_40 : th_lf "TurnHost$Society" 40 4 4 := ⟨R_S, F_S, 5, ty_S, ok_S, by decide, k_180⟩
theorem lp_S_40 : th_lp "TurnHost$Society" 40 4 4 0 := ⟨R_S, F_S, 5, ty_S, ok_S, by decide, k_180, rfl, th_fty_i⟩
theorem lf_H_83 : th_lf "TurnHost" 83 4 4 := ⟨R_S, F_S, 5, ty_S, ok_S, by decide, k_181⟩
theorem lp_H_83 : th_lp "TurnHost" 83 4 4 0 := ⟨R_S, F_S, 5, ty_S, ok_S, by decide, k_181, rfl, th_fty_i⟩
theorem lf_M_12 : th_lf "TurnHost$Machine" 12 6 0 := ⟨R_M, F_M, 2, ty_M, ok_M, by decide, k_193⟩
theorem lp_M_12 : th_lpF "TurnHost$Machine" 12 6 0 1 := ⟨R_M, F_M, 2, ty_M, ok_M, by decide, k_193, rfl, rfl, (th_fty_o _)⟩
theorem lf_H_20 : th_lf "TurnHost" 20 6 0 := ⟨R_M, F_M, 2, ty_M, ok_M, by decide, k_194⟩
theorem lf_M_21 : th_lf "TurnHost$Machine" 21 6 1 := ⟨R_M, F_M, 2, ty_M, ok_M, by decide, k_195⟩
theorem lp_M_21 : th_lpF "TurnHost$Machine" 21 6 1 1 := ⟨R_M, F_M, 2, ty_M, ok_M, by decide, k_195, rfl, rfl, (th_fty_o _)⟩
theorem lf_H_25 : th_lf "TurnHost" 25 6 1 := ⟨R_M, F_M, 2, ty_M, ok_M, by decide, k_196⟩
theorem lf_H_9 : th_lf "TurnHost" 9 7 0 := ⟨R_H, F_H, 5, ty_H, ok_H, by decide, k_202⟩
theorem lp_H_9 : th_lpF "TurnHost" 9 7 0 0 := ⟨R_H, F_H, 5, ty_H, ok_H, by decide, k_202, rfl, rfl, th_fty_i⟩
theorem lf_H_16 : th_lf "TurnHost" 16 7 1 := ⟨R_H, F_H, 5, ty_H, ok_H, by decide, k_203⟩
theorem lp_H_16 : th_lpF "TurnHost" 16 7 1 1 := ⟨R_H, F_H, 5, ty_H, ok_H, by decide, k_203, rfl, rfl, (th_fty_o _)⟩
theorem lf_H_24 : th_lf "TurnHost" 24 7 2 := ⟨R_H, F_H, 5, ty_H, ok_H, by decide, k_204⟩
theorem lp_H_24 : th_lpF "TurnHost" 24 7 2 1 := ⟨R_H, F_H, 5, ty_H, ok_H, by decide, k_204, rfl, rfl, (th_fty_o _)⟩
theorem lf_H_29 : th_lf "TurnHost" 29 7 3 := ⟨R_H, F_H, 5, ty_H, ok_H, by decide, k_205⟩
theorem lp_H_29 : th_lpF "TurnHost" 29 7 3 1 := ⟨R_H, F_H, 5, ty_H, ok_H, by decide, k_205, rfl, rfl, (th_fty_o _)⟩
theorem lf_H_30 : th_lf "TurnHost" 30 7 4 := ⟨R_H, F_H, 5, ty_H, ok_H, by decide, k_206⟩
theorem lp_H_30 : th_lp "TurnHost" 30 7 4 0 := ⟨R_H, F_H, 5, ty_H, ok_H, by decide, k_206, rfl, th_fty_i⟩
theorem lm_W_21 : th_mv "TurnHostLaw" 21 m_H_add 4 := ⟨⟨⟨by decide +kernel, by decide +kernel, by decide +kernel⟩, by decide +kernel, k_1, k_221⟩, k_218, k_219, k_220⟩
theorem lm_H_33 : th_mv "TurnHost" 33 m_G_append 4 := ⟨⟨⟨by decide +kernel, by decide +kernel, by decide +kernel⟩, by decide +kernel, k_3, k_225⟩, k_222, k_223, k_224⟩
theorem lm_G_22 : th_ms "TurnHost$Program" 22 m_G_fits 2 := ⟨⟨⟨by decide +kernel, by decide +kernel, by decide +kernel⟩, by decide +kernel, k_3, k_230⟩, k_228, k_229⟩
theorem lm_W_26 : th_mv "TurnHostLaw" 26 m_H_begin 2 := ⟨⟨⟨by decide +kernel, by decide +kernel, by decide +kernel⟩, by decide +kernel, k_1, k_234⟩, k_231, k_232, k_233⟩
theorem ln_H_39 : th_ln "TurnHost" 39 0 5 dv_T := ⟨R_T, F_T, ty_T, ok_T, k_235, k_54, k_6, fun j hj => rfl⟩
theorem lc_H_39 : Jvm.Cond.classLink "TurnHost" 39 "TurnHost$Term" ∈ th_tb := k_235
theorem lm_H_41 : th_mi "TurnHost" 41 m_T_init 2 := ⟨⟨⟨by decide +kernel, by decide +kernel, by decide +kernel⟩, by decide +kernel, k_6, k_57⟩, k_236, k_56, rfl, rfl⟩
theorem lm_H_44 : th_mv "TurnHost" 44 m_S_start 2 := ⟨⟨⟨by decide +kernel, by decide +kernel, by decide +kernel⟩, by decide +kernel, k_4, k_240⟩, k_237, k_238, k_239⟩
theorem lm_S_57 : th_mv "TurnHost$Society" 57 m_P_renew 3 := ⟨⟨⟨by decide +kernel, by decide +kernel, by decide +kernel⟩, by decide +kernel, k_5, k_244⟩, k_241, k_242, k_243⟩
theorem lm_P_39 : th_mv "TurnHost$HostProcess" 39 m_B_empty 0 := ⟨⟨⟨by decide +kernel, by decide +kernel, by decide +kernel⟩, by decide +kernel, k_7, k_248⟩, k_245, k_246, k_247⟩
theorem lm_S_62 : th_mv "TurnHost$Society" 62 m_L_append 1 := ⟨⟨⟨by decide +kernel, by decide +kernel, by decide +kernel⟩, by decide +kernel, k_8, k_252⟩, k_249, k_250, k_251⟩
theorem lm_W_31 : th_mv "TurnHostLaw" 31 m_H_tell 2 := ⟨⟨⟨by decide +kernel, by decide +kernel, by decide +kernel⟩, by decide +kernel, k_1, k_256⟩, k_253, k_254, k_255⟩
theorem lm_H_55 : th_mv "TurnHost" 55 m_S_numbered 1 := ⟨⟨⟨by decide +kernel, by decide +kernel, by decide +kernel⟩, by decide +kernel, k_4, k_260⟩, k_257, k_258, k_259⟩
theorem lm_H_62 : th_mv "TurnHost" 62 m_S_deliver 2 := ⟨⟨⟨by decide +kernel, by decide +kernel, by decide +kernel⟩, by decide +kernel, k_4, k_264⟩, k_261, k_262, k_263⟩
theorem lm_S_72 : th_mv "TurnHost$Society" 72 m_B_put 1 := ⟨⟨⟨by decide +kernel, by decide +kernel, by decide +kernel⟩, by decide +kernel, k_7, k_268⟩, k_265, k_266, k_267⟩
theorem lm_W_36 : th_mv "TurnHostLaw" 36 m_H_run 1 := ⟨⟨⟨by decide +kernel, by decide +kernel, by decide +kernel⟩, by decide +kernel, k_1, k_272⟩, k_269, k_270, k_271⟩
theorem lm_H_70 : th_mv "TurnHost" 70 m_L_at 1 := ⟨⟨⟨by decide +kernel, by decide +kernel, by decide +kernel⟩, by decide +kernel, k_8, k_276⟩, k_273, k_274, k_275⟩
theorem lm_H_76 : th_mv "TurnHost" 76 m_M_reduce 1 := ⟨⟨⟨by decide +kernel, by decide +kernel, by decide +kernel⟩, by decide +kernel, k_2, k_280⟩, k_277, k_278, k_279⟩
theorem lm_M_34 : th_mv "TurnHost$Machine" 34 m_G_reaches 1 := ⟨⟨⟨by decide +kernel, by decide +kernel, by decide +kernel⟩, by decide +kernel, k_3, k_284⟩, k_281, k_282, k_283⟩
theorem lm_M_42 : th_mvN "TurnHost$Machine" 42 m_S_end 2 := ⟨⟨⟨by decide +kernel, by decide +kernel, by decide +kernel⟩, by decide +kernel, k_4, k_288⟩, ⟨"TurnHost", tbl2 (List.mem_of_getElem? (i := 45) rfl)⟩, k_287, tbP (List.mem_append_left _ (List.mem_of_getElem? (i := 0) rfl))⟩
theorem lm_S_78 : th_mv "TurnHost$Society" 78 m_L_leave 1 := ⟨⟨⟨by decide +kernel, by decide +kernel, by decide +kernel⟩, by decide +kernel, k_8, k_292⟩, k_289, k_290, k_291⟩
theorem lm_S_87 : th_mv "TurnHost$Society" 87 m_S_untie 2 := ⟨⟨⟨by decide +kernel, by decide +kernel, by decide +kernel⟩, by decide +kernel, k_4, k_296⟩, k_293, k_295, tbP (List.mem_append_left _ (List.mem_of_getElem? (i := 1) rfl))⟩
theorem lm_S_91 : th_mv "TurnHost$Society" 91 m_S_signal 3 := ⟨⟨⟨by decide +kernel, by decide +kernel, by decide +kernel⟩, by decide +kernel, k_4, k_300⟩, k_297, k_299, tbP (List.mem_append_left _ (List.mem_of_getElem? (i := 2) rfl))⟩
theorem lm_S_99 : th_mv "TurnHost$Society" 99 m_S_exitNotice 2 := ⟨⟨⟨by decide +kernel, by decide +kernel, by decide +kernel⟩, by decide +kernel, k_4, k_304⟩, k_301, k_303, tbP (List.mem_append_left _ (List.mem_of_getElem? (i := 3) rfl))⟩
theorem lm_S_120 : th_mi "TurnHost$Society" 120 m_T_init2 3 := ⟨⟨⟨by decide +kernel, by decide +kernel, by decide +kernel⟩, by decide +kernel, k_6, k_307⟩, k_305, k_306, rfl, rfl⟩
theorem lm_S_103 : th_mv "TurnHost$Society" 103 m_S_deliver 2 := ⟨⟨⟨by decide +kernel, by decide +kernel, by decide +kernel⟩, by decide +kernel, k_4, k_264⟩, k_308, k_262, k_263⟩
theorem lm_S_107 : th_msN "TurnHost$Society" 107 m_T_alike 2 := ⟨⟨⟨by decide +kernel, by decide +kernel, by decide +kernel⟩, by decide +kernel, k_6, k_311⟩, ⟨"TurnHost", tbl2 (List.mem_of_getElem? (i := 69) rfl)⟩, k_310⟩
theorem lm_T_42 : th_mv "TurnHost$Term" 42 m_T_hasParts 0 := ⟨⟨⟨by decide +kernel, by decide +kernel, by decide +kernel⟩, by decide +kernel, k_6, k_315⟩, k_312, k_313, k_314⟩
theorem lm_T_45 : th_ms "TurnHost$Term" 45 m_T_alike 2 := ⟨⟨⟨by decide +kernel, by decide +kernel, by decide +kernel⟩, by decide +kernel, k_6, k_311⟩, k_316, k_310⟩
theorem lm_S_111 : th_mv "TurnHost$Society" 111 m_S_end 2 := ⟨⟨⟨by decide +kernel, by decide +kernel, by decide +kernel⟩, by decide +kernel, k_4, k_288⟩, k_317, k_287, tbP (List.mem_append_left _ (List.mem_of_getElem? (i := 0) rfl))⟩
theorem lm_M_50 : th_mv "TurnHost$Machine" 50 m_M_perform 5 := ⟨⟨⟨by decide +kernel, by decide +kernel, by decide +kernel⟩, by decide +kernel, k_2, k_321⟩, k_318, k_320, tbP (List.mem_append_left _ (List.mem_of_getElem? (i := 4) rfl))⟩
theorem ln_M_57 : th_ln "TurnHost$Machine" 57 0 5 dv_T := ⟨R_T, F_T, ty_T, ok_T, k_322, k_54, k_6, fun j hj => rfl⟩
theorem lc_M_57 : Jvm.Cond.classLink "TurnHost$Machine" 57 "TurnHost$Term" ∈ th_tb := k_322
theorem lm_M_59 : th_mi "TurnHost$Machine" 59 m_T_init 2 := ⟨⟨⟨by decide +kernel, by decide +kernel, by decide +kernel⟩, by decide +kernel, k_6, k_57⟩, k_323, k_56, rfl, rfl⟩
theorem lm_M_62 : th_mv "TurnHost$Machine" 62 m_P_set 2 := ⟨⟨⟨by decide +kernel, by decide +kernel, by decide +kernel⟩, by decide +kernel, k_5, k_327⟩, k_324, k_325, k_326⟩
theorem lm_M_73 : th_ms "TurnHost$Machine" 73 m_T_joined 3 := ⟨⟨⟨by decide +kernel, by decide +kernel, by decide +kernel⟩, by decide +kernel, k_6, k_330⟩, k_328, k_329⟩
theorem ln_T_10 : th_ln "TurnHost$Term" 10 0 5 dv_T := ⟨R_T, F_T, ty_T, ok_T, k_331, k_54, k_6, fun j hj => rfl⟩
theorem lc_T_10 : Jvm.Cond.classLink "TurnHost$Term" 10 "TurnHost$Term" ∈ th_tb := k_331
theorem lm_T_28 : th_mi "TurnHost$Term" 28 m_T_init2 3 := ⟨⟨⟨by decide +kernel, by decide +kernel, by decide +kernel⟩, by decide +kernel, k_6, k_307⟩, k_332, k_306, rfl, rfl⟩
theorem lm_M_83 : th_ms "TurnHost$Machine" 83 m_M_areInts 2 := ⟨⟨⟨by decide +kernel, by decide +kernel, by decide +kernel⟩, by decide +kernel, k_2, k_335⟩, k_333, k_334⟩
theorem lm_M_90 : th_ms "TurnHost$Machine" 90 m_M_goUnless 3 := ⟨⟨⟨by decide +kernel, by decide +kernel, by decide +kernel⟩, by decide +kernel, k_2, k_338⟩, k_336, k_337⟩
theorem lm_M_100 : th_mv "TurnHost$Machine" 100 m_P_goTo 1 := ⟨⟨⟨by decide +kernel, by decide +kernel, by decide +kernel⟩, by decide +kernel, k_5, k_342⟩, k_339, k_340, k_341⟩
theorem lm_M_94 : th_msN "TurnHost$Machine" 94 m_T_alike 2 := ⟨⟨⟨by decide +kernel, by decide +kernel, by decide +kernel⟩, by decide +kernel, k_6, k_311⟩, ⟨"TurnHost", tbl2 (List.mem_of_getElem? (i := 103) rfl)⟩, k_310⟩
theorem lm_M_103 : th_mv "TurnHost$Machine" 103 m_P_pushReturn 0 := ⟨⟨⟨by decide +kernel, by decide +kernel, by decide +kernel⟩, by decide +kernel, k_5, k_347⟩, k_344, k_345, k_346⟩
theorem lm_M_107 : th_mv "TurnHost$Machine" 107 m_M_goBack 1 := ⟨⟨⟨by decide +kernel, by decide +kernel, by decide +kernel⟩, by decide +kernel, k_2, k_351⟩, k_348, k_350, tbP (List.mem_append_left _ (List.mem_of_getElem? (i := 5) rfl))⟩
theorem lm_M_111 : th_mv "TurnHost$Machine" 111 m_S_bearing 1 := ⟨⟨⟨by decide +kernel, by decide +kernel, by decide +kernel⟩, by decide +kernel, k_4, k_355⟩, k_352, k_353, k_354⟩
theorem lm_S_53 : th_mv "TurnHost$Society" 53 m_S_numbered 1 := ⟨⟨⟨by decide +kernel, by decide +kernel, by decide +kernel⟩, by decide +kernel, k_4, k_260⟩, k_356, k_258, k_259⟩
theorem lm_M_115 : th_mv "TurnHost$Machine" 115 m_M_send 2 := ⟨⟨⟨by decide +kernel, by decide +kernel, by decide +kernel⟩, by decide +kernel, k_2, k_360⟩, k_357, k_359, tbP (List.mem_append_left _ (List.mem_of_getElem? (i := 6) rfl))⟩
theorem lm_M_163 : th_mv "TurnHost$Machine" 163 m_S_deliver 2 := ⟨⟨⟨by decide +kernel, by decide +kernel, by decide +kernel⟩, by decide +kernel, k_4, k_264⟩, k_361, k_262, k_263⟩
theorem lm_M_123 : th_mv "TurnHost$Machine" 123 m_B_marked 0 := ⟨⟨⟨by decide +kernel, by decide +kernel, by decide +kernel⟩, by decide +kernel, k_7, k_365⟩, k_362, k_363, k_364⟩
theorem lm_B_24 : th_mv "TurnHost$Mailbox" 24 m_B_at 1 := ⟨⟨⟨by decide +kernel, by decide +kernel, by decide +kernel⟩, by decide +kernel, k_7, k_369⟩, k_366, k_367, k_368⟩
theorem lm_M_129 : th_mv "TurnHost$Machine" 129 m_B_take 0 := ⟨⟨⟨by decide +kernel, by decide +kernel, by decide +kernel⟩, by decide +kernel, k_7, k_373⟩, k_370, k_371, k_372⟩
theorem lm_B_28 : th_mv "TurnHost$Mailbox" 28 m_B_marked 0 := ⟨⟨⟨by decide +kernel, by decide +kernel, by decide +kernel⟩, by decide +kernel, k_7, k_365⟩, k_374, k_363, k_364⟩
theorem lm_M_132 : th_ms "TurnHost$Machine" 132 m_M_passOver 2 := ⟨⟨⟨by decide +kernel, by decide +kernel, by decide +kernel⟩, by decide +kernel, k_2, k_377⟩, k_375, k_376⟩
theorem lm_M_136 : th_mv "TurnHost$Machine" 136 m_M_waitOrGoOn 2 := ⟨⟨⟨by decide +kernel, by decide +kernel, by decide +kernel⟩, by decide +kernel, k_2, k_381⟩, k_378, k_380, tbP (List.mem_append_left _ (List.mem_of_getElem? (i := 7) rfl))⟩
theorem lm_M_169 : th_mv "TurnHost$Machine" 169 m_S_suspend 1 := ⟨⟨⟨by decide +kernel, by decide +kernel, by decide +kernel⟩, by decide +kernel, k_4, k_385⟩, k_382, k_383, k_384⟩
theorem lm_M_139 : th_mv "TurnHost$Machine" 139 m_M_spawn 4 := ⟨⟨⟨by decide +kernel, by decide +kernel, by decide +kernel⟩, by decide +kernel, k_2, k_389⟩, k_386, k_388, tbP (List.mem_append_left _ (List.mem_of_getElem? (i := 8) rfl))⟩
theorem lm_M_173 : th_mv "TurnHost$Machine" 173 m_S_start 2 := ⟨⟨⟨by decide +kernel, by decide +kernel, by decide +kernel⟩, by decide +kernel, k_4, k_240⟩, k_390, k_238, k_239⟩
theorem lm_M_143 : th_mv "TurnHost$Machine" 143 m_M_link 2 := ⟨⟨⟨by decide +kernel, by decide +kernel, by decide +kernel⟩, by decide +kernel, k_2, k_394⟩, k_391, k_393, tbP (List.mem_append_left _ (List.mem_of_getElem? (i := 9) rfl))⟩
theorem lm_M_180 : th_mvN "TurnHost$Machine" 180 m_S_signal 3 := ⟨⟨⟨by decide +kernel, by decide +kernel, by decide +kernel⟩, by decide +kernel, k_4, k_300⟩, ⟨"TurnHost", tbl2 (List.mem_of_getElem? (i := 155) rfl)⟩, k_299, tbP (List.mem_append_left _ (List.mem_of_getElem? (i := 2) rfl))⟩
theorem lm_M_184 : th_mv "TurnHost$Machine" 184 m_S_tie 2 := ⟨⟨⟨by decide +kernel, by decide +kernel, by decide +kernel⟩, by decide +kernel, k_4, k_399⟩, k_396, k_397, k_398⟩
theorem lm_M_147 : th_ms "TurnHost$Machine" 147 m_M_trap 2 := ⟨⟨⟨by decide +kernel, by decide +kernel, by decide +kernel⟩, by decide +kernel, k_2, k_402⟩, k_400, k_401⟩
theorem lm_M_151 : th_mv "TurnHost$Machine" 151 m_M_finish 2 := ⟨⟨⟨by decide +kernel, by decide +kernel, by decide +kernel⟩, by decide +kernel, k_2, k_406⟩, k_403, k_405, tbP (List.mem_append_left _ (List.mem_of_getElem? (i := 10) rfl))⟩
theorem lm_M_154 : th_mv "TurnHost$Machine" 154 m_M_stop 2 := ⟨⟨⟨by decide +kernel, by decide +kernel, by decide +kernel⟩, by decide +kernel, k_2, k_410⟩, k_407, k_409, tbP (List.mem_append_left _ (List.mem_of_getElem? (i := 11) rfl))⟩
theorem lm_H_80 : th_mv "TurnHost" 80 m_H_countInTurn 1 := ⟨⟨⟨by decide +kernel, by decide +kernel, by decide +kernel⟩, by decide +kernel, k_1, k_414⟩, k_411, k_413, tbP (List.mem_append_left _ (List.mem_of_getElem? (i := 12) rfl))⟩
theorem lm_H_111 : th_mv "TurnHost" 111 m_L_leave 1 := ⟨⟨⟨by decide +kernel, by decide +kernel, by decide +kernel⟩, by decide +kernel, k_8, k_292⟩, k_415, k_290, k_291⟩
theorem lm_H_115 : th_mv "TurnHost" 115 m_L_append 1 := ⟨⟨⟨by decide +kernel, by decide +kernel, by decide +kernel⟩, by decide +kernel, k_8, k_252⟩, k_416, k_250, k_251⟩
theorem lm_W_41 : th_mv "TurnHostLaw" 41 m_H_clear 1 := ⟨⟨⟨by decide +kernel, by decide +kernel, by decide +kernel⟩, by decide +kernel, k_1, k_420⟩, k_417, k_418, k_419⟩
theorem lm_H_86 : th_mv "TurnHost" 86 m_S_dissolve 0 := ⟨⟨⟨by decide +kernel, by decide +kernel, by decide +kernel⟩, by decide +kernel, k_4, k_424⟩, k_421, k_422, k_423⟩
theorem lm_S_44 : th_mv "TurnHost$Society" 44 m_L_empty 0 := ⟨⟨⟨by decide +kernel, by decide +kernel, by decide +kernel⟩, by decide +kernel, k_8, k_428⟩, k_425, k_426, k_427⟩
theorem lm_H_89 : th_mv "TurnHost" 89 m_G_wipe 0 := ⟨⟨⟨by decide +kernel, by decide +kernel, by decide +kernel⟩, by decide +kernel, k_3, k_432⟩, k_429, k_430, k_431⟩
theorem lm_W_46 : th_mv "TurnHostLaw" 46 m_H_process 2 := ⟨⟨⟨by decide +kernel, by decide +kernel, by decide +kernel⟩, by decide +kernel, k_1, k_436⟩, k_433, k_434, k_435⟩
theorem lm_H_92 : th_mv "TurnHost" 92 m_P_answer 1 := ⟨⟨⟨by decide +kernel, by decide +kernel, by decide +kernel⟩, by decide +kernel, k_5, k_440⟩, k_437, k_438, k_439⟩
theorem lm_W_50 : th_mv "TurnHostLaw" 50 m_H_queue 1 := ⟨⟨⟨by decide +kernel, by decide +kernel, by decide +kernel⟩, by decide +kernel, k_1, k_444⟩, k_441, k_442, k_443⟩
theorem lm_W_54 : th_mv "TurnHostLaw" 54 m_H_processes 0 := ⟨⟨⟨by decide +kernel, by decide +kernel, by decide +kernel⟩, by decide +kernel, k_1, k_448⟩, k_445, k_446, k_447⟩
theorem lm_W_59 : th_mv "TurnHostLaw" 59 m_H_term 2 := ⟨⟨⟨by decide +kernel, by decide +kernel, by decide +kernel⟩, by decide +kernel, k_1, k_452⟩, k_449, k_450, k_451⟩
theorem lm_H_95 : th_mv "TurnHost" 95 m_H_termOf 2 := ⟨⟨⟨by decide +kernel, by decide +kernel, by decide +kernel⟩, by decide +kernel, k_1, k_456⟩, k_453, k_455, tbP (List.mem_append_left _ (List.mem_of_getElem? (i := 13) rfl))⟩
theorem lm_H_107 : th_mv "TurnHost" 107 m_P_termAt 1 := ⟨⟨⟨by decide +kernel, by decide +kernel, by decide +kernel⟩, by decide +kernel, k_5, k_460⟩, k_457, k_458, k_459⟩
theorem lm_P_70 : th_mv "TurnHost$HostProcess" 70 m_B_at 1 := ⟨⟨⟨by decide +kernel, by decide +kernel, by decide +kernel⟩, by decide +kernel, k_7, k_369⟩, k_461, k_367, k_368⟩
theorem lm_H_99 : th_mv "TurnHost" 99 m_T_summary 0 := ⟨⟨⟨by decide +kernel, by decide +kernel, by decide +kernel⟩, by decide +kernel, k_6, k_465⟩, k_462, k_463, k_464⟩
theorem lm_T_31 : th_mv "TurnHost$Term" 31 m_T_hasNumber 0 := ⟨⟨⟨by decide +kernel, by decide +kernel, by decide +kernel⟩, by decide +kernel, k_6, k_469⟩, k_466, k_467, k_468⟩
theorem lm_T_35 : th_ms "TurnHost$Term" 35 m_J_floorMod 2 := ⟨⟨⟨by decide +kernel, by decide +kernel, by decide +kernel⟩, by decide +kernel, k_10, k_472⟩, k_470, k_471⟩
theorem lk_T_41 : Jvm.Cond.constant "TurnHost$Term" 41 1000000 ∈ th_tb := k_473
theorem lm_W_63 : th_mv "TurnHostLaw" 63 m_H_digest 2 := ⟨⟨⟨by decide +kernel, by decide +kernel, by decide +kernel⟩, by decide +kernel, k_1, k_477⟩, k_474, k_475, k_476⟩
theorem lm_H_103 : th_msN "TurnHost" 103 m_T_mixed 2 := ⟨⟨⟨by decide +kernel, by decide +kernel, by decide +kernel⟩, by decide +kernel, k_6, k_480⟩, ⟨"TurnHost", tbl2 (List.mem_of_getElem? (i := 238) rfl)⟩, k_479⟩
theorem lm_T_49 : th_ms "TurnHost$Term" 49 m_T_mixed 2 := ⟨⟨⟨by decide +kernel, by decide +kernel, by decide +kernel⟩, by decide +kernel, k_6, k_480⟩, k_481, k_479⟩
theorem lm_W_9 : th_ms "TurnHostLaw" 9 m_W_cell 2 := ⟨⟨⟨by decide +kernel, by decide +kernel, by decide +kernel⟩, by decide +kernel, k_0, k_484⟩, k_482, k_483⟩
theorem ln_W_18 : th_ln "TurnHostLaw" 18 8 22 dv_N := ⟨R_N, F_N, ty_N, ok_N, k_485, k_486, k_9, fun j hj => rfl⟩
theorem lc_W_18 : Jvm.Cond.classLink "TurnHostLaw" 18 "TurnHostModel" ∈ th_tb := k_485
theorem lm_W_20 : th_mi "TurnHostLaw" 20 m_N_init 1 := ⟨⟨⟨by decide +kernel, by decide +kernel, by decide +kernel⟩, by decide +kernel, k_9, k_489⟩, k_487, k_488, rfl, rfl⟩
theorem lo_N_1 : Jvm.Cond.methodLink "TurnHostModel" 1 Lib.objectInit ∈ th_tb := k_490
theorem lf_N_62 : th_lf "TurnHostModel" 62 8 0 := ⟨R_N, F_N, 22, ty_N, ok_N, by decide, k_491⟩
theorem lp_N_62 : th_lpF "TurnHostModel" 62 8 0 0 := ⟨R_N, F_N, 22, ty_N, ok_N, by decide, k_491, rfl, rfl, th_fty_i⟩
theorem lf_N_85 : th_lf "TurnHostModel" 85 8 1 := ⟨R_N, F_N, 22, ty_N, ok_N, by decide, k_492⟩
theorem lp_N_85 : th_lp "TurnHostModel" 85 8 1 0 := ⟨R_N, F_N, 22, ty_N, ok_N, by decide, k_492, rfl, th_fty_i⟩
theorem lf_N_7 : th_lf "TurnHostModel" 7 8 2 := ⟨R_N, F_N, 22, ty_N, ok_N, by decide, k_493⟩
theorem lp_N_7 : th_lpF "TurnHostModel" 7 8 2 1 := ⟨R_N, F_N, 22, ty_N, ok_N, by decide, k_493, rfl, rfl, (th_fty_a _)⟩
theorem lf_N_13 : th_lf "TurnHostModel" 13 8 3 := ⟨R_N, F_N, 22, ty_N, ok_N, by decide, k_494⟩
theorem lp_N_13 : th_lpF "TurnHostModel" 13 8 3 1 := ⟨R_N, F_N, 22, ty_N, ok_N, by decide, k_494, rfl, rfl, (th_fty_a _)⟩
theorem lf_N_16 : th_lf "TurnHostModel" 16 8 4 := ⟨R_N, F_N, 22, ty_N, ok_N, by decide, k_495⟩
theorem lp_N_16 : th_lpF "TurnHostModel" 16 8 4 1 := ⟨R_N, F_N, 22, ty_N, ok_N, by decide, k_495, rfl, rfl, (th_fty_a _)⟩
theorem lf_N_19 : th_lf "TurnHostModel" 19 8 5 := ⟨R_N, F_N, 22, ty_N, ok_N, by decide, k_496⟩
theorem lp_N_19 : th_lpF "TurnHostModel" 19 8 5 1 := ⟨R_N, F_N, 22, ty_N, ok_N, by decide, k_496, rfl, rfl, (th_fty_a _)⟩
theorem lf_N_22 : th_lf "TurnHostModel" 22 8 6 := ⟨R_N, F_N, 22, ty_N, ok_N, by decide, k_497⟩
theorem lp_N_22 : th_lpF "TurnHostModel" 22 8 6 1 := ⟨R_N, F_N, 22, ty_N, ok_N, by decide, k_497, rfl, rfl, (th_fty_a _)⟩
theorem lf_N_131 : th_lf "TurnHostModel" 131 8 7 := ⟨R_N, F_N, 22, ty_N, ok_N, by decide, k_498⟩
theorem lp_N_131 : th_lp "TurnHostModel" 131 8 7 0 := ⟨R_N, F_N, 22, ty_N, ok_N, by decide, k_498, rfl, th_fty_i⟩
theorem lf_N_25 : th_lf "TurnHostModel" 25 8 8 := ⟨R_N, F_N, 22, ty_N, ok_N, by decide, k_499⟩
theorem lp_N_25 : th_lpF "TurnHostModel" 25 8 8 1 := ⟨R_N, F_N, 22, ty_N, ok_N, by decide, k_499, rfl, rfl, (th_fty_a _)⟩
theorem lf_N_28 : th_lf "TurnHostModel" 28 8 9 := ⟨R_N, F_N, 22, ty_N, ok_N, by decide, k_500⟩
theorem lp_N_28 : th_lpF "TurnHostModel" 28 8 9 1 := ⟨R_N, F_N, 22, ty_N, ok_N, by decide, k_500, rfl, rfl, (th_fty_a _)⟩
theorem lf_N_31 : th_lf "TurnHostModel" 31 8 10 := ⟨R_N, F_N, 22, ty_N, ok_N, by decide, k_501⟩
theorem lp_N_31 : th_lpF "TurnHostModel" 31 8 10 1 := ⟨R_N, F_N, 22, ty_N, ok_N, by decide, k_501, rfl, rfl, (th_fty_a _)⟩
theorem lf_N_34 : th_lf "TurnHostModel" 34 8 11 := ⟨R_N, F_N, 22, ty_N, ok_N, by decide, k_502⟩
theorem lp_N_34 : th_lpF "TurnHostModel" 34 8 11 1 := ⟨R_N, F_N, 22, ty_N, ok_N, by decide, k_502, rfl, rfl, (th_fty_a _)⟩
theorem lf_N_37 : th_lf "TurnHostModel" 37 8 12 := ⟨R_N, F_N, 22, ty_N, ok_N, by decide, k_503⟩
theorem lp_N_37 : th_lpF "TurnHostModel" 37 8 12 1 := ⟨R_N, F_N, 22, ty_N, ok_N, by decide, k_503, rfl, rfl, (th_fty_a _)⟩
theorem lf_N_40 : th_lf "TurnHostModel" 40 8 13 := ⟨R_N, F_N, 22, ty_N, ok_N, by decide, k_504⟩
theorem lp_N_40 : th_lpF "TurnHostModel" 40 8 13 1 := ⟨R_N, F_N, 22, ty_N, ok_N, by decide, k_504, rfl, rfl, (th_fty_a _)⟩
theorem lf_N_43 : th_lf "TurnHostModel" 43 8 14 := ⟨R_N, F_N, 22, ty_N, ok_N, by decide, k_505⟩
theorem lp_N_43 : th_lpF "TurnHostModel" 43 8 14 1 := ⟨R_N, F_N, 22, ty_N, ok_N, by decide, k_505, rfl, rfl, (th_fty_a _)⟩
theorem lf_N_46 : th_lf "TurnHostModel" 46 8 15 := ⟨R_N, F_N, 22, ty_N, ok_N, by decide, k_506⟩
theorem lp_N_46 : th_lpF "TurnHostModel" 46 8 15 1 := ⟨R_N, F_N, 22, ty_N, ok_N, by decide, k_506, rfl, rfl, (th_fty_a _)⟩
theorem lf_N_50 : th_lf "TurnHostModel" 50 8 16 := ⟨R_N, F_N, 22, ty_N, ok_N, by decide, k_507⟩
theorem lp_N_50 : th_lpF "TurnHostModel" 50 8 16 1 := ⟨R_N, F_N, 22, ty_N, ok_N, by decide, k_507, rfl, rfl, (th_fty_a _)⟩
theorem lf_N_101 : th_lf "TurnHostModel" 101 8 17 := ⟨R_N, F_N, 22, ty_N, ok_N, by decide, k_508⟩
theorem lp_N_101 : th_lp "TurnHostModel" 101 8 17 0 := ⟨R_N, F_N, 22, ty_N, ok_N, by decide, k_508, rfl, th_fty_i⟩
theorem lf_N_53 : th_lf "TurnHostModel" 53 8 18 := ⟨R_N, F_N, 22, ty_N, ok_N, by decide, k_509⟩
theorem lp_N_53 : th_lpF "TurnHostModel" 53 8 18 1 := ⟨R_N, F_N, 22, ty_N, ok_N, by decide, k_509, rfl, rfl, (th_fty_a _)⟩
theorem lf_N_104 : th_lf "TurnHostModel" 104 8 19 := ⟨R_N, F_N, 22, ty_N, ok_N, by decide, k_510⟩
theorem lp_N_104 : th_lp "TurnHostModel" 104 8 19 0 := ⟨R_N, F_N, 22, ty_N, ok_N, by decide, k_510, rfl, th_fty_i⟩
theorem lf_N_56 : th_lf "TurnHostModel" 56 8 20 := ⟨R_N, F_N, 22, ty_N, ok_N, by decide, k_511⟩
theorem lp_N_56 : th_lpF "TurnHostModel" 56 8 20 1 := ⟨R_N, F_N, 22, ty_N, ok_N, by decide, k_511, rfl, rfl, (th_fty_a _)⟩
theorem lf_N_59 : th_lf "TurnHostModel" 59 8 21 := ⟨R_N, F_N, 22, ty_N, ok_N, by decide, k_512⟩
theorem lp_N_59 : th_lpF "TurnHostModel" 59 8 21 1 := ⟨R_N, F_N, 22, ty_N, ok_N, by decide, k_512, rfl, rfl, (th_fty_a _)⟩
theorem lm_W_25 : th_mv "TurnHostLaw" 25 m_N_add 4 := ⟨⟨⟨by decide +kernel, by decide +kernel, by decide +kernel⟩, by decide +kernel, k_9, k_562⟩, k_559, k_560, k_561⟩
theorem lm_N_81 : th_ms "TurnHostModel" 81 m_N_in 3 := ⟨⟨⟨by decide +kernel, by decide +kernel, by decide +kernel⟩, by decide +kernel, k_9, k_565⟩, k_563, k_564⟩
theorem lm_N_88 : th_ms "TurnHostModel" 88 m_N_firstNeeds 1 := ⟨⟨⟨by decide +kernel, by decide +kernel, by decide +kernel⟩, by decide +kernel, k_9, k_568⟩, k_566, k_567⟩
theorem lm_N_91 : th_ms "TurnHostModel" 91 m_N_isRight 2 := ⟨⟨⟨by decide +kernel, by decide +kernel, by decide +kernel⟩, by decide +kernel, k_9, k_571⟩, k_569, k_570⟩
theorem lm_N_95 : th_ms "TurnHostModel" 95 m_N_secondNeeds 1 := ⟨⟨⟨by decide +kernel, by decide +kernel, by decide +kernel⟩, by decide +kernel, k_9, k_574⟩, k_572, k_573⟩
theorem lm_N_98 : th_ms "TurnHostModel" 98 m_N_thirdNeeds 1 := ⟨⟨⟨by decide +kernel, by decide +kernel, by decide +kernel⟩, by decide +kernel, k_9, k_577⟩, k_575, k_576⟩
theorem lm_W_30 : th_mv "TurnHostLaw" 30 m_N_begin 2 := ⟨⟨⟨by decide +kernel, by decide +kernel, by decide +kernel⟩, by decide +kernel, k_9, k_581⟩, k_578, k_579, k_580⟩
theorem lm_N_115 : th_mv "TurnHostModel" 115 m_N_put 3 := ⟨⟨⟨by decide +kernel, by decide +kernel, by decide +kernel⟩, by decide +kernel, k_9, k_585⟩, k_582, k_584, tbP (List.mem_append_left _ (List.mem_of_getElem? (i := 14) rfl))⟩
theorem lm_N_152 : th_mv "TurnHostModel" 152 m_N_start 2 := ⟨⟨⟨by decide +kernel, by decide +kernel, by decide +kernel⟩, by decide +kernel, k_9, k_589⟩, k_586, k_588, tbP (List.mem_append_left _ (List.mem_of_getElem? (i := 15) rfl))⟩
theorem lm_N_107 : th_mv "TurnHostModel" 107 m_N_copy 2 := ⟨⟨⟨by decide +kernel, by decide +kernel, by decide +kernel⟩, by decide +kernel, k_9, k_593⟩, k_590, k_592, tbP (List.mem_append_right _ (List.mem_append_left _ (List.mem_of_getElem? (i := 0) rfl)))⟩
theorem lm_N_111 : th_mv "TurnHostModel" 111 m_N_come 1 := ⟨⟨⟨by decide +kernel, by decide +kernel, by decide +kernel⟩, by decide +kernel, k_9, k_597⟩, k_594, k_596, tbP (List.mem_append_right _ (List.mem_append_left _ (List.mem_of_getElem? (i := 1) rfl)))⟩
theorem lm_W_35 : th_mv "TurnHostLaw" 35 m_N_tell 2 := ⟨⟨⟨by decide +kernel, by decide +kernel, by decide +kernel⟩, by decide +kernel, k_9, k_601⟩, k_598, k_599, k_600⟩
theorem lm_N_122 : th_mv "TurnHostModel" 122 m_N_deliver 2 := ⟨⟨⟨by decide +kernel, by decide +kernel, by decide +kernel⟩, by decide +kernel, k_9, k_605⟩, k_602, k_604, tbP (List.mem_append_right _ (List.mem_append_left _ (List.mem_of_getElem? (i := 2) rfl)))⟩
theorem lm_W_40 : th_mv "TurnHostLaw" 40 m_N_run 1 := ⟨⟨⟨by decide +kernel, by decide +kernel, by decide +kernel⟩, by decide +kernel, k_9, k_609⟩, k_606, k_607, k_608⟩
theorem lm_N_169 : th_mv "TurnHostModel" 169 m_N_step 1 := ⟨⟨⟨by decide +kernel, by decide +kernel, by decide +kernel⟩, by decide +kernel, k_9, k_613⟩, k_610, k_612, tbP (List.mem_append_right _ (List.mem_append_left _ (List.mem_of_getElem? (i := 3) rfl)))⟩
theorem lm_N_155 : th_mv "TurnHostModel" 155 m_N_make 5 := ⟨⟨⟨by decide +kernel, by decide +kernel, by decide +kernel⟩, by decide +kernel, k_9, k_617⟩, k_614, k_616, tbP (List.mem_append_right _ (List.mem_append_left _ (List.mem_of_getElem? (i := 4) rfl)))⟩
theorem lm_N_77 : th_mv "TurnHostModel" 77 m_N_weight 1 := ⟨⟨⟨by decide +kernel, by decide +kernel, by decide +kernel⟩, by decide +kernel, k_9, k_621⟩, k_618, k_620, tbP (List.mem_append_right _ (List.mem_append_left _ (List.mem_of_getElem? (i := 5) rfl)))⟩
theorem lm_N_118 : th_mv "TurnHostModel" 118 m_N_addParts 4 := ⟨⟨⟨by decide +kernel, by decide +kernel, by decide +kernel⟩, by decide +kernel, k_9, k_625⟩, k_622, k_624, tbP (List.mem_append_right _ (List.mem_append_left _ (List.mem_of_getElem? (i := 6) rfl)))⟩
theorem lm_N_66 : th_mv "TurnHostModel" 66 m_N_sortOf 2 := ⟨⟨⟨by decide +kernel, by decide +kernel, by decide +kernel⟩, by decide +kernel, k_9, k_629⟩, k_626, k_628, tbP (List.mem_append_right _ (List.mem_append_left _ (List.mem_of_getElem? (i := 7) rfl)))⟩
theorem lm_N_70 : th_mv "TurnHostModel" 70 m_N_numberOf 2 := ⟨⟨⟨by decide +kernel, by decide +kernel, by decide +kernel⟩, by decide +kernel, k_9, k_633⟩, k_630, k_632, tbP (List.mem_append_right _ (List.mem_append_left _ (List.mem_of_getElem? (i := 8) rfl)))⟩
theorem lm_N_73 : th_mv "TurnHostModel" 73 m_N_append 3 := ⟨⟨⟨by decide +kernel, by decide +kernel, by decide +kernel⟩, by decide +kernel, k_9, k_637⟩, k_634, k_636, tbP (List.mem_append_right _ (List.mem_append_left _ (List.mem_of_getElem? (i := 9) rfl)))⟩
theorem lm_N_140 : th_mv "TurnHostModel" 140 m_N_behind 2 := ⟨⟨⟨by decide +kernel, by decide +kernel, by decide +kernel⟩, by decide +kernel, k_9, k_641⟩, k_638, k_640, tbP (List.mem_append_right _ (List.mem_append_left _ (List.mem_of_getElem? (i := 10) rfl)))⟩
theorem lm_N_159 : th_mv "TurnHostModel" 159 m_N_branch 5 := ⟨⟨⟨by decide +kernel, by decide +kernel, by decide +kernel⟩, by decide +kernel, k_9, k_645⟩, k_642, k_644, tbP (List.mem_append_right _ (List.mem_append_left _ (List.mem_of_getElem? (i := 11) rfl)))⟩
theorem lm_N_143 : th_mv "TurnHostModel" 143 m_N_isSame 2 := ⟨⟨⟨by decide +kernel, by decide +kernel, by decide +kernel⟩, by decide +kernel, k_9, k_649⟩, k_646, k_648, tbP (List.mem_append_right _ (List.mem_append_left _ (List.mem_of_getElem? (i := 12) rfl)))⟩
theorem lm_N_146 : th_mv "TurnHostModel" 146 m_N_endBy 2 := ⟨⟨⟨by decide +kernel, by decide +kernel, by decide +kernel⟩, by decide +kernel, k_9, k_653⟩, k_650, k_652, tbP (List.mem_append_right _ (List.mem_append_left _ (List.mem_of_getElem? (i := 13) rfl)))⟩
theorem lm_N_137 : th_mv "TurnHostModel" 137 m_N_end 2 := ⟨⟨⟨by decide +kernel, by decide +kernel, by decide +kernel⟩, by decide +kernel, k_9, k_657⟩, k_654, k_656, tbP (List.mem_append_right _ (List.mem_append_left _ (List.mem_of_getElem? (i := 14) rfl)))⟩
theorem lm_N_128 : th_mv "TurnHostModel" 128 m_N_stop 2 := ⟨⟨⟨by decide +kernel, by decide +kernel, by decide +kernel⟩, by decide +kernel, k_9, k_661⟩, k_658, k_660, tbP (List.mem_append_right _ (List.mem_append_left _ (List.mem_of_getElem? (i := 15) rfl)))⟩
theorem lm_N_125 : th_mv "TurnHostModel" 125 m_N_leave 1 := ⟨⟨⟨by decide +kernel, by decide +kernel, by decide +kernel⟩, by decide +kernel, k_9, k_665⟩, k_662, k_664, tbP (List.mem_append_right _ (List.mem_append_right _ (List.mem_of_getElem? (i := 0) rfl)))⟩
theorem lm_N_134 : th_mv "TurnHostModel" 134 m_N_signal 3 := ⟨⟨⟨by decide +kernel, by decide +kernel, by decide +kernel⟩, by decide +kernel, k_9, k_669⟩, k_666, k_668, tbP (List.mem_append_right _ (List.mem_append_right _ (List.mem_of_getElem? (i := 1) rfl)))⟩
theorem lm_N_162 : th_mv "TurnHostModel" 162 m_N_mail 4 := ⟨⟨⟨by decide +kernel, by decide +kernel, by decide +kernel⟩, by decide +kernel, k_9, k_673⟩, k_670, k_672, tbP (List.mem_append_right _ (List.mem_append_right _ (List.mem_of_getElem? (i := 2) rfl)))⟩
theorem lm_N_149 : th_mv "TurnHostModel" 149 m_N_named 1 := ⟨⟨⟨by decide +kernel, by decide +kernel, by decide +kernel⟩, by decide +kernel, k_9, k_677⟩, k_674, k_676, tbP (List.mem_append_right _ (List.mem_append_right _ (List.mem_of_getElem? (i := 3) rfl)))⟩
theorem lm_N_166 : th_mv "TurnHostModel" 166 m_N_life 5 := ⟨⟨⟨by decide +kernel, by decide +kernel, by decide +kernel⟩, by decide +kernel, k_9, k_681⟩, k_678, k_680, tbP (List.mem_append_right _ (List.mem_append_right _ (List.mem_of_getElem? (i := 4) rfl)))⟩
theorem lm_W_45 : th_mv "TurnHostLaw" 45 m_N_clear 1 := ⟨⟨⟨by decide +kernel, by decide +kernel, by decide +kernel⟩, by decide +kernel, k_9, k_685⟩, k_682, k_683, k_684⟩
theorem lm_W_49 : th_mv "TurnHostLaw" 49 m_N_process 2 := ⟨⟨⟨by decide +kernel, by decide +kernel, by decide +kernel⟩, by decide +kernel, k_9, k_689⟩, k_686, k_687, k_688⟩
theorem lm_W_53 : th_mv "TurnHostLaw" 53 m_N_queue 1 := ⟨⟨⟨by decide +kernel, by decide +kernel, by decide +kernel⟩, by decide +kernel, k_9, k_693⟩, k_690, k_691, k_692⟩
theorem lm_W_58 : th_mv "TurnHostLaw" 58 m_N_processes 0 := ⟨⟨⟨by decide +kernel, by decide +kernel, by decide +kernel⟩, by decide +kernel, k_9, k_697⟩, k_694, k_695, k_696⟩
theorem lm_W_62 : th_mv "TurnHostLaw" 62 m_N_term 2 := ⟨⟨⟨by decide +kernel, by decide +kernel, by decide +kernel⟩, by decide +kernel, k_9, k_701⟩, k_698, k_699, k_700⟩
theorem lm_N_172 : th_mv "TurnHostModel" 172 m_N_isTerm 2 := ⟨⟨⟨by decide +kernel, by decide +kernel, by decide +kernel⟩, by decide +kernel, k_9, k_705⟩, k_702, k_704, tbP (List.mem_append_right _ (List.mem_append_right _ (List.mem_of_getElem? (i := 5) rfl)))⟩
theorem lk_N_175 : Jvm.Cond.constant "TurnHostModel" 175 1000000 ∈ th_tb := k_706
theorem lm_W_66 : th_mv "TurnHostLaw" 66 m_N_digest 2 := ⟨⟨⟨by decide +kernel, by decide +kernel, by decide +kernel⟩, by decide +kernel, k_9, k_710⟩, k_707, k_708, k_709⟩
