theorem tg_0 : (Jvm.Cond.initialized "SwingUnitsLaw") ∈ zG := zG_of tw_0 rfl
theorem tg_1 : (Jvm.Cond.initialized "SwingUnits") ∈ zG := zG_of tw_1 rfl
theorem tg_2 : (Jvm.Cond.initialized "SwingUnits$Trust") ∈ zG := zG_of tw_2 rfl
theorem tg_3 : (Jvm.Cond.initialized "SwingUnits$Holder") ∈ zG := zG_of tw_3 rfl
theorem tg_4 : (Jvm.Cond.initialized "SwingUnits$Orders") ∈ zG := zG_of tw_4 rfl
theorem tg_5 : (Jvm.Cond.initialized "SwingUnits$LastDay") ∈ zG := zG_of tw_5 rfl
theorem tg_6 : (Jvm.Cond.initialized "SwingUnits$DayEnd") ∈ zG := zG_of tw_6 rfl
theorem tg_7 : (Jvm.Cond.initialized "SwingUnits$Pad") ∈ zG := zG_of tw_7 rfl
theorem tg_8 : (Jvm.Cond.initialized "SwingUnits$History") ∈ zG := zG_of tw_8 rfl
theorem tg_10 : (Jvm.Cond.initialized "java/lang/Math") ∈ zG := zG_of tw_10 rfl
theorem tgv_10 : (Jvm.Cond.classLink "SwingUnitsLaw" (9 : Nat) "SwingUnits") ∈ zG := zG_of tv_10 rfl
theorem tg_12 : (Jvm.Cond.instantiable "SwingUnits" (7 : Nat)) ∈ zG := zG_of tw_12 rfl
theorem tgv_12 : (Jvm.Cond.methodLink "SwingUnitsLaw" (11 : Nat) ({ cls := "SwingUnits", name := "<init>", desc := "()V" } : Jvm.MethodName)) ∈ zG := zG_of tv_12 rfl
theorem tg_14 : (Jvm.Cond.instanceMethod ({ cls := "SwingUnits", name := "<init>", desc := "()V" } : Jvm.MethodName)) ∈ zG := zG_of tw_14 rfl
theorem tg_15 : (Jvm.Cond.code ({ cls := "SwingUnits", name := "<init>", desc := "()V" } : Jvm.MethodName) prog_1_method_1_code (2 : Nat) (Option.none : Option Jvm.ClassFile.FieldType)) ∈ zG := zG_of tw_15 rfl
theorem tg_16 : (Jvm.Cond.methodLink "SwingUnits" (1 : Nat) ({ cls := "java/lang/Object", name := "<init>", desc := "()V" } : Jvm.MethodName)) ∈ zG := zG_of tw_16 rfl
theorem tg_17 : (Jvm.Cond.instanceMethod ({ cls := "java/lang/Object", name := "<init>", desc := "()V" } : Jvm.MethodName)) ∈ zG := zG_of tw_17 rfl
theorem tg_18 : (Jvm.Cond.code ({ cls := "java/lang/Object", name := "<init>", desc := "()V" } : Jvm.MethodName) object_method_1_code (1 : Nat) (Option.none : Option Jvm.ClassFile.FieldType)) ∈ zG := zG_of tw_18 rfl
theorem tg_19 : (Jvm.Cond.classLink "SwingUnits" (7 : Nat) "SwingUnits$Trust") ∈ zG := zG_of tw_19 rfl
theorem tg_20 : (Jvm.Cond.instantiable "SwingUnits$Trust" (11 : Nat)) ∈ zG := zG_of tw_20 rfl
theorem tg_21 : (Jvm.Cond.methodLink "SwingUnits" (9 : Nat) ({ cls := "SwingUnits$Trust", name := "<init>", desc := "()V" } : Jvm.MethodName)) ∈ zG := zG_of tw_21 rfl
theorem tg_22 : (Jvm.Cond.instanceMethod ({ cls := "SwingUnits$Trust", name := "<init>", desc := "()V" } : Jvm.MethodName)) ∈ zG := zG_of tw_22 rfl
theorem tg_23 : (Jvm.Cond.code ({ cls := "SwingUnits$Trust", name := "<init>", desc := "()V" } : Jvm.MethodName) prog_8_method_1_code (2 : Nat) (Option.none : Option Jvm.ClassFile.FieldType)) ∈ zG := zG_of tw_23 rfl
theorem tg_24 : (Jvm.Cond.methodLink "SwingUnits$Trust" (3 : Nat) ({ cls := "java/lang/Object", name := "<init>", desc := "()V" } : Jvm.MethodName)) ∈ zG := zG_of tw_24 rfl
theorem tg_25 : (Jvm.Cond.classLink "SwingUnits$Trust" (19 : Nat) "SwingUnits$Holder") ∈ zG := zG_of tw_25 rfl
theorem tg_27 : (Jvm.Cond.instantiable "SwingUnits$Holder" (7 : Nat)) ∈ zG := zG_of tw_27 rfl
theorem tg_28 : (Jvm.Cond.methodLink "SwingUnits$Trust" (25 : Nat) ({ cls := "SwingUnits$Holder", name := "<init>", desc := "()V" } : Jvm.MethodName)) ∈ zG := zG_of tw_28 rfl
theorem tg_29 : (Jvm.Cond.instanceMethod ({ cls := "SwingUnits$Holder", name := "<init>", desc := "()V" } : Jvm.MethodName)) ∈ zG := zG_of tw_29 rfl
theorem tg_30 : (Jvm.Cond.code ({ cls := "SwingUnits$Holder", name := "<init>", desc := "()V" } : Jvm.MethodName) prog_4_method_1_code (1 : Nat) (Option.none : Option Jvm.ClassFile.FieldType)) ∈ zG := zG_of tw_30 rfl
theorem tg_31 : (Jvm.Cond.methodLink "SwingUnits$Holder" (1 : Nat) ({ cls := "java/lang/Object", name := "<init>", desc := "()V" } : Jvm.MethodName)) ∈ zG := zG_of tw_31 rfl
theorem tg_32 : (Jvm.Cond.fieldLink "SwingUnits$Holder" (7 : Nat) "SwingUnits$Holder" "oldUnits" "J") ∈ zG := zG_of tw_32 rfl
theorem tg_33 : (Jvm.Cond.fieldLink "SwingUnits" (101 : Nat) "SwingUnits$Holder" "oldUnits" "J") ∈ zG := zG_of tw_33 rfl
theorem tg_34 : (Jvm.Cond.fieldLink "SwingUnits$Trust" (139 : Nat) "SwingUnits$Holder" "oldUnits" "J") ∈ zG := zG_of tw_34 rfl
theorem tg_35 : (Jvm.Cond.fieldLink "SwingUnits$Holder" (13 : Nat) "SwingUnits$Holder" "newUnits" "J") ∈ zG := zG_of tw_35 rfl
theorem tg_36 : (Jvm.Cond.fieldLink "SwingUnits$Trust" (73 : Nat) "SwingUnits$Holder" "newUnits" "J") ∈ zG := zG_of tw_36 rfl
theorem tg_37 : (Jvm.Cond.fieldLink "SwingUnits" (105 : Nat) "SwingUnits$Holder" "newUnits" "J") ∈ zG := zG_of tw_37 rfl
theorem tg_38 : (Jvm.Cond.fieldLink "SwingUnits$Holder" (16 : Nat) "SwingUnits$Holder" "bought" "J") ∈ zG := zG_of tw_38 rfl
theorem tg_39 : (Jvm.Cond.fieldLink "SwingUnits" (118 : Nat) "SwingUnits$Holder" "bought" "J") ∈ zG := zG_of tw_39 rfl
theorem tg_40 : (Jvm.Cond.fieldLink "SwingUnits$Trust" (142 : Nat) "SwingUnits$Holder" "bought" "J") ∈ zG := zG_of tw_40 rfl
theorem tg_41 : (Jvm.Cond.fieldLink "SwingUnits$Holder" (19 : Nat) "SwingUnits$Holder" "paid" "J") ∈ zG := zG_of tw_41 rfl
theorem tg_42 : (Jvm.Cond.fieldLink "SwingUnits" (121 : Nat) "SwingUnits$Holder" "paid" "J") ∈ zG := zG_of tw_42 rfl
theorem tg_43 : (Jvm.Cond.fieldLink "SwingUnits$Trust" (145 : Nat) "SwingUnits$Holder" "paid" "J") ∈ zG := zG_of tw_43 rfl
theorem tg_44 : (Jvm.Cond.fieldLink "SwingUnits$Holder" (22 : Nat) "SwingUnits$Holder" "income" "J") ∈ zG := zG_of tw_44 rfl
theorem tg_45 : (Jvm.Cond.fieldLink "SwingUnits" (124 : Nat) "SwingUnits$Holder" "income" "J") ∈ zG := zG_of tw_45 rfl
theorem tg_46 : (Jvm.Cond.fieldLink "SwingUnits$Trust" (127 : Nat) "SwingUnits$Holder" "income" "J") ∈ zG := zG_of tw_46 rfl
theorem tg_47 : (Jvm.Cond.fieldLink "SwingUnits$Holder" (25 : Nat) "SwingUnits$Holder" "evening" "J") ∈ zG := zG_of tw_47 rfl
theorem tg_48 : (Jvm.Cond.fieldLink "SwingUnits" (127 : Nat) "SwingUnits$Holder" "evening" "J") ∈ zG := zG_of tw_48 rfl
theorem tg_49 : (Jvm.Cond.fieldLink "SwingUnits$Trust" (130 : Nat) "SwingUnits$Holder" "evening" "J") ∈ zG := zG_of tw_49 rfl
theorem tg_50 : (Jvm.Cond.fieldLink "SwingUnits$Holder" (28 : Nat) "SwingUnits$Holder" "lots" "J") ∈ zG := zG_of tw_50 rfl
theorem tg_51 : (Jvm.Cond.fieldLink "SwingUnits" (130 : Nat) "SwingUnits$Holder" "lots" "J") ∈ zG := zG_of tw_51 rfl
theorem tg_52 : (Jvm.Cond.fieldLink "SwingUnits$Trust" (113 : Nat) "SwingUnits$Holder" "lots" "J") ∈ zG := zG_of tw_52 rfl
theorem tg_53 : (Jvm.Cond.lays "SwingUnits$Holder" "SwingUnits$Holder" "oldUnits" "J") ∈ zG := zG_of tw_53 rfl
theorem tg_55 : (Jvm.Cond.lays "SwingUnits$Holder" "SwingUnits$Holder" "newUnits" "J") ∈ zG := zG_of tw_55 rfl
theorem tg_57 : (Jvm.Cond.lays "SwingUnits$Holder" "SwingUnits$Holder" "bought" "J") ∈ zG := zG_of tw_57 rfl
theorem tg_59 : (Jvm.Cond.lays "SwingUnits$Holder" "SwingUnits$Holder" "paid" "J") ∈ zG := zG_of tw_59 rfl
theorem tg_61 : (Jvm.Cond.lays "SwingUnits$Holder" "SwingUnits$Holder" "income" "J") ∈ zG := zG_of tw_61 rfl
theorem tg_63 : (Jvm.Cond.lays "SwingUnits$Holder" "SwingUnits$Holder" "evening" "J") ∈ zG := zG_of tw_63 rfl
theorem tg_65 : (Jvm.Cond.lays "SwingUnits$Holder" "SwingUnits$Holder" "lots" "J") ∈ zG := zG_of tw_65 rfl
theorem tg_68 : (Jvm.Cond.arrayClass Jvm.ClassFile.FieldType.int) ∈ zG := zG_of tw_68 rfl
theorem tg_69 : (Jvm.Cond.classLink "SwingUnits$Trust" (26 : Nat) "SwingUnits$Orders") ∈ zG := zG_of tw_69 rfl
theorem tg_70 : (Jvm.Cond.instantiable "SwingUnits$Orders" (4 : Nat)) ∈ zG := zG_of tw_70 rfl
theorem tg_71 : (Jvm.Cond.methodLink "SwingUnits$Trust" (28 : Nat) ({ cls := "SwingUnits$Orders", name := "<init>", desc := "()V" } : Jvm.MethodName)) ∈ zG := zG_of tw_71 rfl
theorem tg_72 : (Jvm.Cond.instanceMethod ({ cls := "SwingUnits$Orders", name := "<init>", desc := "()V" } : Jvm.MethodName)) ∈ zG := zG_of tw_72 rfl
theorem tg_73 : (Jvm.Cond.code ({ cls := "SwingUnits$Orders", name := "<init>", desc := "()V" } : Jvm.MethodName) prog_6_method_1_code (1 : Nat) (Option.none : Option Jvm.ClassFile.FieldType)) ∈ zG := zG_of tw_73 rfl
theorem tg_74 : (Jvm.Cond.methodLink "SwingUnits$Orders" (3 : Nat) ({ cls := "java/lang/Object", name := "<init>", desc := "()V" } : Jvm.MethodName)) ∈ zG := zG_of tw_74 rfl
theorem tg_75 : (Jvm.Cond.fieldLink "SwingUnits$Orders" (21 : Nat) "SwingUnits$Orders" "count" "I") ∈ zG := zG_of tw_75 rfl
theorem tg_76 : (Jvm.Cond.fieldLink "SwingUnits" (160 : Nat) "SwingUnits$Orders" "count" "I") ∈ zG := zG_of tw_76 rfl
theorem tg_77 : (Jvm.Cond.fieldLink "SwingUnits$Orders" (9 : Nat) "SwingUnits$Orders" "holders" "[I") ∈ zG := zG_of tw_77 rfl
theorem tg_78 : (Jvm.Cond.fieldLink "SwingUnits$DayEnd" (140 : Nat) "SwingUnits$Orders" "holders" "[I") ∈ zG := zG_of tw_78 rfl
theorem tg_79 : (Jvm.Cond.fieldLink "SwingUnits" (175 : Nat) "SwingUnits$Orders" "holders" "[I") ∈ zG := zG_of tw_79 rfl
theorem tg_80 : (Jvm.Cond.fieldLink "SwingUnits$Orders" (15 : Nat) "SwingUnits$Orders" "sizes" "[I") ∈ zG := zG_of tw_80 rfl
theorem tg_81 : (Jvm.Cond.fieldLink "SwingUnits$DayEnd" (116 : Nat) "SwingUnits$Orders" "sizes" "[I") ∈ zG := zG_of tw_81 rfl
theorem tg_82 : (Jvm.Cond.fieldLink "SwingUnits" (177 : Nat) "SwingUnits$Orders" "sizes" "[I") ∈ zG := zG_of tw_82 rfl
theorem tg_83 : (Jvm.Cond.fieldLink "SwingUnits$Orders" (18 : Nat) "SwingUnits$Orders" "days" "[I") ∈ zG := zG_of tw_83 rfl
theorem tg_84 : (Jvm.Cond.fieldLink "SwingUnits$DayEnd" (109 : Nat) "SwingUnits$Orders" "days" "[I") ∈ zG := zG_of tw_84 rfl
theorem tg_85 : (Jvm.Cond.fieldLink "SwingUnits" (180 : Nat) "SwingUnits$Orders" "days" "[I") ∈ zG := zG_of tw_85 rfl
theorem tg_86 : (Jvm.Cond.lays "SwingUnits$Orders" "SwingUnits$Orders" "count" "I") ∈ zG := zG_of tw_86 rfl
theorem tg_88 : (Jvm.Cond.laysFinal "SwingUnits$Orders" "SwingUnits$Orders" "holders" "[I") ∈ zG := zG_of tw_88 rfl
theorem tg_90 : (Jvm.Cond.laysFinal "SwingUnits$Orders" "SwingUnits$Orders" "sizes" "[I") ∈ zG := zG_of tw_90 rfl
theorem tg_92 : (Jvm.Cond.laysFinal "SwingUnits$Orders" "SwingUnits$Orders" "days" "[I") ∈ zG := zG_of tw_92 rfl
theorem tg_95 : (Jvm.Cond.classLink "SwingUnits$Trust" (36 : Nat) "SwingUnits$LastDay") ∈ zG := zG_of tw_95 rfl
theorem tg_96 : (Jvm.Cond.instantiable "SwingUnits$LastDay" (8 : Nat)) ∈ zG := zG_of tw_96 rfl
theorem tg_97 : (Jvm.Cond.methodLink "SwingUnits$Trust" (38 : Nat) ({ cls := "SwingUnits$LastDay", name := "<init>", desc := "()V" } : Jvm.MethodName)) ∈ zG := zG_of tw_97 rfl
theorem tg_98 : (Jvm.Cond.instanceMethod ({ cls := "SwingUnits$LastDay", name := "<init>", desc := "()V" } : Jvm.MethodName)) ∈ zG := zG_of tw_98 rfl
theorem tg_99 : (Jvm.Cond.code ({ cls := "SwingUnits$LastDay", name := "<init>", desc := "()V" } : Jvm.MethodName) prog_5_method_1_code (1 : Nat) (Option.none : Option Jvm.ClassFile.FieldType)) ∈ zG := zG_of tw_99 rfl
theorem tg_100 : (Jvm.Cond.methodLink "SwingUnits$LastDay" (1 : Nat) ({ cls := "java/lang/Object", name := "<init>", desc := "()V" } : Jvm.MethodName)) ∈ zG := zG_of tw_100 rfl
theorem tg_101 : (Jvm.Cond.fieldLink "SwingUnits$LastDay" (7 : Nat) "SwingUnits$LastDay" "ended" "Z") ∈ zG := zG_of tw_101 rfl
theorem tg_102 : (Jvm.Cond.fieldLink "SwingUnits" (187 : Nat) "SwingUnits$LastDay" "ended" "Z") ∈ zG := zG_of tw_102 rfl
theorem tg_103 : (Jvm.Cond.fieldLink "SwingUnits$LastDay" (13 : Nat) "SwingUnits$LastDay" "price" "J") ∈ zG := zG_of tw_103 rfl
theorem tg_104 : (Jvm.Cond.fieldLink "SwingUnits" (220 : Nat) "SwingUnits$LastDay" "price" "J") ∈ zG := zG_of tw_104 rfl
theorem tg_105 : (Jvm.Cond.fieldLink "SwingUnits$LastDay" (17 : Nat) "SwingUnits$LastDay" "made" "J") ∈ zG := zG_of tw_105 rfl
theorem tg_106 : (Jvm.Cond.fieldLink "SwingUnits$DayEnd" (160 : Nat) "SwingUnits$LastDay" "made" "J") ∈ zG := zG_of tw_106 rfl
theorem tg_107 : (Jvm.Cond.fieldLink "SwingUnits" (193 : Nat) "SwingUnits$LastDay" "made" "J") ∈ zG := zG_of tw_107 rfl
theorem tg_108 : (Jvm.Cond.fieldLink "SwingUnits$LastDay" (20 : Nat) "SwingUnits$LastDay" "left" "J") ∈ zG := zG_of tw_108 rfl
theorem tg_109 : (Jvm.Cond.fieldLink "SwingUnits$DayEnd" (146 : Nat) "SwingUnits$LastDay" "left" "J") ∈ zG := zG_of tw_109 rfl
theorem tg_110 : (Jvm.Cond.fieldLink "SwingUnits" (196 : Nat) "SwingUnits$LastDay" "left" "J") ∈ zG := zG_of tw_110 rfl
theorem tg_111 : (Jvm.Cond.fieldLink "SwingUnits$LastDay" (23 : Nat) "SwingUnits$LastDay" "stillWaiting" "J") ∈ zG := zG_of tw_111 rfl
theorem tg_112 : (Jvm.Cond.fieldLink "SwingUnits$DayEnd" (149 : Nat) "SwingUnits$LastDay" "stillWaiting" "J") ∈ zG := zG_of tw_112 rfl
theorem tg_113 : (Jvm.Cond.fieldLink "SwingUnits" (205 : Nat) "SwingUnits$LastDay" "stillWaiting" "J") ∈ zG := zG_of tw_113 rfl
theorem tg_114 : (Jvm.Cond.fieldLink "SwingUnits$LastDay" (26 : Nat) "SwingUnits$LastDay" "givenBack" "J") ∈ zG := zG_of tw_114 rfl
theorem tg_115 : (Jvm.Cond.fieldLink "SwingUnits$DayEnd" (154 : Nat) "SwingUnits$LastDay" "givenBack" "J") ∈ zG := zG_of tw_115 rfl
theorem tg_116 : (Jvm.Cond.fieldLink "SwingUnits" (208 : Nat) "SwingUnits$LastDay" "givenBack" "J") ∈ zG := zG_of tw_116 rfl
theorem tg_117 : (Jvm.Cond.fieldLink "SwingUnits$LastDay" (29 : Nat) "SwingUnits$LastDay" "lotsSold" "I") ∈ zG := zG_of tw_117 rfl
theorem tg_118 : (Jvm.Cond.fieldLink "SwingUnits$DayEnd" (126 : Nat) "SwingUnits$LastDay" "lotsSold" "I") ∈ zG := zG_of tw_118 rfl
theorem tg_119 : (Jvm.Cond.fieldLink "SwingUnits" (199 : Nat) "SwingUnits$LastDay" "lotsSold" "I") ∈ zG := zG_of tw_119 rfl
theorem tg_120 : (Jvm.Cond.fieldLink "SwingUnits$LastDay" (33 : Nat) "SwingUnits$LastDay" "swung" "I") ∈ zG := zG_of tw_120 rfl
theorem tg_121 : (Jvm.Cond.fieldLink "SwingUnits" (202 : Nat) "SwingUnits$LastDay" "swung" "I") ∈ zG := zG_of tw_121 rfl
theorem tg_122 : (Jvm.Cond.lays "SwingUnits$LastDay" "SwingUnits$LastDay" "ended" "Z") ∈ zG := zG_of tw_122 rfl
theorem tg_124 : (Jvm.Cond.lays "SwingUnits$LastDay" "SwingUnits$LastDay" "price" "J") ∈ zG := zG_of tw_124 rfl
theorem tg_126 : (Jvm.Cond.lays "SwingUnits$LastDay" "SwingUnits$LastDay" "made" "J") ∈ zG := zG_of tw_126 rfl
theorem tg_128 : (Jvm.Cond.lays "SwingUnits$LastDay" "SwingUnits$LastDay" "left" "J") ∈ zG := zG_of tw_128 rfl
theorem tg_130 : (Jvm.Cond.lays "SwingUnits$LastDay" "SwingUnits$LastDay" "stillWaiting" "J") ∈ zG := zG_of tw_130 rfl
theorem tg_132 : (Jvm.Cond.lays "SwingUnits$LastDay" "SwingUnits$LastDay" "givenBack" "J") ∈ zG := zG_of tw_132 rfl
theorem tg_134 : (Jvm.Cond.lays "SwingUnits$LastDay" "SwingUnits$LastDay" "lotsSold" "I") ∈ zG := zG_of tw_134 rfl
theorem tg_136 : (Jvm.Cond.lays "SwingUnits$LastDay" "SwingUnits$LastDay" "swung" "I") ∈ zG := zG_of tw_136 rfl
theorem tg_139 : (Jvm.Cond.fieldLink "SwingUnits$Trust" (43 : Nat) "SwingUnits$Trust" "cash" "J") ∈ zG := zG_of tw_139 rfl
theorem tg_140 : (Jvm.Cond.fieldLink "SwingUnits$DayEnd" (133 : Nat) "SwingUnits$Trust" "cash" "J") ∈ zG := zG_of tw_140 rfl
theorem tg_141 : (Jvm.Cond.fieldLink "SwingUnits" (133 : Nat) "SwingUnits$Trust" "cash" "J") ∈ zG := zG_of tw_141 rfl
theorem tg_142 : (Jvm.Cond.fieldLink "SwingUnits$Trust" (47 : Nat) "SwingUnits$Trust" "incomePool" "J") ∈ zG := zG_of tw_142 rfl
theorem tg_143 : (Jvm.Cond.fieldLink "SwingUnits" (148 : Nat) "SwingUnits$Trust" "incomePool" "J") ∈ zG := zG_of tw_143 rfl
theorem tg_144 : (Jvm.Cond.fieldLink "SwingUnits$Trust" (50 : Nat) "SwingUnits$Trust" "eveningPool" "J") ∈ zG := zG_of tw_144 rfl
theorem tg_145 : (Jvm.Cond.fieldLink "SwingUnits" (151 : Nat) "SwingUnits$Trust" "eveningPool" "J") ∈ zG := zG_of tw_145 rfl
theorem tg_146 : (Jvm.Cond.fieldLink "SwingUnits$Trust" (53 : Nat) "SwingUnits$Trust" "lots" "I") ∈ zG := zG_of tw_146 rfl
theorem tg_147 : (Jvm.Cond.fieldLink "SwingUnits" (136 : Nat) "SwingUnits$Trust" "lots" "I") ∈ zG := zG_of tw_147 rfl
theorem tg_148 : (Jvm.Cond.fieldLink "SwingUnits$Trust" (9 : Nat) "SwingUnits$Trust" "quote" "I") ∈ zG := zG_of tw_148 rfl
theorem tg_149 : (Jvm.Cond.fieldLink "SwingUnits" (139 : Nat) "SwingUnits$Trust" "quote" "I") ∈ zG := zG_of tw_149 rfl
theorem tg_150 : (Jvm.Cond.fieldLink "SwingUnits$Trust" (56 : Nat) "SwingUnits$Trust" "day" "I") ∈ zG := zG_of tw_150 rfl
theorem tg_151 : (Jvm.Cond.fieldLink "SwingUnits$DayEnd" (39 : Nat) "SwingUnits$Trust" "day" "I") ∈ zG := zG_of tw_151 rfl
theorem tg_152 : (Jvm.Cond.fieldLink "SwingUnits" (154 : Nat) "SwingUnits$Trust" "day" "I") ∈ zG := zG_of tw_152 rfl
theorem tg_153 : (Jvm.Cond.fieldLink "SwingUnits$Trust" (15 : Nat) "SwingUnits$Trust" "settings" "[I") ∈ zG := zG_of tw_153 rfl
theorem tg_154 : (Jvm.Cond.fieldLink "SwingUnits$DayEnd" (84 : Nat) "SwingUnits$Trust" "settings" "[I") ∈ zG := zG_of tw_154 rfl
theorem tg_155 : (Jvm.Cond.fieldLink "SwingUnits" (171 : Nat) "SwingUnits$Trust" "settings" "[I") ∈ zG := zG_of tw_155 rfl
theorem tg_156 : (Jvm.Cond.fieldLink "SwingUnits$Trust" (21 : Nat) "SwingUnits$Trust" "holders" "[LSwingUnits$Holder;") ∈ zG := zG_of tw_156 rfl
theorem tg_157 : (Jvm.Cond.fieldLink "SwingUnits$DayEnd" (136 : Nat) "SwingUnits$Trust" "holders" "[LSwingUnits$Holder;") ∈ zG := zG_of tw_157 rfl
theorem tg_158 : (Jvm.Cond.fieldLink "SwingUnits" (91 : Nat) "SwingUnits$Trust" "holders" "[LSwingUnits$Holder;") ∈ zG := zG_of tw_158 rfl
theorem tg_159 : (Jvm.Cond.fieldLink "SwingUnits$Trust" (29 : Nat) "SwingUnits$Trust" "buying" "LSwingUnits$Orders;") ∈ zG := zG_of tw_159 rfl
theorem tg_160 : (Jvm.Cond.fieldLink "SwingUnits$DayEnd" (57 : Nat) "SwingUnits$Trust" "buying" "LSwingUnits$Orders;") ∈ zG := zG_of tw_160 rfl
theorem tg_161 : (Jvm.Cond.fieldLink "SwingUnits" (157 : Nat) "SwingUnits$Trust" "buying" "LSwingUnits$Orders;") ∈ zG := zG_of tw_161 rfl
theorem tg_162 : (Jvm.Cond.fieldLink "SwingUnits$Trust" (33 : Nat) "SwingUnits$Trust" "leaving" "LSwingUnits$Orders;") ∈ zG := zG_of tw_162 rfl
theorem tg_163 : (Jvm.Cond.fieldLink "SwingUnits$DayEnd" (35 : Nat) "SwingUnits$Trust" "leaving" "LSwingUnits$Orders;") ∈ zG := zG_of tw_163 rfl
theorem tg_164 : (Jvm.Cond.fieldLink "SwingUnits" (108 : Nat) "SwingUnits$Trust" "leaving" "LSwingUnits$Orders;") ∈ zG := zG_of tw_164 rfl
theorem tg_165 : (Jvm.Cond.fieldLink "SwingUnits$Trust" (39 : Nat) "SwingUnits$Trust" "last" "LSwingUnits$LastDay;") ∈ zG := zG_of tw_165 rfl
theorem tg_166 : (Jvm.Cond.fieldLink "SwingUnits$DayEnd" (23 : Nat) "SwingUnits$Trust" "last" "LSwingUnits$LastDay;") ∈ zG := zG_of tw_166 rfl
theorem tg_167 : (Jvm.Cond.fieldLink "SwingUnits" (183 : Nat) "SwingUnits$Trust" "last" "LSwingUnits$LastDay;") ∈ zG := zG_of tw_167 rfl
theorem tg_168 : (Jvm.Cond.lays "SwingUnits$Trust" "SwingUnits$Trust" "cash" "J") ∈ zG := zG_of tw_168 rfl
theorem tg_170 : (Jvm.Cond.lays "SwingUnits$Trust" "SwingUnits$Trust" "incomePool" "J") ∈ zG := zG_of tw_170 rfl
theorem tg_172 : (Jvm.Cond.lays "SwingUnits$Trust" "SwingUnits$Trust" "eveningPool" "J") ∈ zG := zG_of tw_172 rfl
theorem tg_174 : (Jvm.Cond.lays "SwingUnits$Trust" "SwingUnits$Trust" "lots" "I") ∈ zG := zG_of tw_174 rfl
theorem tg_176 : (Jvm.Cond.lays "SwingUnits$Trust" "SwingUnits$Trust" "quote" "I") ∈ zG := zG_of tw_176 rfl
theorem tg_178 : (Jvm.Cond.lays "SwingUnits$Trust" "SwingUnits$Trust" "day" "I") ∈ zG := zG_of tw_178 rfl
theorem tg_180 : (Jvm.Cond.laysFinal "SwingUnits$Trust" "SwingUnits$Trust" "settings" "[I") ∈ zG := zG_of tw_180 rfl
theorem tg_182 : (Jvm.Cond.laysFinal "SwingUnits$Trust" "SwingUnits$Trust" "holders" "[LSwingUnits$Holder;") ∈ zG := zG_of tw_182 rfl
theorem tg_184 : (Jvm.Cond.laysFinal "SwingUnits$Trust" "SwingUnits$Trust" "buying" "LSwingUnits$Orders;") ∈ zG := zG_of tw_184 rfl
theorem tg_186 : (Jvm.Cond.laysFinal "SwingUnits$Trust" "SwingUnits$Trust" "leaving" "LSwingUnits$Orders;") ∈ zG := zG_of tw_186 rfl
theorem tg_188 : (Jvm.Cond.laysFinal "SwingUnits$Trust" "SwingUnits$Trust" "last" "LSwingUnits$LastDay;") ∈ zG := zG_of tw_188 rfl
theorem tg_191 : (Jvm.Cond.classLink "SwingUnits" (19 : Nat) "SwingUnits$DayEnd") ∈ zG := zG_of tw_191 rfl
theorem tg_192 : (Jvm.Cond.instantiable "SwingUnits$DayEnd" (7 : Nat)) ∈ zG := zG_of tw_192 rfl
theorem tg_193 : (Jvm.Cond.methodLink "SwingUnits" (21 : Nat) ({ cls := "SwingUnits$DayEnd", name := "<init>", desc := "()V" } : Jvm.MethodName)) ∈ zG := zG_of tw_193 rfl
theorem tg_194 : (Jvm.Cond.instanceMethod ({ cls := "SwingUnits$DayEnd", name := "<init>", desc := "()V" } : Jvm.MethodName)) ∈ zG := zG_of tw_194 rfl
theorem tg_195 : (Jvm.Cond.code ({ cls := "SwingUnits$DayEnd", name := "<init>", desc := "()V" } : Jvm.MethodName) prog_2_method_1_code (1 : Nat) (Option.none : Option Jvm.ClassFile.FieldType)) ∈ zG := zG_of tw_195 rfl
theorem tg_196 : (Jvm.Cond.methodLink "SwingUnits$DayEnd" (3 : Nat) ({ cls := "java/lang/Object", name := "<init>", desc := "()V" } : Jvm.MethodName)) ∈ zG := zG_of tw_196 rfl
theorem tg_197 : (Jvm.Cond.fieldLink "SwingUnits$DayEnd" (67 : Nat) "SwingUnits$DayEnd" "middle" "J") ∈ zG := zG_of tw_197 rfl
theorem tg_198 : (Jvm.Cond.fieldLink "SwingUnits$DayEnd" (72 : Nat) "SwingUnits$DayEnd" "unitIncome" "J") ∈ zG := zG_of tw_198 rfl
theorem tg_199 : (Jvm.Cond.fieldLink "SwingUnits$DayEnd" (19 : Nat) "SwingUnits$DayEnd" "price" "J") ∈ zG := zG_of tw_199 rfl
theorem tg_200 : (Jvm.Cond.fieldLink "SwingUnits$LastDay" (36 : Nat) "SwingUnits$DayEnd" "price" "J") ∈ zG := zG_of tw_200 rfl
theorem tg_201 : (Jvm.Cond.fieldLink "SwingUnits$LastDay" (40 : Nat) "SwingUnits$DayEnd" "wanted" "J") ∈ zG := zG_of tw_201 rfl
theorem tg_202 : (Jvm.Cond.fieldLink "SwingUnits$DayEnd" (81 : Nat) "SwingUnits$DayEnd" "wanted" "J") ∈ zG := zG_of tw_202 rfl
theorem tg_203 : (Jvm.Cond.fieldLink "SwingUnits$DayEnd" (96 : Nat) "SwingUnits$DayEnd" "allowed" "J") ∈ zG := zG_of tw_203 rfl
theorem tg_204 : (Jvm.Cond.fieldLink "SwingUnits$LastDay" (39 : Nat) "SwingUnits$DayEnd" "swung" "I") ∈ zG := zG_of tw_204 rfl
theorem tg_205 : (Jvm.Cond.fieldLink "SwingUnits$DayEnd" (106 : Nat) "SwingUnits$DayEnd" "swung" "I") ∈ zG := zG_of tw_205 rfl
theorem tg_206 : (Jvm.Cond.fieldLink "SwingUnits$DayEnd" (9 : Nat) "SwingUnits$DayEnd" "shares" "[J") ∈ zG := zG_of tw_206 rfl
theorem tg_207 : (Jvm.Cond.lays "SwingUnits$DayEnd" "SwingUnits$DayEnd" "middle" "J") ∈ zG := zG_of tw_207 rfl
theorem tg_209 : (Jvm.Cond.lays "SwingUnits$DayEnd" "SwingUnits$DayEnd" "unitIncome" "J") ∈ zG := zG_of tw_209 rfl
theorem tg_211 : (Jvm.Cond.lays "SwingUnits$DayEnd" "SwingUnits$DayEnd" "price" "J") ∈ zG := zG_of tw_211 rfl
theorem tg_213 : (Jvm.Cond.lays "SwingUnits$DayEnd" "SwingUnits$DayEnd" "wanted" "J") ∈ zG := zG_of tw_213 rfl
theorem tg_215 : (Jvm.Cond.lays "SwingUnits$DayEnd" "SwingUnits$DayEnd" "allowed" "J") ∈ zG := zG_of tw_215 rfl
theorem tg_217 : (Jvm.Cond.lays "SwingUnits$DayEnd" "SwingUnits$DayEnd" "swung" "I") ∈ zG := zG_of tw_217 rfl
theorem tg_219 : (Jvm.Cond.laysFinal "SwingUnits$DayEnd" "SwingUnits$DayEnd" "shares" "[J") ∈ zG := zG_of tw_219 rfl
theorem tg_222 : (Jvm.Cond.arrayClass Jvm.ClassFile.FieldType.long) ∈ zG := zG_of tw_222 rfl
theorem tg_223 : (Jvm.Cond.classLink "SwingUnits" (26 : Nat) "SwingUnits$Pad") ∈ zG := zG_of tw_223 rfl
theorem tg_224 : (Jvm.Cond.instantiable "SwingUnits$Pad" (7 : Nat)) ∈ zG := zG_of tw_224 rfl
theorem tg_225 : (Jvm.Cond.methodLink "SwingUnits" (28 : Nat) ({ cls := "SwingUnits$Pad", name := "<init>", desc := "()V" } : Jvm.MethodName)) ∈ zG := zG_of tw_225 rfl
theorem tg_226 : (Jvm.Cond.instanceMethod ({ cls := "SwingUnits$Pad", name := "<init>", desc := "()V" } : Jvm.MethodName)) ∈ zG := zG_of tw_226 rfl
theorem tg_227 : (Jvm.Cond.code ({ cls := "SwingUnits$Pad", name := "<init>", desc := "()V" } : Jvm.MethodName) prog_7_method_1_code (1 : Nat) (Option.none : Option Jvm.ClassFile.FieldType)) ∈ zG := zG_of tw_227 rfl
theorem tg_228 : (Jvm.Cond.methodLink "SwingUnits$Pad" (3 : Nat) ({ cls := "java/lang/Object", name := "<init>", desc := "()V" } : Jvm.MethodName)) ∈ zG := zG_of tw_228 rfl
theorem tg_229 : (Jvm.Cond.fieldLink "SwingUnits$Pad" (21 : Nat) "SwingUnits$Pad" "length" "I") ∈ zG := zG_of tw_229 rfl
theorem tg_230 : (Jvm.Cond.fieldLink "SwingUnits" (167 : Nat) "SwingUnits$Pad" "length" "I") ∈ zG := zG_of tw_230 rfl
theorem tg_231 : (Jvm.Cond.fieldLink "SwingUnits$Pad" (9 : Nat) "SwingUnits$Pad" "signs" "[C") ∈ zG := zG_of tw_231 rfl
theorem tg_232 : (Jvm.Cond.fieldLink "SwingUnits$Pad" (25 : Nat) "SwingUnits$Pad" "at" "I") ∈ zG := zG_of tw_232 rfl
theorem tg_233 : (Jvm.Cond.fieldLink "SwingUnits$Pad" (62 : Nat) "SwingUnits$Pad" "holder" "I") ∈ zG := zG_of tw_233 rfl
theorem tg_234 : (Jvm.Cond.fieldLink "SwingUnits" (269 : Nat) "SwingUnits$Pad" "holder" "I") ∈ zG := zG_of tw_234 rfl
theorem tg_235 : (Jvm.Cond.fieldLink "SwingUnits$Pad" (55 : Nat) "SwingUnits$Pad" "number" "I") ∈ zG := zG_of tw_235 rfl
theorem tg_236 : (Jvm.Cond.fieldLink "SwingUnits" (272 : Nat) "SwingUnits$Pad" "number" "I") ∈ zG := zG_of tw_236 rfl
theorem tg_237 : (Jvm.Cond.fieldLink "SwingUnits$Pad" (69 : Nat) "SwingUnits$Pad" "hour" "I") ∈ zG := zG_of tw_237 rfl
theorem tg_238 : (Jvm.Cond.fieldLink "SwingUnits" (275 : Nat) "SwingUnits$Pad" "hour" "I") ∈ zG := zG_of tw_238 rfl
theorem tg_239 : (Jvm.Cond.fieldLink "SwingUnits$Pad" (43 : Nat) "SwingUnits$Pad" "kind" "C") ∈ zG := zG_of tw_239 rfl
theorem tg_240 : (Jvm.Cond.fieldLink "SwingUnits" (265 : Nat) "SwingUnits$Pad" "kind" "C") ∈ zG := zG_of tw_240 rfl
theorem tg_241 : (Jvm.Cond.lays "SwingUnits$Pad" "SwingUnits$Pad" "length" "I") ∈ zG := zG_of tw_241 rfl
theorem tg_243 : (Jvm.Cond.laysFinal "SwingUnits$Pad" "SwingUnits$Pad" "signs" "[C") ∈ zG := zG_of tw_243 rfl
theorem tg_245 : (Jvm.Cond.lays "SwingUnits$Pad" "SwingUnits$Pad" "at" "I") ∈ zG := zG_of tw_245 rfl
theorem tg_247 : (Jvm.Cond.lays "SwingUnits$Pad" "SwingUnits$Pad" "holder" "I") ∈ zG := zG_of tw_247 rfl
theorem tg_249 : (Jvm.Cond.lays "SwingUnits$Pad" "SwingUnits$Pad" "number" "I") ∈ zG := zG_of tw_249 rfl
theorem tg_251 : (Jvm.Cond.lays "SwingUnits$Pad" "SwingUnits$Pad" "hour" "I") ∈ zG := zG_of tw_251 rfl
theorem tg_253 : (Jvm.Cond.lays "SwingUnits$Pad" "SwingUnits$Pad" "kind" "C") ∈ zG := zG_of tw_253 rfl
theorem tg_256 : (Jvm.Cond.arrayClass Jvm.ClassFile.FieldType.char) ∈ zG := zG_of tw_256 rfl
theorem tg_257 : (Jvm.Cond.classLink "SwingUnits" (33 : Nat) "SwingUnits$History") ∈ zG := zG_of tw_257 rfl
theorem tg_258 : (Jvm.Cond.instantiable "SwingUnits$History" (3 : Nat)) ∈ zG := zG_of tw_258 rfl
theorem tg_259 : (Jvm.Cond.methodLink "SwingUnits" (35 : Nat) ({ cls := "SwingUnits$History", name := "<init>", desc := "()V" } : Jvm.MethodName)) ∈ zG := zG_of tw_259 rfl
theorem tg_260 : (Jvm.Cond.instanceMethod ({ cls := "SwingUnits$History", name := "<init>", desc := "()V" } : Jvm.MethodName)) ∈ zG := zG_of tw_260 rfl
theorem tg_261 : (Jvm.Cond.code ({ cls := "SwingUnits$History", name := "<init>", desc := "()V" } : Jvm.MethodName) prog_3_method_1_code (2 : Nat) (Option.none : Option Jvm.ClassFile.FieldType)) ∈ zG := zG_of tw_261 rfl
theorem tg_262 : (Jvm.Cond.methodLink "SwingUnits$History" (3 : Nat) ({ cls := "java/lang/Object", name := "<init>", desc := "()V" } : Jvm.MethodName)) ∈ zG := zG_of tw_262 rfl
theorem tg_263 : (Jvm.Cond.classLink "SwingUnits$History" (9 : Nat) "SwingUnits$Trust") ∈ zG := zG_of tw_263 rfl
theorem tg_265 : (Jvm.Cond.methodLink "SwingUnits$History" (17 : Nat) ({ cls := "SwingUnits$Trust", name := "<init>", desc := "()V" } : Jvm.MethodName)) ∈ zG := zG_of tw_265 rfl
theorem tg_266 : (Jvm.Cond.fieldLink "SwingUnits$History" (11 : Nat) "SwingUnits$History" "states" "[LSwingUnits$Trust;") ∈ zG := zG_of tw_266 rfl
theorem tg_267 : (Jvm.Cond.fieldLink "SwingUnits$History" (18 : Nat) "SwingUnits$History" "first" "I") ∈ zG := zG_of tw_267 rfl
theorem tg_268 : (Jvm.Cond.fieldLink "SwingUnits$History" (22 : Nat) "SwingUnits$History" "count" "I") ∈ zG := zG_of tw_268 rfl
theorem tg_269 : (Jvm.Cond.fieldLink "SwingUnits" (170 : Nat) "SwingUnits$History" "count" "I") ∈ zG := zG_of tw_269 rfl
theorem tg_270 : (Jvm.Cond.laysFinal "SwingUnits$History" "SwingUnits$History" "states" "[LSwingUnits$Trust;") ∈ zG := zG_of tw_270 rfl
theorem tg_272 : (Jvm.Cond.lays "SwingUnits$History" "SwingUnits$History" "first" "I") ∈ zG := zG_of tw_272 rfl
theorem tg_274 : (Jvm.Cond.lays "SwingUnits$History" "SwingUnits$History" "count" "I") ∈ zG := zG_of tw_274 rfl
theorem tg_277 : (Jvm.Cond.fieldLink "SwingUnits" (10 : Nat) "SwingUnits" "trust" "LSwingUnits$Trust;") ∈ zG := zG_of tw_277 rfl
theorem tg_278 : (Jvm.Cond.fieldLink "SwingUnits" (16 : Nat) "SwingUnits" "trial" "LSwingUnits$Trust;") ∈ zG := zG_of tw_278 rfl
theorem tg_279 : (Jvm.Cond.fieldLink "SwingUnits" (22 : Nat) "SwingUnits" "dayEnd" "LSwingUnits$DayEnd;") ∈ zG := zG_of tw_279 rfl
theorem tg_280 : (Jvm.Cond.fieldLink "SwingUnits" (29 : Nat) "SwingUnits" "pad" "LSwingUnits$Pad;") ∈ zG := zG_of tw_280 rfl
theorem tg_281 : (Jvm.Cond.fieldLink "SwingUnits" (36 : Nat) "SwingUnits" "history" "LSwingUnits$History;") ∈ zG := zG_of tw_281 rfl
theorem tg_282 : (Jvm.Cond.fieldLink "SwingUnits" (40 : Nat) "SwingUnits" "slots" "[LSwingUnits$Trust;") ∈ zG := zG_of tw_282 rfl
theorem tg_283 : (Jvm.Cond.fieldLink "SwingUnits" (44 : Nat) "SwingUnits" "saved" "[Z") ∈ zG := zG_of tw_283 rfl
theorem tg_284 : (Jvm.Cond.laysFinal "SwingUnits" "SwingUnits" "trust" "LSwingUnits$Trust;") ∈ zG := zG_of tw_284 rfl
theorem tg_286 : (Jvm.Cond.laysFinal "SwingUnits" "SwingUnits" "trial" "LSwingUnits$Trust;") ∈ zG := zG_of tw_286 rfl
theorem tg_288 : (Jvm.Cond.laysFinal "SwingUnits" "SwingUnits" "dayEnd" "LSwingUnits$DayEnd;") ∈ zG := zG_of tw_288 rfl
theorem tg_290 : (Jvm.Cond.laysFinal "SwingUnits" "SwingUnits" "pad" "LSwingUnits$Pad;") ∈ zG := zG_of tw_290 rfl
theorem tg_292 : (Jvm.Cond.laysFinal "SwingUnits" "SwingUnits" "history" "LSwingUnits$History;") ∈ zG := zG_of tw_292 rfl
theorem tg_294 : (Jvm.Cond.laysFinal "SwingUnits" "SwingUnits" "slots" "[LSwingUnits$Trust;") ∈ zG := zG_of tw_294 rfl
theorem tg_296 : (Jvm.Cond.laysFinal "SwingUnits" "SwingUnits" "saved" "[Z") ∈ zG := zG_of tw_296 rfl
theorem tg_299 : (Jvm.Cond.arrayClass Jvm.ClassFile.FieldType.boolean) ∈ zG := zG_of tw_299 rfl
theorem tgv_299 : (Jvm.Cond.methodLink "SwingUnitsLaw" (26 : Nat) ({ cls := "SwingUnits", name := "set", desc := "(II)I" } : Jvm.MethodName)) ∈ zG := zG_of tv_299 rfl
theorem tg_301 : (Jvm.Cond.instanceMethod ({ cls := "SwingUnits", name := "set", desc := "(II)I" } : Jvm.MethodName)) ∈ zG := zG_of tw_301 rfl
theorem tg_302 : (Jvm.Cond.selects "SwingUnits" ({ cls := "SwingUnits", name := "set", desc := "(II)I" } : Jvm.MethodName) ({ cls := "SwingUnits", name := "set", desc := "(II)I" } : Jvm.MethodName)) ∈ zG := zG_of tw_302 rfl
theorem tg_303 : (Jvm.Cond.code ({ cls := "SwingUnits", name := "set", desc := "(II)I" } : Jvm.MethodName) prog_1_method_2_code (3 : Nat) (Option.some Jvm.ClassFile.FieldType.int)) ∈ zG := zG_of tw_303 rfl
theorem tg_304 : (Jvm.Cond.methodLink "SwingUnits" (48 : Nat) ({ cls := "SwingUnits$History", name := "hold", desc := "(LSwingUnits$Trust;)V" } : Jvm.MethodName)) ∈ zG := zG_of tw_304 rfl
theorem tg_305 : (Jvm.Cond.instanceMethod ({ cls := "SwingUnits$History", name := "hold", desc := "(LSwingUnits$Trust;)V" } : Jvm.MethodName)) ∈ zG := zG_of tw_305 rfl
theorem tg_306 : (Jvm.Cond.selects "SwingUnits$History" ({ cls := "SwingUnits$History", name := "hold", desc := "(LSwingUnits$Trust;)V" } : Jvm.MethodName) ({ cls := "SwingUnits$History", name := "hold", desc := "(LSwingUnits$Trust;)V" } : Jvm.MethodName)) ∈ zG := zG_of tw_306 rfl
theorem tg_307 : (Jvm.Cond.code ({ cls := "SwingUnits$History", name := "hold", desc := "(LSwingUnits$Trust;)V" } : Jvm.MethodName) prog_3_method_2_code (2 : Nat) (Option.none : Option Jvm.ClassFile.FieldType)) ∈ zG := zG_of tw_307 rfl
theorem tg_308 : (Jvm.Cond.methodLink "SwingUnits$History" (25 : Nat) ({ cls := "SwingUnits$Trust", name := "become", desc := "(LSwingUnits$Trust;)V" } : Jvm.MethodName)) ∈ zG := zG_of tw_308 rfl
theorem tg_309 : (Jvm.Cond.instanceMethod ({ cls := "SwingUnits$Trust", name := "become", desc := "(LSwingUnits$Trust;)V" } : Jvm.MethodName)) ∈ zG := zG_of tw_309 rfl
theorem tg_310 : (Jvm.Cond.selects "SwingUnits$Trust" ({ cls := "SwingUnits$Trust", name := "become", desc := "(LSwingUnits$Trust;)V" } : Jvm.MethodName) ({ cls := "SwingUnits$Trust", name := "become", desc := "(LSwingUnits$Trust;)V" } : Jvm.MethodName)) ∈ zG := zG_of tw_310 rfl
theorem tg_311 : (Jvm.Cond.code ({ cls := "SwingUnits$Trust", name := "become", desc := "(LSwingUnits$Trust;)V" } : Jvm.MethodName) prog_8_method_2_code (3 : Nat) (Option.none : Option Jvm.ClassFile.FieldType)) ∈ zG := zG_of tw_311 rfl
theorem tg_312 : (Jvm.Cond.methodLink "SwingUnits$Trust" (59 : Nat) ({ cls := "SwingUnits$Holder", name := "become", desc := "(LSwingUnits$Holder;)V" } : Jvm.MethodName)) ∈ zG := zG_of tw_312 rfl
theorem tg_313 : (Jvm.Cond.instanceMethod ({ cls := "SwingUnits$Holder", name := "become", desc := "(LSwingUnits$Holder;)V" } : Jvm.MethodName)) ∈ zG := zG_of tw_313 rfl
theorem tg_314 : (Jvm.Cond.selects "SwingUnits$Holder" ({ cls := "SwingUnits$Holder", name := "become", desc := "(LSwingUnits$Holder;)V" } : Jvm.MethodName) ({ cls := "SwingUnits$Holder", name := "become", desc := "(LSwingUnits$Holder;)V" } : Jvm.MethodName)) ∈ zG := zG_of tw_314 rfl
theorem tg_315 : (Jvm.Cond.code ({ cls := "SwingUnits$Holder", name := "become", desc := "(LSwingUnits$Holder;)V" } : Jvm.MethodName) prog_4_method_2_code (2 : Nat) (Option.none : Option Jvm.ClassFile.FieldType)) ∈ zG := zG_of tw_315 rfl
theorem tg_316 : (Jvm.Cond.methodLink "SwingUnits$Trust" (63 : Nat) ({ cls := "SwingUnits$Orders", name := "become", desc := "(LSwingUnits$Orders;)V" } : Jvm.MethodName)) ∈ zG := zG_of tw_316 rfl
theorem tg_317 : (Jvm.Cond.instanceMethod ({ cls := "SwingUnits$Orders", name := "become", desc := "(LSwingUnits$Orders;)V" } : Jvm.MethodName)) ∈ zG := zG_of tw_317 rfl
theorem tg_318 : (Jvm.Cond.selects "SwingUnits$Orders" ({ cls := "SwingUnits$Orders", name := "become", desc := "(LSwingUnits$Orders;)V" } : Jvm.MethodName) ({ cls := "SwingUnits$Orders", name := "become", desc := "(LSwingUnits$Orders;)V" } : Jvm.MethodName)) ∈ zG := zG_of tw_318 rfl
theorem tg_319 : (Jvm.Cond.code ({ cls := "SwingUnits$Orders", name := "become", desc := "(LSwingUnits$Orders;)V" } : Jvm.MethodName) prog_6_method_2_code (3 : Nat) (Option.none : Option Jvm.ClassFile.FieldType)) ∈ zG := zG_of tw_319 rfl
theorem tg_320 : (Jvm.Cond.methodLink "SwingUnits$Orders" (25 : Nat) ({ cls := "SwingUnits$Orders", name := "write", desc := "(IIII)V" } : Jvm.MethodName)) ∈ zG := zG_of tw_320 rfl
theorem tg_322 : (Jvm.Cond.instanceMethod ({ cls := "SwingUnits$Orders", name := "write", desc := "(IIII)V" } : Jvm.MethodName)) ∈ zG := zG_of tw_322 rfl
theorem tg_323 : (Jvm.Cond.code ({ cls := "SwingUnits$Orders", name := "write", desc := "(IIII)V" } : Jvm.MethodName) prog_6_method_5_code (5 : Nat) (Option.none : Option Jvm.ClassFile.FieldType)) ∈ zG := zG_of tw_323 rfl
theorem tg_324 : (Jvm.Cond.methodLink "SwingUnits$Trust" (66 : Nat) ({ cls := "SwingUnits$LastDay", name := "become", desc := "(LSwingUnits$LastDay;)V" } : Jvm.MethodName)) ∈ zG := zG_of tw_324 rfl
theorem tg_325 : (Jvm.Cond.instanceMethod ({ cls := "SwingUnits$LastDay", name := "become", desc := "(LSwingUnits$LastDay;)V" } : Jvm.MethodName)) ∈ zG := zG_of tw_325 rfl
theorem tg_326 : (Jvm.Cond.selects "SwingUnits$LastDay" ({ cls := "SwingUnits$LastDay", name := "become", desc := "(LSwingUnits$LastDay;)V" } : Jvm.MethodName) ({ cls := "SwingUnits$LastDay", name := "become", desc := "(LSwingUnits$LastDay;)V" } : Jvm.MethodName)) ∈ zG := zG_of tw_326 rfl
theorem tg_327 : (Jvm.Cond.code ({ cls := "SwingUnits$LastDay", name := "become", desc := "(LSwingUnits$LastDay;)V" } : Jvm.MethodName) prog_5_method_2_code (2 : Nat) (Option.none : Option Jvm.ClassFile.FieldType)) ∈ zG := zG_of tw_327 rfl
theorem tg_328 : (Jvm.Cond.methodLink "SwingUnits" (52 : Nat) ({ cls := "SwingUnits$Trust", name := "changeSetting", desc := "(II)I" } : Jvm.MethodName)) ∈ zG := zG_of tw_328 rfl
theorem tg_329 : (Jvm.Cond.instanceMethod ({ cls := "SwingUnits$Trust", name := "changeSetting", desc := "(II)I" } : Jvm.MethodName)) ∈ zG := zG_of tw_329 rfl
theorem tg_330 : (Jvm.Cond.selects "SwingUnits$Trust" ({ cls := "SwingUnits$Trust", name := "changeSetting", desc := "(II)I" } : Jvm.MethodName) ({ cls := "SwingUnits$Trust", name := "changeSetting", desc := "(II)I" } : Jvm.MethodName)) ∈ zG := zG_of tw_330 rfl
theorem tg_331 : (Jvm.Cond.code ({ cls := "SwingUnits$Trust", name := "changeSetting", desc := "(II)I" } : Jvm.MethodName) prog_8_method_9_code (4 : Nat) (Option.some Jvm.ClassFile.FieldType.int)) ∈ zG := zG_of tw_331 rfl
theorem tg_334 : (Jvm.Cond.methodLink "SwingUnits" (56 : Nat) ({ cls := "SwingUnits$History", name := "keep", desc := "(I)I" } : Jvm.MethodName)) ∈ zG := zG_of tw_334 rfl
theorem tg_335 : (Jvm.Cond.instanceMethod ({ cls := "SwingUnits$History", name := "keep", desc := "(I)I" } : Jvm.MethodName)) ∈ zG := zG_of tw_335 rfl
theorem tg_336 : (Jvm.Cond.selects "SwingUnits$History" ({ cls := "SwingUnits$History", name := "keep", desc := "(I)I" } : Jvm.MethodName) ({ cls := "SwingUnits$History", name := "keep", desc := "(I)I" } : Jvm.MethodName)) ∈ zG := zG_of tw_336 rfl
theorem tg_337 : (Jvm.Cond.code ({ cls := "SwingUnits$History", name := "keep", desc := "(I)I" } : Jvm.MethodName) prog_3_method_3_code (2 : Nat) (Option.some Jvm.ClassFile.FieldType.int)) ∈ zG := zG_of tw_337 rfl
theorem tgv_337 : (Jvm.Cond.methodLink "SwingUnitsLaw" (12 : Nat) ({ cls := "SwingUnitsLaw", name := "cell", desc := "([II)I" } : Jvm.MethodName)) ∈ zG := zG_of tv_337 rfl
theorem tgv_338 : (Jvm.Cond.static ({ cls := "SwingUnitsLaw", name := "cell", desc := "([II)I" } : Jvm.MethodName)) ∈ zG := zG_of tv_338 rfl
theorem tgv_339 : (Jvm.Cond.code ({ cls := "SwingUnitsLaw", name := "cell", desc := "([II)I" } : Jvm.MethodName) method_2_code (2 : Nat) (Option.some Jvm.ClassFile.FieldType.int)) ∈ zG := zG_of tv_339 rfl
theorem tgv_340 : (Jvm.Cond.constant "SwingUnitsLaw" (7 : Nat) (73244475 : Int32)) ∈ zG := zG_of tv_340 rfl
theorem tgv_341 : (Jvm.Cond.methodLink "SwingUnitsLaw" (22 : Nat) ({ cls := "SwingUnitsLaw", name := "up", desc := "(II)I" } : Jvm.MethodName)) ∈ zG := zG_of tv_341 rfl
theorem tgv_342 : (Jvm.Cond.static ({ cls := "SwingUnitsLaw", name := "up", desc := "(II)I" } : Jvm.MethodName)) ∈ zG := zG_of tv_342 rfl
theorem tgv_343 : (Jvm.Cond.code ({ cls := "SwingUnitsLaw", name := "up", desc := "(II)I" } : Jvm.MethodName) method_3_code (2 : Nat) (Option.some Jvm.ClassFile.FieldType.int)) ∈ zG := zG_of tv_343 rfl
theorem tgv_344 : (Jvm.Cond.constant "SwingUnitsLaw" (8 : Nat) (2147483647 : Int32)) ∈ zG := zG_of tv_344 rfl
theorem tgv_345 : (Jvm.Cond.methodLink "SwingUnitsLaw" (29 : Nat) ({ cls := "SwingUnitsLaw", name := "act", desc := "(LSwingUnits;III)Z" } : Jvm.MethodName)) ∈ zG := zG_of tv_345 rfl
theorem tgv_346 : (Jvm.Cond.static ({ cls := "SwingUnitsLaw", name := "act", desc := "(LSwingUnits;III)Z" } : Jvm.MethodName)) ∈ zG := zG_of tv_346 rfl
theorem tgv_347 : (Jvm.Cond.code ({ cls := "SwingUnitsLaw", name := "act", desc := "(LSwingUnits;III)Z" } : Jvm.MethodName) method_8_code (20 : Nat) (Option.some Jvm.ClassFile.FieldType.boolean)) ∈ zG := zG_of tv_347 rfl
theorem tgv_348 : (Jvm.Cond.methodLink "SwingUnitsLaw" (50 : Nat) ({ cls := "SwingUnits", name := "count", desc := "(I)I" } : Jvm.MethodName)) ∈ zG := zG_of tv_348 rfl
theorem tg_537 : (Jvm.Cond.instanceMethod ({ cls := "SwingUnits", name := "count", desc := "(I)I" } : Jvm.MethodName)) ∈ zG := zG_of tw_537 rfl
theorem tg_538 : (Jvm.Cond.selects "SwingUnits" ({ cls := "SwingUnits", name := "count", desc := "(I)I" } : Jvm.MethodName) ({ cls := "SwingUnits", name := "count", desc := "(I)I" } : Jvm.MethodName)) ∈ zG := zG_of tw_538 rfl
theorem tg_539 : (Jvm.Cond.code ({ cls := "SwingUnits", name := "count", desc := "(I)I" } : Jvm.MethodName) prog_1_method_12_code (2 : Nat) (Option.some Jvm.ClassFile.FieldType.int)) ∈ zG := zG_of tw_539 rfl
theorem tg_540 : (Jvm.Cond.methodLink "SwingUnits" (142 : Nat) ({ cls := "SwingUnits$Trust", name := "value", desc := "()J" } : Jvm.MethodName)) ∈ zG := zG_of tw_540 rfl
theorem tg_434 : (Jvm.Cond.instanceMethod ({ cls := "SwingUnits$Trust", name := "value", desc := "()J" } : Jvm.MethodName)) ∈ zG := zG_of tw_434 rfl
theorem tg_435 : (Jvm.Cond.selects "SwingUnits$Trust" ({ cls := "SwingUnits$Trust", name := "value", desc := "()J" } : Jvm.MethodName) ({ cls := "SwingUnits$Trust", name := "value", desc := "()J" } : Jvm.MethodName)) ∈ zG := zG_of tw_435 rfl
theorem tg_436 : (Jvm.Cond.code ({ cls := "SwingUnits$Trust", name := "value", desc := "()J" } : Jvm.MethodName) prog_8_method_3_code (1 : Nat) (Option.some Jvm.ClassFile.FieldType.long)) ∈ zG := zG_of tw_436 rfl
theorem tg_541 : (Jvm.Cond.methodLink "SwingUnits" (145 : Nat) ({ cls := "SwingUnits$Trust", name := "units", desc := "()J" } : Jvm.MethodName)) ∈ zG := zG_of tw_541 rfl
theorem tg_395 : (Jvm.Cond.instanceMethod ({ cls := "SwingUnits$Trust", name := "units", desc := "()J" } : Jvm.MethodName)) ∈ zG := zG_of tw_395 rfl
theorem tg_396 : (Jvm.Cond.selects "SwingUnits$Trust" ({ cls := "SwingUnits$Trust", name := "units", desc := "()J" } : Jvm.MethodName) ({ cls := "SwingUnits$Trust", name := "units", desc := "()J" } : Jvm.MethodName)) ∈ zG := zG_of tw_396 rfl
theorem tg_397 : (Jvm.Cond.code ({ cls := "SwingUnits$Trust", name := "units", desc := "()J" } : Jvm.MethodName) prog_8_method_4_code (4 : Nat) (Option.some Jvm.ClassFile.FieldType.long)) ∈ zG := zG_of tw_397 rfl
theorem tg_378 : (Jvm.Cond.methodLink "SwingUnits$Trust" (69 : Nat) ({ cls := "SwingUnits$Holder", name := "units", desc := "()J" } : Jvm.MethodName)) ∈ zG := zG_of tw_378 rfl
theorem tg_379 : (Jvm.Cond.instanceMethod ({ cls := "SwingUnits$Holder", name := "units", desc := "()J" } : Jvm.MethodName)) ∈ zG := zG_of tw_379 rfl
theorem tg_380 : (Jvm.Cond.selects "SwingUnits$Holder" ({ cls := "SwingUnits$Holder", name := "units", desc := "()J" } : Jvm.MethodName) ({ cls := "SwingUnits$Holder", name := "units", desc := "()J" } : Jvm.MethodName)) ∈ zG := zG_of tw_380 rfl
theorem tg_381 : (Jvm.Cond.code ({ cls := "SwingUnits$Holder", name := "units", desc := "()J" } : Jvm.MethodName) prog_4_method_3_code (1 : Nat) (Option.some Jvm.ClassFile.FieldType.long)) ∈ zG := zG_of tw_381 rfl
theorem tg_542 : (Jvm.Cond.methodLink "SwingUnits" (146 : Nat) ({ cls := "SwingUnits$Trust", name := "newUnits", desc := "()J" } : Jvm.MethodName)) ∈ zG := zG_of tw_542 rfl
theorem tg_408 : (Jvm.Cond.instanceMethod ({ cls := "SwingUnits$Trust", name := "newUnits", desc := "()J" } : Jvm.MethodName)) ∈ zG := zG_of tw_408 rfl
theorem tg_409 : (Jvm.Cond.selects "SwingUnits$Trust" ({ cls := "SwingUnits$Trust", name := "newUnits", desc := "()J" } : Jvm.MethodName) ({ cls := "SwingUnits$Trust", name := "newUnits", desc := "()J" } : Jvm.MethodName)) ∈ zG := zG_of tw_409 rfl
theorem tg_410 : (Jvm.Cond.code ({ cls := "SwingUnits$Trust", name := "newUnits", desc := "()J" } : Jvm.MethodName) prog_8_method_5_code (4 : Nat) (Option.some Jvm.ClassFile.FieldType.long)) ∈ zG := zG_of tw_410 rfl
theorem tg_543 : (Jvm.Cond.methodLink "SwingUnits" (163 : Nat) ({ cls := "SwingUnits$Orders", name := "sum", desc := "(II)J" } : Jvm.MethodName)) ∈ zG := zG_of tw_543 rfl
theorem tg_445 : (Jvm.Cond.instanceMethod ({ cls := "SwingUnits$Orders", name := "sum", desc := "(II)J" } : Jvm.MethodName)) ∈ zG := zG_of tw_445 rfl
theorem tg_446 : (Jvm.Cond.selects "SwingUnits$Orders" ({ cls := "SwingUnits$Orders", name := "sum", desc := "(II)J" } : Jvm.MethodName) ({ cls := "SwingUnits$Orders", name := "sum", desc := "(II)J" } : Jvm.MethodName)) ∈ zG := zG_of tw_446 rfl
theorem tg_447 : (Jvm.Cond.code ({ cls := "SwingUnits$Orders", name := "sum", desc := "(II)J" } : Jvm.MethodName) prog_6_method_7_code (6 : Nat) (Option.some Jvm.ClassFile.FieldType.long)) ∈ zG := zG_of tw_447 rfl
theorem tgv_372 : (Jvm.Cond.constant "SwingUnitsLaw" (69 : Nat) (100000 : Int32)) ∈ zG := zG_of tv_372 rfl
theorem tgv_373 : (Jvm.Cond.methodLink "SwingUnitsLaw" (70 : Nat) ({ cls := "SwingUnits", name := "buy", desc := "(III)I" } : Jvm.MethodName)) ∈ zG := zG_of tv_373 rfl
theorem tg_339 : (Jvm.Cond.instanceMethod ({ cls := "SwingUnits", name := "buy", desc := "(III)I" } : Jvm.MethodName)) ∈ zG := zG_of tw_339 rfl
theorem tg_340 : (Jvm.Cond.selects "SwingUnits" ({ cls := "SwingUnits", name := "buy", desc := "(III)I" } : Jvm.MethodName) ({ cls := "SwingUnits", name := "buy", desc := "(III)I" } : Jvm.MethodName)) ∈ zG := zG_of tw_340 rfl
theorem tg_341 : (Jvm.Cond.code ({ cls := "SwingUnits", name := "buy", desc := "(III)I" } : Jvm.MethodName) prog_1_method_3_code (4 : Nat) (Option.some Jvm.ClassFile.FieldType.int)) ∈ zG := zG_of tw_341 rfl
theorem tg_342 : (Jvm.Cond.methodLink "SwingUnits" (60 : Nat) ({ cls := "SwingUnits$Trust", name := "orderToBuy", desc := "(III)I" } : Jvm.MethodName)) ∈ zG := zG_of tw_342 rfl
theorem tg_343 : (Jvm.Cond.instanceMethod ({ cls := "SwingUnits$Trust", name := "orderToBuy", desc := "(III)I" } : Jvm.MethodName)) ∈ zG := zG_of tw_343 rfl
theorem tg_344 : (Jvm.Cond.selects "SwingUnits$Trust" ({ cls := "SwingUnits$Trust", name := "orderToBuy", desc := "(III)I" } : Jvm.MethodName) ({ cls := "SwingUnits$Trust", name := "orderToBuy", desc := "(III)I" } : Jvm.MethodName)) ∈ zG := zG_of tw_344 rfl
theorem tg_345 : (Jvm.Cond.code ({ cls := "SwingUnits$Trust", name := "orderToBuy", desc := "(III)I" } : Jvm.MethodName) prog_8_method_10_code (4 : Nat) (Option.some Jvm.ClassFile.FieldType.int)) ∈ zG := zG_of tw_345 rfl
theorem tg_347 : (Jvm.Cond.static ({ cls := "SwingUnits", name := "isHolder", desc := "(I)Z" } : Jvm.MethodName)) ∈ zG := zG_of tw_347 rfl
theorem tg_348 : (Jvm.Cond.code ({ cls := "SwingUnits", name := "isHolder", desc := "(I)Z" } : Jvm.MethodName) prog_1_method_27_code (1 : Nat) (Option.some Jvm.ClassFile.FieldType.boolean)) ∈ zG := zG_of tw_348 rfl
theorem tg_349 : (Jvm.Cond.constant "SwingUnits$Trust" (93 : Nat) (1000000 : Int32)) ∈ zG := zG_of tw_349 rfl
theorem tg_350 : (Jvm.Cond.methodLink "SwingUnits$Trust" (94 : Nat) ({ cls := "SwingUnits$Trust", name := "isHour", desc := "(I)Z" } : Jvm.MethodName)) ∈ zG := zG_of tw_350 rfl
theorem tg_351 : (Jvm.Cond.static ({ cls := "SwingUnits$Trust", name := "isHour", desc := "(I)Z" } : Jvm.MethodName)) ∈ zG := zG_of tw_351 rfl
theorem tg_352 : (Jvm.Cond.code ({ cls := "SwingUnits$Trust", name := "isHour", desc := "(I)Z" } : Jvm.MethodName) prog_8_method_22_code (1 : Nat) (Option.some Jvm.ClassFile.FieldType.boolean)) ∈ zG := zG_of tw_352 rfl
theorem tg_353 : (Jvm.Cond.methodLink "SwingUnits$Trust" (97 : Nat) ({ cls := "SwingUnits$Orders", name := "isFull", desc := "()Z" } : Jvm.MethodName)) ∈ zG := zG_of tw_353 rfl
theorem tg_354 : (Jvm.Cond.instanceMethod ({ cls := "SwingUnits$Orders", name := "isFull", desc := "()Z" } : Jvm.MethodName)) ∈ zG := zG_of tw_354 rfl
theorem tg_355 : (Jvm.Cond.selects "SwingUnits$Orders" ({ cls := "SwingUnits$Orders", name := "isFull", desc := "()Z" } : Jvm.MethodName) ({ cls := "SwingUnits$Orders", name := "isFull", desc := "()Z" } : Jvm.MethodName)) ∈ zG := zG_of tw_355 rfl
theorem tg_356 : (Jvm.Cond.code ({ cls := "SwingUnits$Orders", name := "isFull", desc := "()Z" } : Jvm.MethodName) prog_6_method_3_code (1 : Nat) (Option.some Jvm.ClassFile.FieldType.boolean)) ∈ zG := zG_of tw_356 rfl
theorem tg_357 : (Jvm.Cond.methodLink "SwingUnits$Trust" (101 : Nat) ({ cls := "SwingUnits$Trust", name := "dayOf", desc := "(I)I" } : Jvm.MethodName)) ∈ zG := zG_of tw_357 rfl
theorem tg_359 : (Jvm.Cond.instanceMethod ({ cls := "SwingUnits$Trust", name := "dayOf", desc := "(I)I" } : Jvm.MethodName)) ∈ zG := zG_of tw_359 rfl
theorem tg_360 : (Jvm.Cond.code ({ cls := "SwingUnits$Trust", name := "dayOf", desc := "(I)I" } : Jvm.MethodName) prog_8_method_21_code (2 : Nat) (Option.some Jvm.ClassFile.FieldType.int)) ∈ zG := zG_of tw_360 rfl
theorem tg_361 : (Jvm.Cond.methodLink "SwingUnits$Trust" (105 : Nat) ({ cls := "SwingUnits$Orders", name := "add", desc := "(III)V" } : Jvm.MethodName)) ∈ zG := zG_of tw_361 rfl
theorem tg_362 : (Jvm.Cond.instanceMethod ({ cls := "SwingUnits$Orders", name := "add", desc := "(III)V" } : Jvm.MethodName)) ∈ zG := zG_of tw_362 rfl
theorem tg_363 : (Jvm.Cond.selects "SwingUnits$Orders" ({ cls := "SwingUnits$Orders", name := "add", desc := "(III)V" } : Jvm.MethodName) ({ cls := "SwingUnits$Orders", name := "add", desc := "(III)V" } : Jvm.MethodName)) ∈ zG := zG_of tw_363 rfl
theorem tg_364 : (Jvm.Cond.code ({ cls := "SwingUnits$Orders", name := "add", desc := "(III)V" } : Jvm.MethodName) prog_6_method_4_code (5 : Nat) (Option.none : Option Jvm.ClassFile.FieldType)) ∈ zG := zG_of tw_364 rfl
theorem tg_365 : (Jvm.Cond.methodLink "SwingUnits$Orders" (29 : Nat) ({ cls := "SwingUnits$Orders", name := "isFull", desc := "()Z" } : Jvm.MethodName)) ∈ zG := zG_of tw_365 rfl
theorem tgv_401 : (Jvm.Cond.methodLink "SwingUnitsLaw" (73 : Nat) ({ cls := "SwingUnitsLaw", name := "has", desc := "(LSwingUnits;IIII)Z" } : Jvm.MethodName)) ∈ zG := zG_of tv_401 rfl
theorem tgv_402 : (Jvm.Cond.static ({ cls := "SwingUnitsLaw", name := "has", desc := "(LSwingUnits;IIII)Z" } : Jvm.MethodName)) ∈ zG := zG_of tv_402 rfl
theorem tgv_403 : (Jvm.Cond.code ({ cls := "SwingUnitsLaw", name := "has", desc := "(LSwingUnits;IIII)Z" } : Jvm.MethodName) method_9_code (6 : Nat) (Option.some Jvm.ClassFile.FieldType.boolean)) ∈ zG := zG_of tv_403 rfl
theorem tgv_404 : (Jvm.Cond.methodLink "SwingUnitsLaw" (54 : Nat) ({ cls := "SwingUnits", name := "order", desc := "(III)I" } : Jvm.MethodName)) ∈ zG := zG_of tv_404 rfl
theorem tg_545 : (Jvm.Cond.instanceMethod ({ cls := "SwingUnits", name := "order", desc := "(III)I" } : Jvm.MethodName)) ∈ zG := zG_of tw_545 rfl
theorem tg_546 : (Jvm.Cond.selects "SwingUnits" ({ cls := "SwingUnits", name := "order", desc := "(III)I" } : Jvm.MethodName) ({ cls := "SwingUnits", name := "order", desc := "(III)I" } : Jvm.MethodName)) ∈ zG := zG_of tw_546 rfl
theorem tg_547 : (Jvm.Cond.code ({ cls := "SwingUnits", name := "order", desc := "(III)I" } : Jvm.MethodName) prog_1_method_13_code (5 : Nat) (Option.some Jvm.ClassFile.FieldType.int)) ∈ zG := zG_of tw_547 rfl
theorem tgv_408 : (Jvm.Cond.methodLink "SwingUnitsLaw" (77 : Nat) ({ cls := "SwingUnitsLaw", name := "free", desc := "(LSwingUnits;I)I" } : Jvm.MethodName)) ∈ zG := zG_of tv_408 rfl
theorem tgv_409 : (Jvm.Cond.static ({ cls := "SwingUnitsLaw", name := "free", desc := "(LSwingUnits;I)I" } : Jvm.MethodName)) ∈ zG := zG_of tv_409 rfl
theorem tgv_410 : (Jvm.Cond.code ({ cls := "SwingUnitsLaw", name := "free", desc := "(LSwingUnits;I)I" } : Jvm.MethodName) method_7_code (2 : Nat) (Option.some Jvm.ClassFile.FieldType.int)) ∈ zG := zG_of tv_410 rfl
theorem tgv_411 : (Jvm.Cond.methodLink "SwingUnitsLaw" (47 : Nat) ({ cls := "SwingUnits", name := "ofHolder", desc := "(II)I" } : Jvm.MethodName)) ∈ zG := zG_of tv_411 rfl
theorem tg_530 : (Jvm.Cond.instanceMethod ({ cls := "SwingUnits", name := "ofHolder", desc := "(II)I" } : Jvm.MethodName)) ∈ zG := zG_of tw_530 rfl
theorem tg_531 : (Jvm.Cond.selects "SwingUnits" ({ cls := "SwingUnits", name := "ofHolder", desc := "(II)I" } : Jvm.MethodName) ({ cls := "SwingUnits", name := "ofHolder", desc := "(II)I" } : Jvm.MethodName)) ∈ zG := zG_of tw_531 rfl
theorem tg_532 : (Jvm.Cond.code ({ cls := "SwingUnits", name := "ofHolder", desc := "(II)I" } : Jvm.MethodName) prog_1_method_11_code (4 : Nat) (Option.some Jvm.ClassFile.FieldType.int)) ∈ zG := zG_of tw_532 rfl
theorem tg_533 : (Jvm.Cond.methodLink "SwingUnits" (87 : Nat) ({ cls := "SwingUnits", name := "isHolder", desc := "(I)Z" } : Jvm.MethodName)) ∈ zG := zG_of tw_533 rfl
theorem tg_534 : (Jvm.Cond.methodLink "SwingUnits" (95 : Nat) ({ cls := "SwingUnits$Holder", name := "units", desc := "()J" } : Jvm.MethodName)) ∈ zG := zG_of tw_534 rfl
theorem tg_535 : (Jvm.Cond.methodLink "SwingUnits" (112 : Nat) ({ cls := "SwingUnits$Orders", name := "sumOf", desc := "(I)J" } : Jvm.MethodName)) ∈ zG := zG_of tw_535 rfl
theorem tg_383 : (Jvm.Cond.instanceMethod ({ cls := "SwingUnits$Orders", name := "sumOf", desc := "(I)J" } : Jvm.MethodName)) ∈ zG := zG_of tw_383 rfl
theorem tg_384 : (Jvm.Cond.selects "SwingUnits$Orders" ({ cls := "SwingUnits$Orders", name := "sumOf", desc := "(I)J" } : Jvm.MethodName) ({ cls := "SwingUnits$Orders", name := "sumOf", desc := "(I)J" } : Jvm.MethodName)) ∈ zG := zG_of tw_384 rfl
theorem tg_385 : (Jvm.Cond.code ({ cls := "SwingUnits$Orders", name := "sumOf", desc := "(I)J" } : Jvm.MethodName) prog_6_method_8_code (5 : Nat) (Option.some Jvm.ClassFile.FieldType.long)) ∈ zG := zG_of tw_385 rfl
theorem tgv_421 : (Jvm.Cond.methodLink "SwingUnitsLaw" (81 : Nat) ({ cls := "SwingUnits", name := "leave", desc := "(III)I" } : Jvm.MethodName)) ∈ zG := zG_of tv_421 rfl
theorem tg_367 : (Jvm.Cond.instanceMethod ({ cls := "SwingUnits", name := "leave", desc := "(III)I" } : Jvm.MethodName)) ∈ zG := zG_of tw_367 rfl
theorem tg_368 : (Jvm.Cond.selects "SwingUnits" ({ cls := "SwingUnits", name := "leave", desc := "(III)I" } : Jvm.MethodName) ({ cls := "SwingUnits", name := "leave", desc := "(III)I" } : Jvm.MethodName)) ∈ zG := zG_of tw_368 rfl
theorem tg_369 : (Jvm.Cond.code ({ cls := "SwingUnits", name := "leave", desc := "(III)I" } : Jvm.MethodName) prog_1_method_4_code (4 : Nat) (Option.some Jvm.ClassFile.FieldType.int)) ∈ zG := zG_of tw_369 rfl
theorem tg_370 : (Jvm.Cond.methodLink "SwingUnits" (64 : Nat) ({ cls := "SwingUnits$Trust", name := "orderToLeave", desc := "(III)I" } : Jvm.MethodName)) ∈ zG := zG_of tw_370 rfl
theorem tg_371 : (Jvm.Cond.instanceMethod ({ cls := "SwingUnits$Trust", name := "orderToLeave", desc := "(III)I" } : Jvm.MethodName)) ∈ zG := zG_of tw_371 rfl
theorem tg_372 : (Jvm.Cond.selects "SwingUnits$Trust" ({ cls := "SwingUnits$Trust", name := "orderToLeave", desc := "(III)I" } : Jvm.MethodName) ({ cls := "SwingUnits$Trust", name := "orderToLeave", desc := "(III)I" } : Jvm.MethodName)) ∈ zG := zG_of tw_372 rfl
theorem tg_373 : (Jvm.Cond.code ({ cls := "SwingUnits$Trust", name := "orderToLeave", desc := "(III)I" } : Jvm.MethodName) prog_8_method_11_code (4 : Nat) (Option.some Jvm.ClassFile.FieldType.int)) ∈ zG := zG_of tw_373 rfl
theorem tg_374 : (Jvm.Cond.methodLink "SwingUnits$Trust" (109 : Nat) ({ cls := "SwingUnits$Trust", name := "freeUnits", desc := "(I)J" } : Jvm.MethodName)) ∈ zG := zG_of tw_374 rfl
theorem tg_376 : (Jvm.Cond.instanceMethod ({ cls := "SwingUnits$Trust", name := "freeUnits", desc := "(I)J" } : Jvm.MethodName)) ∈ zG := zG_of tw_376 rfl
theorem tg_377 : (Jvm.Cond.code ({ cls := "SwingUnits$Trust", name := "freeUnits", desc := "(I)J" } : Jvm.MethodName) prog_8_method_20_code (2 : Nat) (Option.some Jvm.ClassFile.FieldType.long)) ∈ zG := zG_of tw_377 rfl
theorem tg_382 : (Jvm.Cond.methodLink "SwingUnits$Trust" (151 : Nat) ({ cls := "SwingUnits$Orders", name := "sumOf", desc := "(I)J" } : Jvm.MethodName)) ∈ zG := zG_of tw_382 rfl
theorem tgv_434 : (Jvm.Cond.methodLink "SwingUnitsLaw" (84 : Nat) ({ cls := "SwingUnits", name := "inKind", desc := "(II)I" } : Jvm.MethodName)) ∈ zG := zG_of tv_434 rfl
theorem tg_387 : (Jvm.Cond.instanceMethod ({ cls := "SwingUnits", name := "inKind", desc := "(II)I" } : Jvm.MethodName)) ∈ zG := zG_of tw_387 rfl
theorem tg_388 : (Jvm.Cond.selects "SwingUnits" ({ cls := "SwingUnits", name := "inKind", desc := "(II)I" } : Jvm.MethodName) ({ cls := "SwingUnits", name := "inKind", desc := "(II)I" } : Jvm.MethodName)) ∈ zG := zG_of tw_388 rfl
theorem tg_389 : (Jvm.Cond.code ({ cls := "SwingUnits", name := "inKind", desc := "(II)I" } : Jvm.MethodName) prog_1_method_5_code (3 : Nat) (Option.some Jvm.ClassFile.FieldType.int)) ∈ zG := zG_of tw_389 rfl
theorem tg_390 : (Jvm.Cond.methodLink "SwingUnits" (67 : Nat) ({ cls := "SwingUnits$Trust", name := "exitInKind", desc := "(II)I" } : Jvm.MethodName)) ∈ zG := zG_of tw_390 rfl
theorem tg_391 : (Jvm.Cond.instanceMethod ({ cls := "SwingUnits$Trust", name := "exitInKind", desc := "(II)I" } : Jvm.MethodName)) ∈ zG := zG_of tw_391 rfl
theorem tg_392 : (Jvm.Cond.selects "SwingUnits$Trust" ({ cls := "SwingUnits$Trust", name := "exitInKind", desc := "(II)I" } : Jvm.MethodName) ({ cls := "SwingUnits$Trust", name := "exitInKind", desc := "(II)I" } : Jvm.MethodName)) ∈ zG := zG_of tw_392 rfl
theorem tg_393 : (Jvm.Cond.code ({ cls := "SwingUnits$Trust", name := "exitInKind", desc := "(II)I" } : Jvm.MethodName) prog_8_method_12_code (8 : Nat) (Option.some Jvm.ClassFile.FieldType.int)) ∈ zG := zG_of tw_393 rfl
theorem tg_394 : (Jvm.Cond.methodLink "SwingUnits$Trust" (76 : Nat) ({ cls := "SwingUnits$Trust", name := "units", desc := "()J" } : Jvm.MethodName)) ∈ zG := zG_of tw_394 rfl
theorem tg_398 : (Jvm.Cond.methodLink "SwingUnits$Trust" (115 : Nat) ({ cls := "SwingUnits$Trust", name := "unitIncome", desc := "()J" } : Jvm.MethodName)) ∈ zG := zG_of tw_398 rfl
theorem tg_399 : (Jvm.Cond.instanceMethod ({ cls := "SwingUnits$Trust", name := "unitIncome", desc := "()J" } : Jvm.MethodName)) ∈ zG := zG_of tw_399 rfl
theorem tg_400 : (Jvm.Cond.selects "SwingUnits$Trust" ({ cls := "SwingUnits$Trust", name := "unitIncome", desc := "()J" } : Jvm.MethodName) ({ cls := "SwingUnits$Trust", name := "unitIncome", desc := "()J" } : Jvm.MethodName)) ∈ zG := zG_of tw_400 rfl
theorem tg_401 : (Jvm.Cond.code ({ cls := "SwingUnits$Trust", name := "unitIncome", desc := "()J" } : Jvm.MethodName) prog_8_method_7_code (3 : Nat) (Option.some Jvm.ClassFile.FieldType.long)) ∈ zG := zG_of tw_401 rfl
theorem tg_402 : (Jvm.Cond.constantLong "SwingUnits$Trust" (77 : Nat) (1000 : Int64)) ∈ zG := zG_of tw_402 rfl
theorem tg_403 : (Jvm.Cond.methodLink "SwingUnits$Trust" (118 : Nat) ({ cls := "SwingUnits$Trust", name := "takeUnits", desc := "(LSwingUnits$Holder;JJJ)V" } : Jvm.MethodName)) ∈ zG := zG_of tw_403 rfl
theorem tg_404 : (Jvm.Cond.instanceMethod ({ cls := "SwingUnits$Trust", name := "takeUnits", desc := "(LSwingUnits$Holder;JJJ)V" } : Jvm.MethodName)) ∈ zG := zG_of tw_404 rfl
theorem tg_405 : (Jvm.Cond.selects "SwingUnits$Trust" ({ cls := "SwingUnits$Trust", name := "takeUnits", desc := "(LSwingUnits$Holder;JJJ)V" } : Jvm.MethodName) ({ cls := "SwingUnits$Trust", name := "takeUnits", desc := "(LSwingUnits$Holder;JJJ)V" } : Jvm.MethodName)) ∈ zG := zG_of tw_405 rfl
theorem tg_406 : (Jvm.Cond.code ({ cls := "SwingUnits$Trust", name := "takeUnits", desc := "(LSwingUnits$Holder;JJJ)V" } : Jvm.MethodName) prog_8_method_18_code (14 : Nat) (Option.none : Option Jvm.ClassFile.FieldType)) ∈ zG := zG_of tw_406 rfl
theorem tg_407 : (Jvm.Cond.methodLink "SwingUnits$Trust" (125 : Nat) ({ cls := "SwingUnits$Trust", name := "newUnits", desc := "()J" } : Jvm.MethodName)) ∈ zG := zG_of tw_407 rfl
theorem tg_411 : (Jvm.Cond.methodLink "SwingUnits$Trust" (133 : Nat) ({ cls := "java/lang/Math", name := "min", desc := "(JJ)J" } : Jvm.MethodName)) ∈ zG := zG_of tw_411 rfl
theorem tg_412 : (Jvm.Cond.static ({ cls := "java/lang/Math", name := "min", desc := "(JJ)J" } : Jvm.MethodName)) ∈ zG := zG_of tw_412 rfl
theorem tg_413 : (Jvm.Cond.code ({ cls := "java/lang/Math", name := "min", desc := "(JJ)J" } : Jvm.MethodName) prog_11_method_70_code (4 : Nat) (Option.some Jvm.ClassFile.FieldType.long)) ∈ zG := zG_of tw_413 rfl
theorem tg_414 : (Jvm.Cond.methodLink "SwingUnits$Trust" (148 : Nat) ({ cls := "java/lang/Math", name := "max", desc := "(JJ)J" } : Jvm.MethodName)) ∈ zG := zG_of tw_414 rfl
theorem tg_415 : (Jvm.Cond.static ({ cls := "java/lang/Math", name := "max", desc := "(JJ)J" } : Jvm.MethodName)) ∈ zG := zG_of tw_415 rfl
theorem tg_416 : (Jvm.Cond.code ({ cls := "java/lang/Math", name := "max", desc := "(JJ)J" } : Jvm.MethodName) prog_11_method_66_code (4 : Nat) (Option.some Jvm.ClassFile.FieldType.long)) ∈ zG := zG_of tw_416 rfl
theorem tgv_459 : (Jvm.Cond.methodLink "SwingUnitsLaw" (87 : Nat) ({ cls := "SwingUnits", name := "quote", desc := "(I)I" } : Jvm.MethodName)) ∈ zG := zG_of tv_459 rfl
theorem tg_498 : (Jvm.Cond.instanceMethod ({ cls := "SwingUnits", name := "quote", desc := "(I)I" } : Jvm.MethodName)) ∈ zG := zG_of tw_498 rfl
theorem tg_499 : (Jvm.Cond.selects "SwingUnits" ({ cls := "SwingUnits", name := "quote", desc := "(I)I" } : Jvm.MethodName) ({ cls := "SwingUnits", name := "quote", desc := "(I)I" } : Jvm.MethodName)) ∈ zG := zG_of tw_499 rfl
theorem tg_500 : (Jvm.Cond.code ({ cls := "SwingUnits", name := "quote", desc := "(I)I" } : Jvm.MethodName) prog_1_method_7_code (2 : Nat) (Option.some Jvm.ClassFile.FieldType.int)) ∈ zG := zG_of tw_500 rfl
theorem tg_501 : (Jvm.Cond.methodLink "SwingUnits" (74 : Nat) ({ cls := "SwingUnits$Trust", name := "changeQuote", desc := "(I)I" } : Jvm.MethodName)) ∈ zG := zG_of tw_501 rfl
theorem tg_502 : (Jvm.Cond.instanceMethod ({ cls := "SwingUnits$Trust", name := "changeQuote", desc := "(I)I" } : Jvm.MethodName)) ∈ zG := zG_of tw_502 rfl
theorem tg_503 : (Jvm.Cond.selects "SwingUnits$Trust" ({ cls := "SwingUnits$Trust", name := "changeQuote", desc := "(I)I" } : Jvm.MethodName) ({ cls := "SwingUnits$Trust", name := "changeQuote", desc := "(I)I" } : Jvm.MethodName)) ∈ zG := zG_of tw_503 rfl
theorem tg_504 : (Jvm.Cond.code ({ cls := "SwingUnits$Trust", name := "changeQuote", desc := "(I)I" } : Jvm.MethodName) prog_8_method_13_code (3 : Nat) (Option.some Jvm.ClassFile.FieldType.int)) ∈ zG := zG_of tw_504 rfl
theorem tgv_467 : (Jvm.Cond.methodLink "SwingUnitsLaw" (90 : Nat) ({ cls := "SwingUnitsLaw", name := "cost", desc := "(LSwingUnits;)J" } : Jvm.MethodName)) ∈ zG := zG_of tv_467 rfl
theorem tgv_468 : (Jvm.Cond.static ({ cls := "SwingUnitsLaw", name := "cost", desc := "(LSwingUnits;)J" } : Jvm.MethodName)) ∈ zG := zG_of tv_468 rfl
theorem tgv_469 : (Jvm.Cond.code ({ cls := "SwingUnitsLaw", name := "cost", desc := "(LSwingUnits;)J" } : Jvm.MethodName) method_6_code (1 : Nat) (Option.some Jvm.ClassFile.FieldType.long)) ∈ zG := zG_of tv_469 rfl
theorem tgv_470 : (Jvm.Cond.constantLong "SwingUnitsLaw" (65 : Nat) (999 : Int64)) ∈ zG := zG_of tv_470 rfl
theorem tgv_471 : (Jvm.Cond.constantLong "SwingUnitsLaw" (67 : Nat) (1000 : Int64)) ∈ zG := zG_of tv_471 rfl
theorem tgv_472 : (Jvm.Cond.methodLink "SwingUnitsLaw" (94 : Nat) ({ cls := "SwingUnits", name := "trade", desc := "(I)I" } : Jvm.MethodName)) ∈ zG := zG_of tv_472 rfl
theorem tg_506 : (Jvm.Cond.instanceMethod ({ cls := "SwingUnits", name := "trade", desc := "(I)I" } : Jvm.MethodName)) ∈ zG := zG_of tw_506 rfl
theorem tg_507 : (Jvm.Cond.selects "SwingUnits" ({ cls := "SwingUnits", name := "trade", desc := "(I)I" } : Jvm.MethodName) ({ cls := "SwingUnits", name := "trade", desc := "(I)I" } : Jvm.MethodName)) ∈ zG := zG_of tw_507 rfl
theorem tg_508 : (Jvm.Cond.code ({ cls := "SwingUnits", name := "trade", desc := "(I)I" } : Jvm.MethodName) prog_1_method_8_code (2 : Nat) (Option.some Jvm.ClassFile.FieldType.int)) ∈ zG := zG_of tw_508 rfl
theorem tg_509 : (Jvm.Cond.methodLink "SwingUnits" (77 : Nat) ({ cls := "SwingUnits$Trust", name := "tradeLots", desc := "(I)I" } : Jvm.MethodName)) ∈ zG := zG_of tw_509 rfl
theorem tg_510 : (Jvm.Cond.instanceMethod ({ cls := "SwingUnits$Trust", name := "tradeLots", desc := "(I)I" } : Jvm.MethodName)) ∈ zG := zG_of tw_510 rfl
theorem tg_511 : (Jvm.Cond.selects "SwingUnits$Trust" ({ cls := "SwingUnits$Trust", name := "tradeLots", desc := "(I)I" } : Jvm.MethodName) ({ cls := "SwingUnits$Trust", name := "tradeLots", desc := "(I)I" } : Jvm.MethodName)) ∈ zG := zG_of tw_511 rfl
theorem tg_512 : (Jvm.Cond.code ({ cls := "SwingUnits$Trust", name := "tradeLots", desc := "(I)I" } : Jvm.MethodName) prog_8_method_14_code (4 : Nat) (Option.some Jvm.ClassFile.FieldType.int)) ∈ zG := zG_of tw_512 rfl
theorem tg_478 : (Jvm.Cond.methodLink "SwingUnits$Trust" (122 : Nat) ({ cls := "SwingUnits$Trust", name := "fee", desc := "()J" } : Jvm.MethodName)) ∈ zG := zG_of tw_478 rfl
theorem tg_479 : (Jvm.Cond.instanceMethod ({ cls := "SwingUnits$Trust", name := "fee", desc := "()J" } : Jvm.MethodName)) ∈ zG := zG_of tw_479 rfl
theorem tg_480 : (Jvm.Cond.selects "SwingUnits$Trust" ({ cls := "SwingUnits$Trust", name := "fee", desc := "()J" } : Jvm.MethodName) ({ cls := "SwingUnits$Trust", name := "fee", desc := "()J" } : Jvm.MethodName)) ∈ zG := zG_of tw_480 rfl
theorem tg_481 : (Jvm.Cond.code ({ cls := "SwingUnits$Trust", name := "fee", desc := "()J" } : Jvm.MethodName) prog_8_method_8_code (1 : Nat) (Option.some Jvm.ClassFile.FieldType.long)) ∈ zG := zG_of tw_481 rfl
theorem tg_482 : (Jvm.Cond.constantLong "SwingUnits$Trust" (84 : Nat) (999 : Int64)) ∈ zG := zG_of tw_482 rfl
theorem tgv_485 : (Jvm.Cond.methodLink "SwingUnitsLaw" (97 : Nat) ({ cls := "SwingUnitsLaw", name := "day", desc := "(LSwingUnits;)Z" } : Jvm.MethodName)) ∈ zG := zG_of tv_485 rfl
theorem tgv_486 : (Jvm.Cond.static ({ cls := "SwingUnitsLaw", name := "day", desc := "(LSwingUnits;)Z" } : Jvm.MethodName)) ∈ zG := zG_of tv_486 rfl
theorem tgv_487 : (Jvm.Cond.code ({ cls := "SwingUnitsLaw", name := "day", desc := "(LSwingUnits;)Z" } : Jvm.MethodName) method_11_code (37 : Nat) (Option.some Jvm.ClassFile.FieldType.boolean)) ∈ zG := zG_of tv_487 rfl
theorem tgv_488 : (Jvm.Cond.constantLong "SwingUnitsLaw" (113 : Nat) (100000 : Int64)) ∈ zG := zG_of tv_488 rfl
theorem tgv_489 : (Jvm.Cond.methodLink "SwingUnitsLaw" (61 : Nat) ({ cls := "SwingUnits", name := "price", desc := "(I)J" } : Jvm.MethodName)) ∈ zG := zG_of tv_489 rfl
theorem tg_553 : (Jvm.Cond.instanceMethod ({ cls := "SwingUnits", name := "price", desc := "(I)J" } : Jvm.MethodName)) ∈ zG := zG_of tw_553 rfl
theorem tg_554 : (Jvm.Cond.selects "SwingUnits" ({ cls := "SwingUnits", name := "price", desc := "(I)J" } : Jvm.MethodName) ({ cls := "SwingUnits", name := "price", desc := "(I)J" } : Jvm.MethodName)) ∈ zG := zG_of tw_554 rfl
theorem tg_555 : (Jvm.Cond.code ({ cls := "SwingUnits", name := "price", desc := "(I)J" } : Jvm.MethodName) prog_1_method_15_code (2 : Nat) (Option.some Jvm.ClassFile.FieldType.long)) ∈ zG := zG_of tw_555 rfl
theorem tg_556 : (Jvm.Cond.constantLong "SwingUnits" (211 : Nat) (-2 : Int64)) ∈ zG := zG_of tw_556 rfl
theorem tg_557 : (Jvm.Cond.methodLink "SwingUnits" (213 : Nat) ({ cls := "SwingUnits$Trust", name := "middle", desc := "()J" } : Jvm.MethodName)) ∈ zG := zG_of tw_557 rfl
theorem tg_430 : (Jvm.Cond.instanceMethod ({ cls := "SwingUnits$Trust", name := "middle", desc := "()J" } : Jvm.MethodName)) ∈ zG := zG_of tw_430 rfl
theorem tg_431 : (Jvm.Cond.selects "SwingUnits$Trust" ({ cls := "SwingUnits$Trust", name := "middle", desc := "()J" } : Jvm.MethodName) ({ cls := "SwingUnits$Trust", name := "middle", desc := "()J" } : Jvm.MethodName)) ∈ zG := zG_of tw_431 rfl
theorem tg_432 : (Jvm.Cond.code ({ cls := "SwingUnits$Trust", name := "middle", desc := "()J" } : Jvm.MethodName) prog_8_method_6_code (3 : Nat) (Option.some Jvm.ClassFile.FieldType.long)) ∈ zG := zG_of tw_432 rfl
theorem tg_433 : (Jvm.Cond.methodLink "SwingUnits$Trust" (79 : Nat) ({ cls := "SwingUnits$Trust", name := "value", desc := "()J" } : Jvm.MethodName)) ∈ zG := zG_of tw_433 rfl
theorem tg_437 : (Jvm.Cond.constantLong "SwingUnits$Trust" (82 : Nat) (100000 : Int64)) ∈ zG := zG_of tw_437 rfl
theorem tg_558 : (Jvm.Cond.methodLink "SwingUnits" (216 : Nat) ({ cls := "SwingUnits$DayEnd", name := "priceOf", desc := "(LSwingUnits$Trust;)J" } : Jvm.MethodName)) ∈ zG := zG_of tw_558 rfl
theorem tg_559 : (Jvm.Cond.instanceMethod ({ cls := "SwingUnits$DayEnd", name := "priceOf", desc := "(LSwingUnits$Trust;)J" } : Jvm.MethodName)) ∈ zG := zG_of tw_559 rfl
theorem tg_560 : (Jvm.Cond.selects "SwingUnits$DayEnd" ({ cls := "SwingUnits$DayEnd", name := "priceOf", desc := "(LSwingUnits$Trust;)J" } : Jvm.MethodName) ({ cls := "SwingUnits$DayEnd", name := "priceOf", desc := "(LSwingUnits$Trust;)J" } : Jvm.MethodName)) ∈ zG := zG_of tw_560 rfl
theorem tg_561 : (Jvm.Cond.code ({ cls := "SwingUnits$DayEnd", name := "priceOf", desc := "(LSwingUnits$Trust;)J" } : Jvm.MethodName) prog_2_method_2_code (2 : Nat) (Option.some Jvm.ClassFile.FieldType.long)) ∈ zG := zG_of tw_561 rfl
theorem tg_425 : (Jvm.Cond.methodLink "SwingUnits$DayEnd" (15 : Nat) ({ cls := "SwingUnits$DayEnd", name := "takePrice", desc := "(LSwingUnits$Trust;)V" } : Jvm.MethodName)) ∈ zG := zG_of tw_425 rfl
theorem tg_427 : (Jvm.Cond.instanceMethod ({ cls := "SwingUnits$DayEnd", name := "takePrice", desc := "(LSwingUnits$Trust;)V" } : Jvm.MethodName)) ∈ zG := zG_of tw_427 rfl
theorem tg_428 : (Jvm.Cond.code ({ cls := "SwingUnits$DayEnd", name := "takePrice", desc := "(LSwingUnits$Trust;)V" } : Jvm.MethodName) prog_2_method_4_code (8 : Nat) (Option.none : Option Jvm.ClassFile.FieldType)) ∈ zG := zG_of tw_428 rfl
theorem tg_429 : (Jvm.Cond.methodLink "SwingUnits$DayEnd" (63 : Nat) ({ cls := "SwingUnits$Trust", name := "middle", desc := "()J" } : Jvm.MethodName)) ∈ zG := zG_of tw_429 rfl
theorem tg_438 : (Jvm.Cond.methodLink "SwingUnits$DayEnd" (69 : Nat) ({ cls := "SwingUnits$Trust", name := "unitIncome", desc := "()J" } : Jvm.MethodName)) ∈ zG := zG_of tw_438 rfl
theorem tg_439 : (Jvm.Cond.methodLink "SwingUnits$DayEnd" (74 : Nat) ({ cls := "SwingUnits$Trust", name := "units", desc := "()J" } : Jvm.MethodName)) ∈ zG := zG_of tw_439 rfl
theorem tg_440 : (Jvm.Cond.methodLink "SwingUnits$DayEnd" (43 : Nat) ({ cls := "SwingUnits$Orders", name := "dueOn", desc := "(I)I" } : Jvm.MethodName)) ∈ zG := zG_of tw_440 rfl
theorem tg_441 : (Jvm.Cond.instanceMethod ({ cls := "SwingUnits$Orders", name := "dueOn", desc := "(I)I" } : Jvm.MethodName)) ∈ zG := zG_of tw_441 rfl
theorem tg_442 : (Jvm.Cond.selects "SwingUnits$Orders" ({ cls := "SwingUnits$Orders", name := "dueOn", desc := "(I)I" } : Jvm.MethodName) ({ cls := "SwingUnits$Orders", name := "dueOn", desc := "(I)I" } : Jvm.MethodName)) ∈ zG := zG_of tw_442 rfl
theorem tg_443 : (Jvm.Cond.code ({ cls := "SwingUnits$Orders", name := "dueOn", desc := "(I)I" } : Jvm.MethodName) prog_6_method_6_code (3 : Nat) (Option.some Jvm.ClassFile.FieldType.int)) ∈ zG := zG_of tw_443 rfl
theorem tg_444 : (Jvm.Cond.methodLink "SwingUnits$DayEnd" (77 : Nat) ({ cls := "SwingUnits$Orders", name := "sum", desc := "(II)J" } : Jvm.MethodName)) ∈ zG := zG_of tw_444 rfl
theorem tg_448 : (Jvm.Cond.constantLong "SwingUnits$DayEnd" (88 : Nat) (1000 : Int64)) ∈ zG := zG_of tw_448 rfl
theorem tg_449 : (Jvm.Cond.methodLink "SwingUnits$DayEnd" (90 : Nat) ({ cls := "java/lang/Math", name := "min", desc := "(JJ)J" } : Jvm.MethodName)) ∈ zG := zG_of tw_449 rfl
theorem tg_450 : (Jvm.Cond.methodLink "SwingUnits$DayEnd" (99 : Nat) ({ cls := "SwingUnits$Trust", name := "value", desc := "()J" } : Jvm.MethodName)) ∈ zG := zG_of tw_450 rfl
theorem tg_451 : (Jvm.Cond.methodLink "SwingUnits$DayEnd" (102 : Nat) ({ cls := "SwingUnits$DayEnd", name := "direction", desc := "(JJ)I" } : Jvm.MethodName)) ∈ zG := zG_of tw_451 rfl
theorem tg_452 : (Jvm.Cond.static ({ cls := "SwingUnits$DayEnd", name := "direction", desc := "(JJ)I" } : Jvm.MethodName)) ∈ zG := zG_of tw_452 rfl
theorem tg_453 : (Jvm.Cond.code ({ cls := "SwingUnits$DayEnd", name := "direction", desc := "(JJ)I" } : Jvm.MethodName) prog_2_method_5_code (4 : Nat) (Option.some Jvm.ClassFile.FieldType.int)) ∈ zG := zG_of tw_453 rfl
theorem tg_562 : (Jvm.Cond.constantLong "SwingUnits" (223 : Nat) (-6 : Int64)) ∈ zG := zG_of tw_562 rfl
theorem tg_563 : (Jvm.Cond.methodLink "SwingUnits" (225 : Nat) ({ cls := "SwingUnits$Trust", name := "unitIncome", desc := "()J" } : Jvm.MethodName)) ∈ zG := zG_of tw_563 rfl
theorem tgv_524 : (Jvm.Cond.constantLong "SwingUnitsLaw" (115 : Nat) (1000000000 : Int64)) ∈ zG := zG_of tv_524 rfl
theorem tgv_525 : (Jvm.Cond.methodLink "SwingUnitsLaw" (117 : Nat) ({ cls := "SwingUnits", name := "endDay", desc := "()I" } : Jvm.MethodName)) ∈ zG := zG_of tv_525 rfl
theorem tg_418 : (Jvm.Cond.instanceMethod ({ cls := "SwingUnits", name := "endDay", desc := "()I" } : Jvm.MethodName)) ∈ zG := zG_of tw_418 rfl
theorem tg_419 : (Jvm.Cond.selects "SwingUnits" ({ cls := "SwingUnits", name := "endDay", desc := "()I" } : Jvm.MethodName) ({ cls := "SwingUnits", name := "endDay", desc := "()I" } : Jvm.MethodName)) ∈ zG := zG_of tw_419 rfl
theorem tg_420 : (Jvm.Cond.code ({ cls := "SwingUnits", name := "endDay", desc := "()I" } : Jvm.MethodName) prog_1_method_6_code (1 : Nat) (Option.some Jvm.ClassFile.FieldType.int)) ∈ zG := zG_of tw_420 rfl
theorem tg_421 : (Jvm.Cond.methodLink "SwingUnits" (70 : Nat) ({ cls := "SwingUnits$DayEnd", name := "run", desc := "(LSwingUnits$Trust;)I" } : Jvm.MethodName)) ∈ zG := zG_of tw_421 rfl
theorem tg_422 : (Jvm.Cond.instanceMethod ({ cls := "SwingUnits$DayEnd", name := "run", desc := "(LSwingUnits$Trust;)I" } : Jvm.MethodName)) ∈ zG := zG_of tw_422 rfl
theorem tg_423 : (Jvm.Cond.selects "SwingUnits$DayEnd" ({ cls := "SwingUnits$DayEnd", name := "run", desc := "(LSwingUnits$Trust;)I" } : Jvm.MethodName) ({ cls := "SwingUnits$DayEnd", name := "run", desc := "(LSwingUnits$Trust;)I" } : Jvm.MethodName)) ∈ zG := zG_of tw_423 rfl
theorem tg_424 : (Jvm.Cond.code ({ cls := "SwingUnits$DayEnd", name := "run", desc := "(LSwingUnits$Trust;)I" } : Jvm.MethodName) prog_2_method_3_code (2 : Nat) (Option.some Jvm.ClassFile.FieldType.int)) ∈ zG := zG_of tw_424 rfl
theorem tg_454 : (Jvm.Cond.methodLink "SwingUnits$DayEnd" (29 : Nat) ({ cls := "SwingUnits$LastDay", name := "start", desc := "(LSwingUnits$DayEnd;)V" } : Jvm.MethodName)) ∈ zG := zG_of tw_454 rfl
theorem tg_455 : (Jvm.Cond.instanceMethod ({ cls := "SwingUnits$LastDay", name := "start", desc := "(LSwingUnits$DayEnd;)V" } : Jvm.MethodName)) ∈ zG := zG_of tw_455 rfl
theorem tg_456 : (Jvm.Cond.selects "SwingUnits$LastDay" ({ cls := "SwingUnits$LastDay", name := "start", desc := "(LSwingUnits$DayEnd;)V" } : Jvm.MethodName) ({ cls := "SwingUnits$LastDay", name := "start", desc := "(LSwingUnits$DayEnd;)V" } : Jvm.MethodName)) ∈ zG := zG_of tw_456 rfl
theorem tg_457 : (Jvm.Cond.code ({ cls := "SwingUnits$LastDay", name := "start", desc := "(LSwingUnits$DayEnd;)V" } : Jvm.MethodName) prog_5_method_3_code (2 : Nat) (Option.none : Option Jvm.ClassFile.FieldType)) ∈ zG := zG_of tw_457 rfl
theorem tg_458 : (Jvm.Cond.methodLink "SwingUnits$DayEnd" (49 : Nat) ({ cls := "SwingUnits$DayEnd", name := "shareOut", desc := "(LSwingUnits$Orders;I)V" } : Jvm.MethodName)) ∈ zG := zG_of tw_458 rfl
theorem tg_460 : (Jvm.Cond.instanceMethod ({ cls := "SwingUnits$DayEnd", name := "shareOut", desc := "(LSwingUnits$Orders;I)V" } : Jvm.MethodName)) ∈ zG := zG_of tw_460 rfl
theorem tg_461 : (Jvm.Cond.code ({ cls := "SwingUnits$DayEnd", name := "shareOut", desc := "(LSwingUnits$Orders;I)V" } : Jvm.MethodName) prog_2_method_6_code (11 : Nat) (Option.none : Option Jvm.ClassFile.FieldType)) ∈ zG := zG_of tw_461 rfl
theorem tg_462 : (Jvm.Cond.methodLink "SwingUnits$DayEnd" (112 : Nat) ({ cls := "SwingUnits$DayEnd", name := "shareOutDay", desc := "(LSwingUnits$Orders;IIJJ)V" } : Jvm.MethodName)) ∈ zG := zG_of tw_462 rfl
theorem tg_464 : (Jvm.Cond.instanceMethod ({ cls := "SwingUnits$DayEnd", name := "shareOutDay", desc := "(LSwingUnits$Orders;IIJJ)V" } : Jvm.MethodName)) ∈ zG := zG_of tw_464 rfl
theorem tg_465 : (Jvm.Cond.code ({ cls := "SwingUnits$DayEnd", name := "shareOutDay", desc := "(LSwingUnits$Orders;IIJJ)V" } : Jvm.MethodName) prog_2_method_7_code (11 : Nat) (Option.none : Option Jvm.ClassFile.FieldType)) ∈ zG := zG_of tw_465 rfl
theorem tg_466 : (Jvm.Cond.methodLink "SwingUnits$DayEnd" (53 : Nat) ({ cls := "SwingUnits$DayEnd", name := "payLeavers", desc := "(LSwingUnits$Trust;I)V" } : Jvm.MethodName)) ∈ zG := zG_of tw_466 rfl
theorem tg_468 : (Jvm.Cond.instanceMethod ({ cls := "SwingUnits$DayEnd", name := "payLeavers", desc := "(LSwingUnits$Trust;I)V" } : Jvm.MethodName)) ∈ zG := zG_of tw_468 rfl
theorem tg_469 : (Jvm.Cond.code ({ cls := "SwingUnits$DayEnd", name := "payLeavers", desc := "(LSwingUnits$Trust;I)V" } : Jvm.MethodName) prog_2_method_8_code (5 : Nat) (Option.none : Option Jvm.ClassFile.FieldType)) ∈ zG := zG_of tw_469 rfl
theorem tg_470 : (Jvm.Cond.methodLink "SwingUnits$DayEnd" (119 : Nat) ({ cls := "SwingUnits$DayEnd", name := "payLeaver", desc := "(LSwingUnits$Trust;I)Z" } : Jvm.MethodName)) ∈ zG := zG_of tw_470 rfl
theorem tg_472 : (Jvm.Cond.instanceMethod ({ cls := "SwingUnits$DayEnd", name := "payLeaver", desc := "(LSwingUnits$Trust;I)Z" } : Jvm.MethodName)) ∈ zG := zG_of tw_472 rfl
theorem tg_473 : (Jvm.Cond.code ({ cls := "SwingUnits$DayEnd", name := "payLeaver", desc := "(LSwingUnits$Trust;I)Z" } : Jvm.MethodName) prog_2_method_9_code (7 : Nat) (Option.some Jvm.ClassFile.FieldType.boolean)) ∈ zG := zG_of tw_473 rfl
theorem tg_474 : (Jvm.Cond.methodLink "SwingUnits$DayEnd" (129 : Nat) ({ cls := "SwingUnits$Trust", name := "sellFor", desc := "(J)I" } : Jvm.MethodName)) ∈ zG := zG_of tw_474 rfl
theorem tg_475 : (Jvm.Cond.instanceMethod ({ cls := "SwingUnits$Trust", name := "sellFor", desc := "(J)I" } : Jvm.MethodName)) ∈ zG := zG_of tw_475 rfl
theorem tg_476 : (Jvm.Cond.selects "SwingUnits$Trust" ({ cls := "SwingUnits$Trust", name := "sellFor", desc := "(J)I" } : Jvm.MethodName) ({ cls := "SwingUnits$Trust", name := "sellFor", desc := "(J)I" } : Jvm.MethodName)) ∈ zG := zG_of tw_476 rfl
theorem tg_477 : (Jvm.Cond.code ({ cls := "SwingUnits$Trust", name := "sellFor", desc := "(J)I" } : Jvm.MethodName) prog_8_method_19_code (7 : Nat) (Option.some Jvm.ClassFile.FieldType.int)) ∈ zG := zG_of tw_477 rfl
theorem tg_483 : (Jvm.Cond.methodLink "SwingUnits$DayEnd" (142 : Nat) ({ cls := "SwingUnits$Trust", name := "takeUnits", desc := "(LSwingUnits$Holder;JJJ)V" } : Jvm.MethodName)) ∈ zG := zG_of tw_483 rfl
theorem tg_484 : (Jvm.Cond.methodLink "SwingUnits$DayEnd" (123 : Nat) ({ cls := "SwingUnits$Orders", name := "dropEmpty", desc := "()V" } : Jvm.MethodName)) ∈ zG := zG_of tw_484 rfl
theorem tg_485 : (Jvm.Cond.instanceMethod ({ cls := "SwingUnits$Orders", name := "dropEmpty", desc := "()V" } : Jvm.MethodName)) ∈ zG := zG_of tw_485 rfl
theorem tg_486 : (Jvm.Cond.selects "SwingUnits$Orders" ({ cls := "SwingUnits$Orders", name := "dropEmpty", desc := "()V" } : Jvm.MethodName) ({ cls := "SwingUnits$Orders", name := "dropEmpty", desc := "()V" } : Jvm.MethodName)) ∈ zG := zG_of tw_486 rfl
theorem tg_487 : (Jvm.Cond.code ({ cls := "SwingUnits$Orders", name := "dropEmpty", desc := "()V" } : Jvm.MethodName) prog_6_method_9_code (3 : Nat) (Option.none : Option Jvm.ClassFile.FieldType)) ∈ zG := zG_of tw_487 rfl
theorem tg_488 : (Jvm.Cond.methodLink "SwingUnits$DayEnd" (60 : Nat) ({ cls := "SwingUnits$DayEnd", name := "doBuyers", desc := "(LSwingUnits$Trust;I)V" } : Jvm.MethodName)) ∈ zG := zG_of tw_488 rfl
theorem tg_490 : (Jvm.Cond.instanceMethod ({ cls := "SwingUnits$DayEnd", name := "doBuyers", desc := "(LSwingUnits$Trust;I)V" } : Jvm.MethodName)) ∈ zG := zG_of tw_490 rfl
theorem tg_491 : (Jvm.Cond.code ({ cls := "SwingUnits$DayEnd", name := "doBuyers", desc := "(LSwingUnits$Trust;I)V" } : Jvm.MethodName) prog_2_method_10_code (8 : Nat) (Option.none : Option Jvm.ClassFile.FieldType)) ∈ zG := zG_of tw_491 rfl
theorem tg_492 : (Jvm.Cond.constantLong "SwingUnits$DayEnd" (152 : Nat) (1000000000 : Int64)) ∈ zG := zG_of tw_492 rfl
theorem tg_493 : (Jvm.Cond.methodLink "SwingUnits$DayEnd" (157 : Nat) ({ cls := "SwingUnits$Trust", name := "makeUnits", desc := "(LSwingUnits$Holder;JJJ)V" } : Jvm.MethodName)) ∈ zG := zG_of tw_493 rfl
theorem tg_494 : (Jvm.Cond.instanceMethod ({ cls := "SwingUnits$Trust", name := "makeUnits", desc := "(LSwingUnits$Holder;JJJ)V" } : Jvm.MethodName)) ∈ zG := zG_of tw_494 rfl
theorem tg_495 : (Jvm.Cond.selects "SwingUnits$Trust" ({ cls := "SwingUnits$Trust", name := "makeUnits", desc := "(LSwingUnits$Holder;JJJ)V" } : Jvm.MethodName) ({ cls := "SwingUnits$Trust", name := "makeUnits", desc := "(LSwingUnits$Holder;JJJ)V" } : Jvm.MethodName)) ∈ zG := zG_of tw_495 rfl
theorem tg_496 : (Jvm.Cond.code ({ cls := "SwingUnits$Trust", name := "makeUnits", desc := "(LSwingUnits$Holder;JJJ)V" } : Jvm.MethodName) prog_8_method_17_code (10 : Nat) (Option.none : Option Jvm.ClassFile.FieldType)) ∈ zG := zG_of tw_496 rfl
theorem tgv_571 : (Jvm.Cond.methodLink "SwingUnitsLaw" (58 : Nat) ({ cls := "SwingUnits", name := "lastDay", desc := "(I)I" } : Jvm.MethodName)) ∈ zG := zG_of tv_571 rfl
theorem tg_549 : (Jvm.Cond.instanceMethod ({ cls := "SwingUnits", name := "lastDay", desc := "(I)I" } : Jvm.MethodName)) ∈ zG := zG_of tw_549 rfl
theorem tg_550 : (Jvm.Cond.selects "SwingUnits" ({ cls := "SwingUnits", name := "lastDay", desc := "(I)I" } : Jvm.MethodName) ({ cls := "SwingUnits", name := "lastDay", desc := "(I)I" } : Jvm.MethodName)) ∈ zG := zG_of tw_550 rfl
theorem tg_551 : (Jvm.Cond.code ({ cls := "SwingUnits", name := "lastDay", desc := "(I)I" } : Jvm.MethodName) prog_1_method_14_code (3 : Nat) (Option.some Jvm.ClassFile.FieldType.int)) ∈ zG := zG_of tw_551 rfl
theorem tgv_575 : (Jvm.Cond.methodLink "SwingUnitsLaw" (100 : Nat) ({ cls := "SwingUnits", name := "income", desc := "(I)I" } : Jvm.MethodName)) ∈ zG := zG_of tv_575 rfl
theorem tg_514 : (Jvm.Cond.instanceMethod ({ cls := "SwingUnits", name := "income", desc := "(I)I" } : Jvm.MethodName)) ∈ zG := zG_of tw_514 rfl
theorem tg_515 : (Jvm.Cond.selects "SwingUnits" ({ cls := "SwingUnits", name := "income", desc := "(I)I" } : Jvm.MethodName) ({ cls := "SwingUnits", name := "income", desc := "(I)I" } : Jvm.MethodName)) ∈ zG := zG_of tw_515 rfl
theorem tg_516 : (Jvm.Cond.code ({ cls := "SwingUnits", name := "income", desc := "(I)I" } : Jvm.MethodName) prog_1_method_9_code (2 : Nat) (Option.some Jvm.ClassFile.FieldType.int)) ∈ zG := zG_of tw_516 rfl
theorem tg_517 : (Jvm.Cond.methodLink "SwingUnits" (80 : Nat) ({ cls := "SwingUnits$Trust", name := "takeIncome", desc := "(I)I" } : Jvm.MethodName)) ∈ zG := zG_of tw_517 rfl
theorem tg_518 : (Jvm.Cond.instanceMethod ({ cls := "SwingUnits$Trust", name := "takeIncome", desc := "(I)I" } : Jvm.MethodName)) ∈ zG := zG_of tw_518 rfl
theorem tg_519 : (Jvm.Cond.selects "SwingUnits$Trust" ({ cls := "SwingUnits$Trust", name := "takeIncome", desc := "(I)I" } : Jvm.MethodName) ({ cls := "SwingUnits$Trust", name := "takeIncome", desc := "(I)I" } : Jvm.MethodName)) ∈ zG := zG_of tw_519 rfl
theorem tg_520 : (Jvm.Cond.code ({ cls := "SwingUnits$Trust", name := "takeIncome", desc := "(I)I" } : Jvm.MethodName) prog_8_method_15_code (2 : Nat) (Option.some Jvm.ClassFile.FieldType.int)) ∈ zG := zG_of tw_520 rfl
theorem tgv_583 : (Jvm.Cond.methodLink "SwingUnitsLaw" (103 : Nat) ({ cls := "SwingUnitsLaw", name := "pay", desc := "(LSwingUnits;)Z" } : Jvm.MethodName)) ∈ zG := zG_of tv_583 rfl
theorem tgv_584 : (Jvm.Cond.static ({ cls := "SwingUnitsLaw", name := "pay", desc := "(LSwingUnits;)Z" } : Jvm.MethodName)) ∈ zG := zG_of tv_584 rfl
theorem tgv_585 : (Jvm.Cond.code ({ cls := "SwingUnitsLaw", name := "pay", desc := "(LSwingUnits;)Z" } : Jvm.MethodName) method_10_code (12 : Nat) (Option.some Jvm.ClassFile.FieldType.boolean)) ∈ zG := zG_of tv_585 rfl
theorem tgv_586 : (Jvm.Cond.methodLink "SwingUnitsLaw" (110 : Nat) ({ cls := "SwingUnits", name := "pay", desc := "()I" } : Jvm.MethodName)) ∈ zG := zG_of tv_586 rfl
theorem tg_522 : (Jvm.Cond.instanceMethod ({ cls := "SwingUnits", name := "pay", desc := "()I" } : Jvm.MethodName)) ∈ zG := zG_of tw_522 rfl
theorem tg_523 : (Jvm.Cond.selects "SwingUnits" ({ cls := "SwingUnits", name := "pay", desc := "()I" } : Jvm.MethodName) ({ cls := "SwingUnits", name := "pay", desc := "()I" } : Jvm.MethodName)) ∈ zG := zG_of tw_523 rfl
theorem tg_524 : (Jvm.Cond.code ({ cls := "SwingUnits", name := "pay", desc := "()I" } : Jvm.MethodName) prog_1_method_10_code (1 : Nat) (Option.some Jvm.ClassFile.FieldType.int)) ∈ zG := zG_of tw_524 rfl
theorem tg_525 : (Jvm.Cond.methodLink "SwingUnits" (83 : Nat) ({ cls := "SwingUnits$Trust", name := "payIncome", desc := "()I" } : Jvm.MethodName)) ∈ zG := zG_of tw_525 rfl
theorem tg_526 : (Jvm.Cond.instanceMethod ({ cls := "SwingUnits$Trust", name := "payIncome", desc := "()I" } : Jvm.MethodName)) ∈ zG := zG_of tw_526 rfl
theorem tg_527 : (Jvm.Cond.selects "SwingUnits$Trust" ({ cls := "SwingUnits$Trust", name := "payIncome", desc := "()I" } : Jvm.MethodName) ({ cls := "SwingUnits$Trust", name := "payIncome", desc := "()I" } : Jvm.MethodName)) ∈ zG := zG_of tw_527 rfl
theorem tg_528 : (Jvm.Cond.code ({ cls := "SwingUnits$Trust", name := "payIncome", desc := "()I" } : Jvm.MethodName) prog_8_method_16_code (13 : Nat) (Option.some Jvm.ClassFile.FieldType.int)) ∈ zG := zG_of tw_528 rfl
theorem tgv_594 : (Jvm.Cond.methodLink "SwingUnitsLaw" (106 : Nat) ({ cls := "SwingUnitsLaw", name := "text", desc := "(LSwingUnits;II)Z" } : Jvm.MethodName)) ∈ zG := zG_of tv_594 rfl
theorem tgv_595 : (Jvm.Cond.static ({ cls := "SwingUnitsLaw", name := "text", desc := "(LSwingUnits;II)Z" } : Jvm.MethodName)) ∈ zG := zG_of tv_595 rfl
theorem tgv_596 : (Jvm.Cond.code ({ cls := "SwingUnitsLaw", name := "text", desc := "(LSwingUnits;II)Z" } : Jvm.MethodName) method_13_code (17 : Nat) (Option.some Jvm.ClassFile.FieldType.boolean)) ∈ zG := zG_of tv_596 rfl
theorem tgv_597 : (Jvm.Cond.methodLink "SwingUnitsLaw" (124 : Nat) ({ cls := "SwingUnits", name := "wipe", desc := "()I" } : Jvm.MethodName)) ∈ zG := zG_of tv_597 rfl
theorem tg_588 : (Jvm.Cond.instanceMethod ({ cls := "SwingUnits", name := "wipe", desc := "()I" } : Jvm.MethodName)) ∈ zG := zG_of tw_588 rfl
theorem tg_589 : (Jvm.Cond.selects "SwingUnits" ({ cls := "SwingUnits", name := "wipe", desc := "()I" } : Jvm.MethodName) ({ cls := "SwingUnits", name := "wipe", desc := "()I" } : Jvm.MethodName)) ∈ zG := zG_of tw_589 rfl
theorem tg_590 : (Jvm.Cond.code ({ cls := "SwingUnits", name := "wipe", desc := "()I" } : Jvm.MethodName) prog_1_method_19_code (1 : Nat) (Option.some Jvm.ClassFile.FieldType.int)) ∈ zG := zG_of tw_590 rfl
theorem tg_591 : (Jvm.Cond.methodLink "SwingUnits" (239 : Nat) ({ cls := "SwingUnits$Pad", name := "empty", desc := "()I" } : Jvm.MethodName)) ∈ zG := zG_of tw_591 rfl
theorem tg_592 : (Jvm.Cond.instanceMethod ({ cls := "SwingUnits$Pad", name := "empty", desc := "()I" } : Jvm.MethodName)) ∈ zG := zG_of tw_592 rfl
theorem tg_593 : (Jvm.Cond.selects "SwingUnits$Pad" ({ cls := "SwingUnits$Pad", name := "empty", desc := "()I" } : Jvm.MethodName) ({ cls := "SwingUnits$Pad", name := "empty", desc := "()I" } : Jvm.MethodName)) ∈ zG := zG_of tw_593 rfl
theorem tg_594 : (Jvm.Cond.code ({ cls := "SwingUnits$Pad", name := "empty", desc := "()I" } : Jvm.MethodName) prog_7_method_5_code (2 : Nat) (Option.some Jvm.ClassFile.FieldType.int)) ∈ zG := zG_of tw_594 rfl
theorem tgv_605 : (Jvm.Cond.methodLink "SwingUnitsLaw" (127 : Nat) ({ cls := "SwingUnitsLaw", name := "type", desc := "(LSwingUnits;IIIIIIII)Z" } : Jvm.MethodName)) ∈ zG := zG_of tv_605 rfl
theorem tgv_606 : (Jvm.Cond.static ({ cls := "SwingUnitsLaw", name := "type", desc := "(LSwingUnits;IIIIIIII)Z" } : Jvm.MethodName)) ∈ zG := zG_of tv_606 rfl
theorem tgv_607 : (Jvm.Cond.code ({ cls := "SwingUnitsLaw", name := "type", desc := "(LSwingUnits;IIIIIIII)Z" } : Jvm.MethodName) method_12_code (11 : Nat) (Option.some Jvm.ClassFile.FieldType.boolean)) ∈ zG := zG_of tv_607 rfl
theorem tgv_608 : (Jvm.Cond.methodLink "SwingUnitsLaw" (120 : Nat) ({ cls := "SwingUnits", name := "put", desc := "(J)I" } : Jvm.MethodName)) ∈ zG := zG_of tv_608 rfl
theorem tg_574 : (Jvm.Cond.instanceMethod ({ cls := "SwingUnits", name := "put", desc := "(J)I" } : Jvm.MethodName)) ∈ zG := zG_of tw_574 rfl
theorem tg_575 : (Jvm.Cond.selects "SwingUnits" ({ cls := "SwingUnits", name := "put", desc := "(J)I" } : Jvm.MethodName) ({ cls := "SwingUnits", name := "put", desc := "(J)I" } : Jvm.MethodName)) ∈ zG := zG_of tw_575 rfl
theorem tg_576 : (Jvm.Cond.code ({ cls := "SwingUnits", name := "put", desc := "(J)I" } : Jvm.MethodName) prog_1_method_18_code (4 : Nat) (Option.some Jvm.ClassFile.FieldType.int)) ∈ zG := zG_of tw_576 rfl
theorem tg_577 : (Jvm.Cond.methodLink "SwingUnits" (231 : Nat) ({ cls := "SwingUnits$Pad", name := "countCharacters", desc := "(J)I" } : Jvm.MethodName)) ∈ zG := zG_of tw_577 rfl
theorem tg_578 : (Jvm.Cond.static ({ cls := "SwingUnits$Pad", name := "countCharacters", desc := "(J)I" } : Jvm.MethodName)) ∈ zG := zG_of tw_578 rfl
theorem tg_579 : (Jvm.Cond.code ({ cls := "SwingUnits$Pad", name := "countCharacters", desc := "(J)I" } : Jvm.MethodName) prog_7_method_2_code (7 : Nat) (Option.some Jvm.ClassFile.FieldType.int)) ∈ zG := zG_of tw_579 rfl
theorem tg_580 : (Jvm.Cond.constantLong "SwingUnits$Pad" (15 : Nat) (255 : Int64)) ∈ zG := zG_of tw_580 rfl
theorem tg_581 : (Jvm.Cond.constantLong "SwingUnits$Pad" (17 : Nat) (33 : Int64)) ∈ zG := zG_of tw_581 rfl
theorem tg_582 : (Jvm.Cond.constantLong "SwingUnits$Pad" (19 : Nat) (126 : Int64)) ∈ zG := zG_of tw_582 rfl
theorem tg_583 : (Jvm.Cond.methodLink "SwingUnits" (235 : Nat) ({ cls := "SwingUnits$Pad", name := "append", desc := "(JI)V" } : Jvm.MethodName)) ∈ zG := zG_of tw_583 rfl
theorem tg_584 : (Jvm.Cond.instanceMethod ({ cls := "SwingUnits$Pad", name := "append", desc := "(JI)V" } : Jvm.MethodName)) ∈ zG := zG_of tw_584 rfl
theorem tg_585 : (Jvm.Cond.selects "SwingUnits$Pad" ({ cls := "SwingUnits$Pad", name := "append", desc := "(JI)V" } : Jvm.MethodName) ({ cls := "SwingUnits$Pad", name := "append", desc := "(JI)V" } : Jvm.MethodName)) ∈ zG := zG_of tw_585 rfl
theorem tg_586 : (Jvm.Cond.code ({ cls := "SwingUnits$Pad", name := "append", desc := "(JI)V" } : Jvm.MethodName) prog_7_method_3_code (5 : Nat) (Option.none : Option Jvm.ClassFile.FieldType)) ∈ zG := zG_of tw_586 rfl
theorem tgv_622 : (Jvm.Cond.methodLink "SwingUnitsLaw" (131 : Nat) ({ cls := "SwingUnits", name := "fault", desc := "()I" } : Jvm.MethodName)) ∈ zG := zG_of tv_622 rfl
theorem tg_596 : (Jvm.Cond.instanceMethod ({ cls := "SwingUnits", name := "fault", desc := "()I" } : Jvm.MethodName)) ∈ zG := zG_of tw_596 rfl
theorem tg_597 : (Jvm.Cond.selects "SwingUnits" ({ cls := "SwingUnits", name := "fault", desc := "()I" } : Jvm.MethodName) ({ cls := "SwingUnits", name := "fault", desc := "()I" } : Jvm.MethodName)) ∈ zG := zG_of tw_597 rfl
theorem tg_598 : (Jvm.Cond.code ({ cls := "SwingUnits", name := "fault", desc := "()I" } : Jvm.MethodName) prog_1_method_20_code (1 : Nat) (Option.some Jvm.ClassFile.FieldType.int)) ∈ zG := zG_of tw_598 rfl
theorem tg_599 : (Jvm.Cond.methodLink "SwingUnits" (242 : Nat) ({ cls := "SwingUnits$Pad", name := "findFault", desc := "()I" } : Jvm.MethodName)) ∈ zG := zG_of tw_599 rfl
theorem tg_600 : (Jvm.Cond.instanceMethod ({ cls := "SwingUnits$Pad", name := "findFault", desc := "()I" } : Jvm.MethodName)) ∈ zG := zG_of tw_600 rfl
theorem tg_601 : (Jvm.Cond.selects "SwingUnits$Pad" ({ cls := "SwingUnits$Pad", name := "findFault", desc := "()I" } : Jvm.MethodName) ({ cls := "SwingUnits$Pad", name := "findFault", desc := "()I" } : Jvm.MethodName)) ∈ zG := zG_of tw_601 rfl
theorem tg_602 : (Jvm.Cond.code ({ cls := "SwingUnits$Pad", name := "findFault", desc := "()I" } : Jvm.MethodName) prog_7_method_7_code (2 : Nat) (Option.some Jvm.ClassFile.FieldType.int)) ∈ zG := zG_of tw_602 rfl
theorem tg_603 : (Jvm.Cond.methodLink "SwingUnits$Pad" (28 : Nat) ({ cls := "SwingUnits$Pad", name := "start", desc := "()V" } : Jvm.MethodName)) ∈ zG := zG_of tw_603 rfl
theorem tg_604 : (Jvm.Cond.instanceMethod ({ cls := "SwingUnits$Pad", name := "start", desc := "()V" } : Jvm.MethodName)) ∈ zG := zG_of tw_604 rfl
theorem tg_605 : (Jvm.Cond.selects "SwingUnits$Pad" ({ cls := "SwingUnits$Pad", name := "start", desc := "()V" } : Jvm.MethodName) ({ cls := "SwingUnits$Pad", name := "start", desc := "()V" } : Jvm.MethodName)) ∈ zG := zG_of tw_605 rfl
theorem tg_606 : (Jvm.Cond.code ({ cls := "SwingUnits$Pad", name := "start", desc := "()V" } : Jvm.MethodName) prog_7_method_6_code (1 : Nat) (Option.none : Option Jvm.ClassFile.FieldType)) ∈ zG := zG_of tw_606 rfl
theorem tg_607 : (Jvm.Cond.methodLink "SwingUnits$Pad" (31 : Nat) ({ cls := "SwingUnits$Pad", name := "readOrder", desc := "()Z" } : Jvm.MethodName)) ∈ zG := zG_of tw_607 rfl
theorem tg_608 : (Jvm.Cond.instanceMethod ({ cls := "SwingUnits$Pad", name := "readOrder", desc := "()Z" } : Jvm.MethodName)) ∈ zG := zG_of tw_608 rfl
theorem tg_609 : (Jvm.Cond.selects "SwingUnits$Pad" ({ cls := "SwingUnits$Pad", name := "readOrder", desc := "()Z" } : Jvm.MethodName) ({ cls := "SwingUnits$Pad", name := "readOrder", desc := "()Z" } : Jvm.MethodName)) ∈ zG := zG_of tw_609 rfl
theorem tg_610 : (Jvm.Cond.code ({ cls := "SwingUnits$Pad", name := "readOrder", desc := "()Z" } : Jvm.MethodName) prog_7_method_8_code (1 : Nat) (Option.some Jvm.ClassFile.FieldType.boolean)) ∈ zG := zG_of tw_610 rfl
theorem tg_611 : (Jvm.Cond.methodLink "SwingUnits$Pad" (39 : Nat) ({ cls := "SwingUnits$Pad", name := "signAt", desc := "(I)C" } : Jvm.MethodName)) ∈ zG := zG_of tw_611 rfl
theorem tg_612 : (Jvm.Cond.instanceMethod ({ cls := "SwingUnits$Pad", name := "signAt", desc := "(I)C" } : Jvm.MethodName)) ∈ zG := zG_of tw_612 rfl
theorem tg_613 : (Jvm.Cond.selects "SwingUnits$Pad" ({ cls := "SwingUnits$Pad", name := "signAt", desc := "(I)C" } : Jvm.MethodName) ({ cls := "SwingUnits$Pad", name := "signAt", desc := "(I)C" } : Jvm.MethodName)) ∈ zG := zG_of tw_613 rfl
theorem tg_614 : (Jvm.Cond.code ({ cls := "SwingUnits$Pad", name := "signAt", desc := "(I)C" } : Jvm.MethodName) prog_7_method_4_code (2 : Nat) (Option.some Jvm.ClassFile.FieldType.char)) ∈ zG := zG_of tw_614 rfl
theorem tg_615 : (Jvm.Cond.methodLink "SwingUnits$Pad" (47 : Nat) ({ cls := "SwingUnits$Pad", name := "readDeal", desc := "()Z" } : Jvm.MethodName)) ∈ zG := zG_of tw_615 rfl
theorem tg_617 : (Jvm.Cond.instanceMethod ({ cls := "SwingUnits$Pad", name := "readDeal", desc := "()Z" } : Jvm.MethodName)) ∈ zG := zG_of tw_617 rfl
theorem tg_618 : (Jvm.Cond.code ({ cls := "SwingUnits$Pad", name := "readDeal", desc := "()Z" } : Jvm.MethodName) prog_7_method_10_code (1 : Nat) (Option.some Jvm.ClassFile.FieldType.boolean)) ∈ zG := zG_of tw_618 rfl
theorem tg_619 : (Jvm.Cond.methodLink "SwingUnits$Pad" (58 : Nat) ({ cls := "SwingUnits$Pad", name := "digitAt", desc := "()I" } : Jvm.MethodName)) ∈ zG := zG_of tw_619 rfl
theorem tg_621 : (Jvm.Cond.instanceMethod ({ cls := "SwingUnits$Pad", name := "digitAt", desc := "()I" } : Jvm.MethodName)) ∈ zG := zG_of tw_621 rfl
theorem tg_622 : (Jvm.Cond.code ({ cls := "SwingUnits$Pad", name := "digitAt", desc := "()I" } : Jvm.MethodName) prog_7_method_12_code (2 : Nat) (Option.some Jvm.ClassFile.FieldType.int)) ∈ zG := zG_of tw_622 rfl
theorem tg_624 : (Jvm.Cond.methodLink "SwingUnits$Pad" (35 : Nat) ({ cls := "SwingUnits$Pad", name := "skip", desc := "(C)Z" } : Jvm.MethodName)) ∈ zG := zG_of tw_624 rfl
theorem tg_625 : (Jvm.Cond.instanceMethod ({ cls := "SwingUnits$Pad", name := "skip", desc := "(C)Z" } : Jvm.MethodName)) ∈ zG := zG_of tw_625 rfl
theorem tg_626 : (Jvm.Cond.selects "SwingUnits$Pad" ({ cls := "SwingUnits$Pad", name := "skip", desc := "(C)Z" } : Jvm.MethodName) ({ cls := "SwingUnits$Pad", name := "skip", desc := "(C)Z" } : Jvm.MethodName)) ∈ zG := zG_of tw_626 rfl
theorem tg_627 : (Jvm.Cond.code ({ cls := "SwingUnits$Pad", name := "skip", desc := "(C)Z" } : Jvm.MethodName) prog_7_method_9_code (2 : Nat) (Option.some Jvm.ClassFile.FieldType.boolean)) ∈ zG := zG_of tw_627 rfl
theorem tg_628 : (Jvm.Cond.constant "SwingUnits$Pad" (50 : Nat) (1000000 : Int32)) ∈ zG := zG_of tw_628 rfl
theorem tg_629 : (Jvm.Cond.methodLink "SwingUnits$Pad" (51 : Nat) ({ cls := "SwingUnits$Pad", name := "readNumber", desc := "(I)I" } : Jvm.MethodName)) ∈ zG := zG_of tw_629 rfl
theorem tg_631 : (Jvm.Cond.instanceMethod ({ cls := "SwingUnits$Pad", name := "readNumber", desc := "(I)I" } : Jvm.MethodName)) ∈ zG := zG_of tw_631 rfl
theorem tg_632 : (Jvm.Cond.code ({ cls := "SwingUnits$Pad", name := "readNumber", desc := "(I)I" } : Jvm.MethodName) prog_7_method_11_code (4 : Nat) (Option.some Jvm.ClassFile.FieldType.int)) ∈ zG := zG_of tw_632 rfl
theorem tgv_660 : (Jvm.Cond.methodLink "SwingUnitsLaw" (134 : Nat) ({ cls := "SwingUnitsLaw", name := "print", desc := "(LSwingUnits;)J" } : Jvm.MethodName)) ∈ zG := zG_of tv_660 rfl
theorem tgv_661 : (Jvm.Cond.static ({ cls := "SwingUnitsLaw", name := "print", desc := "(LSwingUnits;)J" } : Jvm.MethodName)) ∈ zG := zG_of tv_661 rfl
theorem tgv_662 : (Jvm.Cond.code ({ cls := "SwingUnitsLaw", name := "print", desc := "(LSwingUnits;)J" } : Jvm.MethodName) method_5_code (6 : Nat) (Option.some Jvm.ClassFile.FieldType.long)) ∈ zG := zG_of tv_662 rfl
theorem tgv_663 : (Jvm.Cond.constantLong "SwingUnitsLaw" (43 : Nat) (7 : Int64)) ∈ zG := zG_of tv_663 rfl
theorem tgv_664 : (Jvm.Cond.constantLong "SwingUnitsLaw" (45 : Nat) (31 : Int64)) ∈ zG := zG_of tv_664 rfl
theorem tgv_665 : (Jvm.Cond.methodLink "SwingUnitsLaw" (137 : Nat) ({ cls := "SwingUnits", name := "carryOut", desc := "()I" } : Jvm.MethodName)) ∈ zG := zG_of tv_665 rfl
theorem tg_634 : (Jvm.Cond.instanceMethod ({ cls := "SwingUnits", name := "carryOut", desc := "()I" } : Jvm.MethodName)) ∈ zG := zG_of tw_634 rfl
theorem tg_635 : (Jvm.Cond.selects "SwingUnits" ({ cls := "SwingUnits", name := "carryOut", desc := "()I" } : Jvm.MethodName) ({ cls := "SwingUnits", name := "carryOut", desc := "()I" } : Jvm.MethodName)) ∈ zG := zG_of tw_635 rfl
theorem tg_636 : (Jvm.Cond.code ({ cls := "SwingUnits", name := "carryOut", desc := "()I" } : Jvm.MethodName) prog_1_method_21_code (2 : Nat) (Option.some Jvm.ClassFile.FieldType.int)) ∈ zG := zG_of tw_636 rfl
theorem tg_637 : (Jvm.Cond.methodLink "SwingUnits" (245 : Nat) ({ cls := "SwingUnits", name := "carryOutOrders", desc := "()I" } : Jvm.MethodName)) ∈ zG := zG_of tw_637 rfl
theorem tg_639 : (Jvm.Cond.instanceMethod ({ cls := "SwingUnits", name := "carryOutOrders", desc := "()I" } : Jvm.MethodName)) ∈ zG := zG_of tw_639 rfl
theorem tg_640 : (Jvm.Cond.code ({ cls := "SwingUnits", name := "carryOutOrders", desc := "()I" } : Jvm.MethodName) prog_1_method_25_code (2 : Nat) (Option.some Jvm.ClassFile.FieldType.int)) ∈ zG := zG_of tw_640 rfl
theorem tg_641 : (Jvm.Cond.methodLink "SwingUnits" (251 : Nat) ({ cls := "SwingUnits$Pad", name := "start", desc := "()V" } : Jvm.MethodName)) ∈ zG := zG_of tw_641 rfl
theorem tg_642 : (Jvm.Cond.methodLink "SwingUnits" (254 : Nat) ({ cls := "SwingUnits$Pad", name := "readOrder", desc := "()Z" } : Jvm.MethodName)) ∈ zG := zG_of tw_642 rfl
theorem tg_643 : (Jvm.Cond.methodLink "SwingUnits" (258 : Nat) ({ cls := "SwingUnits", name := "carryOutOrder", desc := "()I" } : Jvm.MethodName)) ∈ zG := zG_of tw_643 rfl
theorem tg_645 : (Jvm.Cond.instanceMethod ({ cls := "SwingUnits", name := "carryOutOrder", desc := "()I" } : Jvm.MethodName)) ∈ zG := zG_of tw_645 rfl
theorem tg_646 : (Jvm.Cond.code ({ cls := "SwingUnits", name := "carryOutOrder", desc := "()I" } : Jvm.MethodName) prog_1_method_26_code (1 : Nat) (Option.some Jvm.ClassFile.FieldType.int)) ∈ zG := zG_of tw_646 rfl
theorem tg_647 : (Jvm.Cond.methodLink "SwingUnits" (261 : Nat) ({ cls := "SwingUnits$Pad", name := "skip", desc := "(C)Z" } : Jvm.MethodName)) ∈ zG := zG_of tw_647 rfl
theorem tgv_680 : (Jvm.Cond.methodLink "SwingUnitsLaw" (140 : Nat) ({ cls := "SwingUnits", name := "undo", desc := "()I" } : Jvm.MethodName)) ∈ zG := zG_of tv_680 rfl
theorem tg_649 : (Jvm.Cond.instanceMethod ({ cls := "SwingUnits", name := "undo", desc := "()I" } : Jvm.MethodName)) ∈ zG := zG_of tw_649 rfl
theorem tg_650 : (Jvm.Cond.selects "SwingUnits" ({ cls := "SwingUnits", name := "undo", desc := "()I" } : Jvm.MethodName) ({ cls := "SwingUnits", name := "undo", desc := "()I" } : Jvm.MethodName)) ∈ zG := zG_of tw_650 rfl
theorem tg_651 : (Jvm.Cond.code ({ cls := "SwingUnits", name := "undo", desc := "()I" } : Jvm.MethodName) prog_1_method_22_code (1 : Nat) (Option.some Jvm.ClassFile.FieldType.int)) ∈ zG := zG_of tw_651 rfl
theorem tg_652 : (Jvm.Cond.methodLink "SwingUnits" (248 : Nat) ({ cls := "SwingUnits$History", name := "takeBack", desc := "(LSwingUnits$Trust;)V" } : Jvm.MethodName)) ∈ zG := zG_of tw_652 rfl
theorem tg_653 : (Jvm.Cond.instanceMethod ({ cls := "SwingUnits$History", name := "takeBack", desc := "(LSwingUnits$Trust;)V" } : Jvm.MethodName)) ∈ zG := zG_of tw_653 rfl
theorem tg_654 : (Jvm.Cond.selects "SwingUnits$History" ({ cls := "SwingUnits$History", name := "takeBack", desc := "(LSwingUnits$Trust;)V" } : Jvm.MethodName) ({ cls := "SwingUnits$History", name := "takeBack", desc := "(LSwingUnits$Trust;)V" } : Jvm.MethodName)) ∈ zG := zG_of tw_654 rfl
theorem tg_655 : (Jvm.Cond.code ({ cls := "SwingUnits$History", name := "takeBack", desc := "(LSwingUnits$Trust;)V" } : Jvm.MethodName) prog_3_method_4_code (2 : Nat) (Option.none : Option Jvm.ClassFile.FieldType)) ∈ zG := zG_of tw_655 rfl
theorem tgv_688 : (Jvm.Cond.methodLink "SwingUnitsLaw" (33 : Nat) ({ cls := "SwingUnitsLaw", name := "sound", desc := "(LSwingUnits;)Z" } : Jvm.MethodName)) ∈ zG := zG_of tv_688 rfl
theorem tgv_689 : (Jvm.Cond.static ({ cls := "SwingUnitsLaw", name := "sound", desc := "(LSwingUnits;)Z" } : Jvm.MethodName)) ∈ zG := zG_of tv_689 rfl
theorem tgv_690 : (Jvm.Cond.code ({ cls := "SwingUnitsLaw", name := "sound", desc := "(LSwingUnits;)Z" } : Jvm.MethodName) method_14_code (12 : Nat) (Option.some Jvm.ClassFile.FieldType.boolean)) ∈ zG := zG_of tv_690 rfl
theorem tgv_691 : (Jvm.Cond.methodLink "SwingUnitsLaw" (37 : Nat) ({ cls := "SwingUnitsLaw", name := "comes", desc := "(LSwingUnits;I)Z" } : Jvm.MethodName)) ∈ zG := zG_of tv_691 rfl
theorem tgv_692 : (Jvm.Cond.static ({ cls := "SwingUnitsLaw", name := "comes", desc := "(LSwingUnits;I)Z" } : Jvm.MethodName)) ∈ zG := zG_of tv_692 rfl
theorem tgv_693 : (Jvm.Cond.code ({ cls := "SwingUnitsLaw", name := "comes", desc := "(LSwingUnits;I)Z" } : Jvm.MethodName) method_15_code (14 : Nat) (Option.some Jvm.ClassFile.FieldType.boolean)) ∈ zG := zG_of tv_693 rfl
theorem tgv_694 : (Jvm.Cond.methodLink "SwingUnitsLaw" (143 : Nat) ({ cls := "SwingUnits", name := "exitIn", desc := "(I)I" } : Jvm.MethodName)) ∈ zG := zG_of tv_694 rfl
theorem tg_565 : (Jvm.Cond.instanceMethod ({ cls := "SwingUnits", name := "exitIn", desc := "(I)I" } : Jvm.MethodName)) ∈ zG := zG_of tw_565 rfl
theorem tg_566 : (Jvm.Cond.selects "SwingUnits" ({ cls := "SwingUnits", name := "exitIn", desc := "(I)I" } : Jvm.MethodName) ({ cls := "SwingUnits", name := "exitIn", desc := "(I)I" } : Jvm.MethodName)) ∈ zG := zG_of tw_566 rfl
theorem tg_567 : (Jvm.Cond.code ({ cls := "SwingUnits", name := "exitIn", desc := "(I)I" } : Jvm.MethodName) prog_1_method_16_code (3 : Nat) (Option.some Jvm.ClassFile.FieldType.int)) ∈ zG := zG_of tw_567 rfl
theorem tg_568 : (Jvm.Cond.methodLink "SwingUnits" (228 : Nat) ({ cls := "SwingUnits$Trust", name := "become", desc := "(LSwingUnits$Trust;)V" } : Jvm.MethodName)) ∈ zG := zG_of tw_568 rfl
theorem tgv_699 : (Jvm.Cond.methodLink "SwingUnitsLaw" (146 : Nat) ({ cls := "SwingUnits", name := "save", desc := "(I)I" } : Jvm.MethodName)) ∈ zG := zG_of tv_699 rfl
theorem tg_657 : (Jvm.Cond.instanceMethod ({ cls := "SwingUnits", name := "save", desc := "(I)I" } : Jvm.MethodName)) ∈ zG := zG_of tw_657 rfl
theorem tg_658 : (Jvm.Cond.selects "SwingUnits" ({ cls := "SwingUnits", name := "save", desc := "(I)I" } : Jvm.MethodName) ({ cls := "SwingUnits", name := "save", desc := "(I)I" } : Jvm.MethodName)) ∈ zG := zG_of tw_658 rfl
theorem tg_659 : (Jvm.Cond.code ({ cls := "SwingUnits", name := "save", desc := "(I)I" } : Jvm.MethodName) prog_1_method_23_code (2 : Nat) (Option.some Jvm.ClassFile.FieldType.int)) ∈ zG := zG_of tw_659 rfl
theorem tgv_703 : (Jvm.Cond.methodLink "SwingUnitsLaw" (149 : Nat) ({ cls := "SwingUnits", name := "restore", desc := "(I)I" } : Jvm.MethodName)) ∈ zG := zG_of tv_703 rfl
theorem tg_661 : (Jvm.Cond.instanceMethod ({ cls := "SwingUnits", name := "restore", desc := "(I)I" } : Jvm.MethodName)) ∈ zG := zG_of tw_661 rfl
theorem tg_662 : (Jvm.Cond.selects "SwingUnits" ({ cls := "SwingUnits", name := "restore", desc := "(I)I" } : Jvm.MethodName) ({ cls := "SwingUnits", name := "restore", desc := "(I)I" } : Jvm.MethodName)) ∈ zG := zG_of tw_662 rfl
theorem tg_663 : (Jvm.Cond.code ({ cls := "SwingUnits", name := "restore", desc := "(I)I" } : Jvm.MethodName) prog_1_method_24_code (2 : Nat) (Option.some Jvm.ClassFile.FieldType.int)) ∈ zG := zG_of tw_663 rfl
theorem tgv_707 : (Jvm.Cond.methodLink "SwingUnitsLaw" (152 : Nat) ({ cls := "SwingUnits", name := "fairSwing", desc := "()I" } : Jvm.MethodName)) ∈ zG := zG_of tv_707 rfl
theorem tg_570 : (Jvm.Cond.instanceMethod ({ cls := "SwingUnits", name := "fairSwing", desc := "()I" } : Jvm.MethodName)) ∈ zG := zG_of tw_570 rfl
theorem tg_571 : (Jvm.Cond.selects "SwingUnits" ({ cls := "SwingUnits", name := "fairSwing", desc := "()I" } : Jvm.MethodName) ({ cls := "SwingUnits", name := "fairSwing", desc := "()I" } : Jvm.MethodName)) ∈ zG := zG_of tw_571 rfl
theorem tg_572 : (Jvm.Cond.code ({ cls := "SwingUnits", name := "fairSwing", desc := "()I" } : Jvm.MethodName) prog_1_method_17_code (4 : Nat) (Option.some Jvm.ClassFile.FieldType.int)) ∈ zG := zG_of tw_572 rfl
theorem tgv_711 : (Jvm.Cond.methodLink "SwingUnitsLaw" (40 : Nat) ({ cls := "SwingUnitsLaw", name := "back", desc := "(LSwingUnits;I)Z" } : Jvm.MethodName)) ∈ zG := zG_of tv_711 rfl
theorem tgv_712 : (Jvm.Cond.static ({ cls := "SwingUnitsLaw", name := "back", desc := "(LSwingUnits;I)Z" } : Jvm.MethodName)) ∈ zG := zG_of tv_712 rfl
theorem tgv_713 : (Jvm.Cond.code ({ cls := "SwingUnitsLaw", name := "back", desc := "(LSwingUnits;I)Z" } : Jvm.MethodName) method_16_code (7 : Nat) (Option.some Jvm.ClassFile.FieldType.boolean)) ∈ zG := zG_of tv_713 rfl
theorem tgv_714 : (Jvm.Cond.methodLink "SwingUnitsLaw" (18 : Nat) ({ cls := "SwingUnitsLaw", name := "refused", desc := "(LSwingUnits;I)Z" } : Jvm.MethodName)) ∈ zG := zG_of tv_714 rfl
theorem tgv_715 : (Jvm.Cond.static ({ cls := "SwingUnitsLaw", name := "refused", desc := "(LSwingUnits;I)Z" } : Jvm.MethodName)) ∈ zG := zG_of tv_715 rfl
theorem tgv_716 : (Jvm.Cond.code ({ cls := "SwingUnitsLaw", name := "refused", desc := "(LSwingUnits;I)Z" } : Jvm.MethodName) method_17_code (3 : Nat) (Option.some Jvm.ClassFile.FieldType.boolean)) ∈ zG := zG_of tv_716 rfl
theorem tgv_717 : (Jvm.Cond.constant "SwingUnitsLaw" (155 : Nat) (1000000000 : Int32)) ∈ zG := zG_of tv_717 rfl
theorem tgv_718 : (Jvm.Cond.constant "SwingUnitsLaw" (156 : Nat) (1000001 : Int32)) ∈ zG := zG_of tv_718 rfl
theorem tgv_719 : (Jvm.Cond.constantLong "SwingUnitsLaw" (157 : Nat) (-2 : Int64)) ∈ zG := zG_of tv_719 rfl
theorem tgv_720 : (Jvm.Cond.constantLong "SwingUnitsLaw" (159 : Nat) (-6 : Int64)) ∈ zG := zG_of tv_720 rfl
theorem tgp_0 : (Jvm.Cond.selects "SwingUnits$Orders" ({ cls := "SwingUnits$Orders", name := "write", desc := "(IIII)V" } : Jvm.MethodName) ({ cls := "SwingUnits$Orders", name := "write", desc := "(IIII)V" } : Jvm.MethodName)) ∈ zG := zG_of tp_0 rfl
theorem tgp_1 : (Jvm.Cond.selects "SwingUnits$Trust" ({ cls := "SwingUnits$Trust", name := "dayOf", desc := "(I)I" } : Jvm.MethodName) ({ cls := "SwingUnits$Trust", name := "dayOf", desc := "(I)I" } : Jvm.MethodName)) ∈ zG := zG_of tp_1 rfl
theorem tgp_2 : (Jvm.Cond.selects "SwingUnits$Trust" ({ cls := "SwingUnits$Trust", name := "freeUnits", desc := "(I)J" } : Jvm.MethodName) ({ cls := "SwingUnits$Trust", name := "freeUnits", desc := "(I)J" } : Jvm.MethodName)) ∈ zG := zG_of tp_2 rfl
theorem tgp_3 : (Jvm.Cond.selects "SwingUnits$DayEnd" ({ cls := "SwingUnits$DayEnd", name := "takePrice", desc := "(LSwingUnits$Trust;)V" } : Jvm.MethodName) ({ cls := "SwingUnits$DayEnd", name := "takePrice", desc := "(LSwingUnits$Trust;)V" } : Jvm.MethodName)) ∈ zG := zG_of tp_3 rfl
theorem tgp_4 : (Jvm.Cond.selects "SwingUnits$DayEnd" ({ cls := "SwingUnits$DayEnd", name := "shareOut", desc := "(LSwingUnits$Orders;I)V" } : Jvm.MethodName) ({ cls := "SwingUnits$DayEnd", name := "shareOut", desc := "(LSwingUnits$Orders;I)V" } : Jvm.MethodName)) ∈ zG := zG_of tp_4 rfl
theorem tgp_5 : (Jvm.Cond.selects "SwingUnits$DayEnd" ({ cls := "SwingUnits$DayEnd", name := "shareOutDay", desc := "(LSwingUnits$Orders;IIJJ)V" } : Jvm.MethodName) ({ cls := "SwingUnits$DayEnd", name := "shareOutDay", desc := "(LSwingUnits$Orders;IIJJ)V" } : Jvm.MethodName)) ∈ zG := zG_of tp_5 rfl
theorem tgp_6 : (Jvm.Cond.selects "SwingUnits$DayEnd" ({ cls := "SwingUnits$DayEnd", name := "payLeavers", desc := "(LSwingUnits$Trust;I)V" } : Jvm.MethodName) ({ cls := "SwingUnits$DayEnd", name := "payLeavers", desc := "(LSwingUnits$Trust;I)V" } : Jvm.MethodName)) ∈ zG := zG_of tp_6 rfl
theorem tgp_7 : (Jvm.Cond.selects "SwingUnits$DayEnd" ({ cls := "SwingUnits$DayEnd", name := "payLeaver", desc := "(LSwingUnits$Trust;I)Z" } : Jvm.MethodName) ({ cls := "SwingUnits$DayEnd", name := "payLeaver", desc := "(LSwingUnits$Trust;I)Z" } : Jvm.MethodName)) ∈ zG := zG_of tp_7 rfl
theorem tgp_8 : (Jvm.Cond.selects "SwingUnits$DayEnd" ({ cls := "SwingUnits$DayEnd", name := "doBuyers", desc := "(LSwingUnits$Trust;I)V" } : Jvm.MethodName) ({ cls := "SwingUnits$DayEnd", name := "doBuyers", desc := "(LSwingUnits$Trust;I)V" } : Jvm.MethodName)) ∈ zG := zG_of tp_8 rfl
theorem tgp_9 : (Jvm.Cond.selects "SwingUnits$Pad" ({ cls := "SwingUnits$Pad", name := "readDeal", desc := "()Z" } : Jvm.MethodName) ({ cls := "SwingUnits$Pad", name := "readDeal", desc := "()Z" } : Jvm.MethodName)) ∈ zG := zG_of tp_9 rfl
theorem tgp_10 : (Jvm.Cond.selects "SwingUnits$Pad" ({ cls := "SwingUnits$Pad", name := "digitAt", desc := "()I" } : Jvm.MethodName) ({ cls := "SwingUnits$Pad", name := "digitAt", desc := "()I" } : Jvm.MethodName)) ∈ zG := zG_of tp_10 rfl
theorem tgp_11 : (Jvm.Cond.selects "SwingUnits$Pad" ({ cls := "SwingUnits$Pad", name := "readNumber", desc := "(I)I" } : Jvm.MethodName) ({ cls := "SwingUnits$Pad", name := "readNumber", desc := "(I)I" } : Jvm.MethodName)) ∈ zG := zG_of tp_11 rfl
theorem tgp_12 : (Jvm.Cond.selects "SwingUnits" ({ cls := "SwingUnits", name := "carryOutOrders", desc := "()I" } : Jvm.MethodName) ({ cls := "SwingUnits", name := "carryOutOrders", desc := "()I" } : Jvm.MethodName)) ∈ zG := zG_of tp_12 rfl
theorem tgp_13 : (Jvm.Cond.selects "SwingUnits" ({ cls := "SwingUnits", name := "carryOutOrder", desc := "()I" } : Jvm.MethodName) ({ cls := "SwingUnits", name := "carryOutOrder", desc := "()I" } : Jvm.MethodName)) ∈ zG := zG_of tp_13 rfl
theorem inZ0 : ∀ w ∈ u_ws RX0 TX0 7, w ∈ zG := List.forall_mem_cons.mpr ⟨tg_207, List.forall_mem_cons.mpr ⟨tg_209, List.forall_mem_cons.mpr ⟨tg_211, List.forall_mem_cons.mpr ⟨tg_213, List.forall_mem_cons.mpr ⟨tg_215, List.forall_mem_cons.mpr ⟨tg_217, List.forall_mem_cons.mpr ⟨tg_219, fun _ h => absurd h List.not_mem_nil⟩⟩⟩⟩⟩⟩⟩
theorem inZ1 : ∀ w ∈ u_ws RX1 TX1 3, w ∈ zG := List.forall_mem_cons.mpr ⟨tg_270, List.forall_mem_cons.mpr ⟨tg_272, List.forall_mem_cons.mpr ⟨tg_274, fun _ h => absurd h List.not_mem_nil⟩⟩⟩
theorem inZ2 : ∀ w ∈ u_ws RX2 TX2 7, w ∈ zG := List.forall_mem_cons.mpr ⟨tg_53, List.forall_mem_cons.mpr ⟨tg_55, List.forall_mem_cons.mpr ⟨tg_57, List.forall_mem_cons.mpr ⟨tg_59, List.forall_mem_cons.mpr ⟨tg_61, List.forall_mem_cons.mpr ⟨tg_63, List.forall_mem_cons.mpr ⟨tg_65, fun _ h => absurd h List.not_mem_nil⟩⟩⟩⟩⟩⟩⟩
theorem inZ3 : ∀ w ∈ u_ws RX3 TX3 8, w ∈ zG := List.forall_mem_cons.mpr ⟨tg_122, List.forall_mem_cons.mpr ⟨tg_124, List.forall_mem_cons.mpr ⟨tg_126, List.forall_mem_cons.mpr ⟨tg_128, List.forall_mem_cons.mpr ⟨tg_130, List.forall_mem_cons.mpr ⟨tg_132, List.forall_mem_cons.mpr ⟨tg_134, List.forall_mem_cons.mpr ⟨tg_136, fun _ h => absurd h List.not_mem_nil⟩⟩⟩⟩⟩⟩⟩⟩
theorem inZ4 : ∀ w ∈ u_ws RX4 TX4 4, w ∈ zG := List.forall_mem_cons.mpr ⟨tg_86, List.forall_mem_cons.mpr ⟨tg_88, List.forall_mem_cons.mpr ⟨tg_90, List.forall_mem_cons.mpr ⟨tg_92, fun _ h => absurd h List.not_mem_nil⟩⟩⟩⟩
theorem inZ5 : ∀ w ∈ u_ws RX5 TX5 7, w ∈ zG := List.forall_mem_cons.mpr ⟨tg_241, List.forall_mem_cons.mpr ⟨tg_243, List.forall_mem_cons.mpr ⟨tg_245, List.forall_mem_cons.mpr ⟨tg_247, List.forall_mem_cons.mpr ⟨tg_249, List.forall_mem_cons.mpr ⟨tg_251, List.forall_mem_cons.mpr ⟨tg_253, fun _ h => absurd h List.not_mem_nil⟩⟩⟩⟩⟩⟩⟩
theorem inZ6 : ∀ w ∈ u_ws RX6 TX6 11, w ∈ zG := List.forall_mem_cons.mpr ⟨tg_168, List.forall_mem_cons.mpr ⟨tg_170, List.forall_mem_cons.mpr ⟨tg_172, List.forall_mem_cons.mpr ⟨tg_174, List.forall_mem_cons.mpr ⟨tg_176, List.forall_mem_cons.mpr ⟨tg_178, List.forall_mem_cons.mpr ⟨tg_180, List.forall_mem_cons.mpr ⟨tg_182, List.forall_mem_cons.mpr ⟨tg_184, List.forall_mem_cons.mpr ⟨tg_186, List.forall_mem_cons.mpr ⟨tg_188, fun _ h => absurd h List.not_mem_nil⟩⟩⟩⟩⟩⟩⟩⟩⟩⟩⟩
theorem inZ7 : ∀ w ∈ u_ws RX7 TX7 7, w ∈ zG := List.forall_mem_cons.mpr ⟨tg_284, List.forall_mem_cons.mpr ⟨tg_286, List.forall_mem_cons.mpr ⟨tg_288, List.forall_mem_cons.mpr ⟨tg_290, List.forall_mem_cons.mpr ⟨tg_292, List.forall_mem_cons.mpr ⟨tg_294, List.forall_mem_cons.mpr ⟨tg_296, fun _ h => absurd h List.not_mem_nil⟩⟩⟩⟩⟩⟩⟩
theorem hdZ_X0_init : yX0_init.cls ≠ "java/lang/invoke/MethodHandle" ∧ yX0_init.cls ≠ "java/lang/invoke/VarHandle" ∧ (parseMethodDescriptor yX0_init.desc).map (fun d => d.parameters.length) = some 0 := ⟨by decide +kernel, by decide +kernel, by decide +kernel⟩
theorem hdZ_X0_priceOf : yX0_priceOf.cls ≠ "java/lang/invoke/MethodHandle" ∧ yX0_priceOf.cls ≠ "java/lang/invoke/VarHandle" ∧ (parseMethodDescriptor yX0_priceOf.desc).map (fun d => d.parameters.length) = some 1 := ⟨by decide +kernel, by decide +kernel, by decide +kernel⟩
theorem hdZ_X0_run : yX0_run.cls ≠ "java/lang/invoke/MethodHandle" ∧ yX0_run.cls ≠ "java/lang/invoke/VarHandle" ∧ (parseMethodDescriptor yX0_run.desc).map (fun d => d.parameters.length) = some 1 := ⟨by decide +kernel, by decide +kernel, by decide +kernel⟩
theorem hdZ_X0_takePrice : yX0_takePrice.cls ≠ "java/lang/invoke/MethodHandle" ∧ yX0_takePrice.cls ≠ "java/lang/invoke/VarHandle" ∧ (parseMethodDescriptor yX0_takePrice.desc).map (fun d => d.parameters.length) = some 1 := ⟨by decide +kernel, by decide +kernel, by decide +kernel⟩
theorem hdZ_X0_direction : yX0_direction.cls ≠ "java/lang/invoke/MethodHandle" ∧ yX0_direction.cls ≠ "java/lang/invoke/VarHandle" ∧ (parseMethodDescriptor yX0_direction.desc).map (fun d => d.parameters.length) = some 2 := ⟨by decide +kernel, by decide +kernel, by decide +kernel⟩
theorem hdZ_X0_shareOut : yX0_shareOut.cls ≠ "java/lang/invoke/MethodHandle" ∧ yX0_shareOut.cls ≠ "java/lang/invoke/VarHandle" ∧ (parseMethodDescriptor yX0_shareOut.desc).map (fun d => d.parameters.length) = some 2 := ⟨by decide +kernel, by decide +kernel, by decide +kernel⟩
theorem hdZ_X0_shareOutDay : yX0_shareOutDay.cls ≠ "java/lang/invoke/MethodHandle" ∧ yX0_shareOutDay.cls ≠ "java/lang/invoke/VarHandle" ∧ (parseMethodDescriptor yX0_shareOutDay.desc).map (fun d => d.parameters.length) = some 5 := ⟨by decide +kernel, by decide +kernel, by decide +kernel⟩
theorem hdZ_X0_payLeavers : yX0_payLeavers.cls ≠ "java/lang/invoke/MethodHandle" ∧ yX0_payLeavers.cls ≠ "java/lang/invoke/VarHandle" ∧ (parseMethodDescriptor yX0_payLeavers.desc).map (fun d => d.parameters.length) = some 2 := ⟨by decide +kernel, by decide +kernel, by decide +kernel⟩
theorem hdZ_X0_payLeaver : yX0_payLeaver.cls ≠ "java/lang/invoke/MethodHandle" ∧ yX0_payLeaver.cls ≠ "java/lang/invoke/VarHandle" ∧ (parseMethodDescriptor yX0_payLeaver.desc).map (fun d => d.parameters.length) = some 2 := ⟨by decide +kernel, by decide +kernel, by decide +kernel⟩
theorem hdZ_X0_doBuyers : yX0_doBuyers.cls ≠ "java/lang/invoke/MethodHandle" ∧ yX0_doBuyers.cls ≠ "java/lang/invoke/VarHandle" ∧ (parseMethodDescriptor yX0_doBuyers.desc).map (fun d => d.parameters.length) = some 2 := ⟨by decide +kernel, by decide +kernel, by decide +kernel⟩
theorem hdZ_X1_init : yX1_init.cls ≠ "java/lang/invoke/MethodHandle" ∧ yX1_init.cls ≠ "java/lang/invoke/VarHandle" ∧ (parseMethodDescriptor yX1_init.desc).map (fun d => d.parameters.length) = some 0 := ⟨by decide +kernel, by decide +kernel, by decide +kernel⟩
theorem hdZ_X1_hold : yX1_hold.cls ≠ "java/lang/invoke/MethodHandle" ∧ yX1_hold.cls ≠ "java/lang/invoke/VarHandle" ∧ (parseMethodDescriptor yX1_hold.desc).map (fun d => d.parameters.length) = some 1 := ⟨by decide +kernel, by decide +kernel, by decide +kernel⟩
theorem hdZ_X1_keep : yX1_keep.cls ≠ "java/lang/invoke/MethodHandle" ∧ yX1_keep.cls ≠ "java/lang/invoke/VarHandle" ∧ (parseMethodDescriptor yX1_keep.desc).map (fun d => d.parameters.length) = some 1 := ⟨by decide +kernel, by decide +kernel, by decide +kernel⟩
theorem hdZ_X1_takeBack : yX1_takeBack.cls ≠ "java/lang/invoke/MethodHandle" ∧ yX1_takeBack.cls ≠ "java/lang/invoke/VarHandle" ∧ (parseMethodDescriptor yX1_takeBack.desc).map (fun d => d.parameters.length) = some 1 := ⟨by decide +kernel, by decide +kernel, by decide +kernel⟩
theorem hdZ_X2_init : yX2_init.cls ≠ "java/lang/invoke/MethodHandle" ∧ yX2_init.cls ≠ "java/lang/invoke/VarHandle" ∧ (parseMethodDescriptor yX2_init.desc).map (fun d => d.parameters.length) = some 0 := ⟨by decide +kernel, by decide +kernel, by decide +kernel⟩
theorem hdZ_X2_become : yX2_become.cls ≠ "java/lang/invoke/MethodHandle" ∧ yX2_become.cls ≠ "java/lang/invoke/VarHandle" ∧ (parseMethodDescriptor yX2_become.desc).map (fun d => d.parameters.length) = some 1 := ⟨by decide +kernel, by decide +kernel, by decide +kernel⟩
theorem hdZ_X2_units : yX2_units.cls ≠ "java/lang/invoke/MethodHandle" ∧ yX2_units.cls ≠ "java/lang/invoke/VarHandle" ∧ (parseMethodDescriptor yX2_units.desc).map (fun d => d.parameters.length) = some 0 := ⟨by decide +kernel, by decide +kernel, by decide +kernel⟩
theorem hdZ_X3_init : yX3_init.cls ≠ "java/lang/invoke/MethodHandle" ∧ yX3_init.cls ≠ "java/lang/invoke/VarHandle" ∧ (parseMethodDescriptor yX3_init.desc).map (fun d => d.parameters.length) = some 0 := ⟨by decide +kernel, by decide +kernel, by decide +kernel⟩
theorem hdZ_X3_become : yX3_become.cls ≠ "java/lang/invoke/MethodHandle" ∧ yX3_become.cls ≠ "java/lang/invoke/VarHandle" ∧ (parseMethodDescriptor yX3_become.desc).map (fun d => d.parameters.length) = some 1 := ⟨by decide +kernel, by decide +kernel, by decide +kernel⟩
theorem hdZ_X3_start : yX3_start.cls ≠ "java/lang/invoke/MethodHandle" ∧ yX3_start.cls ≠ "java/lang/invoke/VarHandle" ∧ (parseMethodDescriptor yX3_start.desc).map (fun d => d.parameters.length) = some 1 := ⟨by decide +kernel, by decide +kernel, by decide +kernel⟩
theorem hdZ_X4_init : yX4_init.cls ≠ "java/lang/invoke/MethodHandle" ∧ yX4_init.cls ≠ "java/lang/invoke/VarHandle" ∧ (parseMethodDescriptor yX4_init.desc).map (fun d => d.parameters.length) = some 0 := ⟨by decide +kernel, by decide +kernel, by decide +kernel⟩
theorem hdZ_X4_become : yX4_become.cls ≠ "java/lang/invoke/MethodHandle" ∧ yX4_become.cls ≠ "java/lang/invoke/VarHandle" ∧ (parseMethodDescriptor yX4_become.desc).map (fun d => d.parameters.length) = some 1 := ⟨by decide +kernel, by decide +kernel, by decide +kernel⟩
theorem hdZ_X4_isFull : yX4_isFull.cls ≠ "java/lang/invoke/MethodHandle" ∧ yX4_isFull.cls ≠ "java/lang/invoke/VarHandle" ∧ (parseMethodDescriptor yX4_isFull.desc).map (fun d => d.parameters.length) = some 0 := ⟨by decide +kernel, by decide +kernel, by decide +kernel⟩
theorem hdZ_X4_add : yX4_add.cls ≠ "java/lang/invoke/MethodHandle" ∧ yX4_add.cls ≠ "java/lang/invoke/VarHandle" ∧ (parseMethodDescriptor yX4_add.desc).map (fun d => d.parameters.length) = some 3 := ⟨by decide +kernel, by decide +kernel, by decide +kernel⟩
theorem hdZ_X4_write : yX4_write.cls ≠ "java/lang/invoke/MethodHandle" ∧ yX4_write.cls ≠ "java/lang/invoke/VarHandle" ∧ (parseMethodDescriptor yX4_write.desc).map (fun d => d.parameters.length) = some 4 := ⟨by decide +kernel, by decide +kernel, by decide +kernel⟩
theorem hdZ_X4_dueOn : yX4_dueOn.cls ≠ "java/lang/invoke/MethodHandle" ∧ yX4_dueOn.cls ≠ "java/lang/invoke/VarHandle" ∧ (parseMethodDescriptor yX4_dueOn.desc).map (fun d => d.parameters.length) = some 1 := ⟨by decide +kernel, by decide +kernel, by decide +kernel⟩
theorem hdZ_X4_sum : yX4_sum.cls ≠ "java/lang/invoke/MethodHandle" ∧ yX4_sum.cls ≠ "java/lang/invoke/VarHandle" ∧ (parseMethodDescriptor yX4_sum.desc).map (fun d => d.parameters.length) = some 2 := ⟨by decide +kernel, by decide +kernel, by decide +kernel⟩
theorem hdZ_X4_sumOf : yX4_sumOf.cls ≠ "java/lang/invoke/MethodHandle" ∧ yX4_sumOf.cls ≠ "java/lang/invoke/VarHandle" ∧ (parseMethodDescriptor yX4_sumOf.desc).map (fun d => d.parameters.length) = some 1 := ⟨by decide +kernel, by decide +kernel, by decide +kernel⟩
theorem hdZ_X4_dropEmpty : yX4_dropEmpty.cls ≠ "java/lang/invoke/MethodHandle" ∧ yX4_dropEmpty.cls ≠ "java/lang/invoke/VarHandle" ∧ (parseMethodDescriptor yX4_dropEmpty.desc).map (fun d => d.parameters.length) = some 0 := ⟨by decide +kernel, by decide +kernel, by decide +kernel⟩
theorem hdZ_X5_init : yX5_init.cls ≠ "java/lang/invoke/MethodHandle" ∧ yX5_init.cls ≠ "java/lang/invoke/VarHandle" ∧ (parseMethodDescriptor yX5_init.desc).map (fun d => d.parameters.length) = some 0 := ⟨by decide +kernel, by decide +kernel, by decide +kernel⟩
theorem hdZ_X5_countCharacters : yX5_countCharacters.cls ≠ "java/lang/invoke/MethodHandle" ∧ yX5_countCharacters.cls ≠ "java/lang/invoke/VarHandle" ∧ (parseMethodDescriptor yX5_countCharacters.desc).map (fun d => d.parameters.length) = some 1 := ⟨by decide +kernel, by decide +kernel, by decide +kernel⟩
theorem hdZ_X5_append : yX5_append.cls ≠ "java/lang/invoke/MethodHandle" ∧ yX5_append.cls ≠ "java/lang/invoke/VarHandle" ∧ (parseMethodDescriptor yX5_append.desc).map (fun d => d.parameters.length) = some 2 := ⟨by decide +kernel, by decide +kernel, by decide +kernel⟩
theorem hdZ_X5_signAt : yX5_signAt.cls ≠ "java/lang/invoke/MethodHandle" ∧ yX5_signAt.cls ≠ "java/lang/invoke/VarHandle" ∧ (parseMethodDescriptor yX5_signAt.desc).map (fun d => d.parameters.length) = some 1 := ⟨by decide +kernel, by decide +kernel, by decide +kernel⟩
theorem hdZ_X5_empty : yX5_empty.cls ≠ "java/lang/invoke/MethodHandle" ∧ yX5_empty.cls ≠ "java/lang/invoke/VarHandle" ∧ (parseMethodDescriptor yX5_empty.desc).map (fun d => d.parameters.length) = some 0 := ⟨by decide +kernel, by decide +kernel, by decide +kernel⟩
theorem hdZ_X5_start : yX5_start.cls ≠ "java/lang/invoke/MethodHandle" ∧ yX5_start.cls ≠ "java/lang/invoke/VarHandle" ∧ (parseMethodDescriptor yX5_start.desc).map (fun d => d.parameters.length) = some 0 := ⟨by decide +kernel, by decide +kernel, by decide +kernel⟩
theorem hdZ_X5_findFault : yX5_findFault.cls ≠ "java/lang/invoke/MethodHandle" ∧ yX5_findFault.cls ≠ "java/lang/invoke/VarHandle" ∧ (parseMethodDescriptor yX5_findFault.desc).map (fun d => d.parameters.length) = some 0 := ⟨by decide +kernel, by decide +kernel, by decide +kernel⟩
theorem hdZ_X5_readOrder : yX5_readOrder.cls ≠ "java/lang/invoke/MethodHandle" ∧ yX5_readOrder.cls ≠ "java/lang/invoke/VarHandle" ∧ (parseMethodDescriptor yX5_readOrder.desc).map (fun d => d.parameters.length) = some 0 := ⟨by decide +kernel, by decide +kernel, by decide +kernel⟩
theorem hdZ_X5_skip : yX5_skip.cls ≠ "java/lang/invoke/MethodHandle" ∧ yX5_skip.cls ≠ "java/lang/invoke/VarHandle" ∧ (parseMethodDescriptor yX5_skip.desc).map (fun d => d.parameters.length) = some 1 := ⟨by decide +kernel, by decide +kernel, by decide +kernel⟩
theorem hdZ_X5_readDeal : yX5_readDeal.cls ≠ "java/lang/invoke/MethodHandle" ∧ yX5_readDeal.cls ≠ "java/lang/invoke/VarHandle" ∧ (parseMethodDescriptor yX5_readDeal.desc).map (fun d => d.parameters.length) = some 0 := ⟨by decide +kernel, by decide +kernel, by decide +kernel⟩
theorem hdZ_X5_readNumber : yX5_readNumber.cls ≠ "java/lang/invoke/MethodHandle" ∧ yX5_readNumber.cls ≠ "java/lang/invoke/VarHandle" ∧ (parseMethodDescriptor yX5_readNumber.desc).map (fun d => d.parameters.length) = some 1 := ⟨by decide +kernel, by decide +kernel, by decide +kernel⟩
theorem hdZ_X5_digitAt : yX5_digitAt.cls ≠ "java/lang/invoke/MethodHandle" ∧ yX5_digitAt.cls ≠ "java/lang/invoke/VarHandle" ∧ (parseMethodDescriptor yX5_digitAt.desc).map (fun d => d.parameters.length) = some 0 := ⟨by decide +kernel, by decide +kernel, by decide +kernel⟩
theorem hdZ_X6_init : yX6_init.cls ≠ "java/lang/invoke/MethodHandle" ∧ yX6_init.cls ≠ "java/lang/invoke/VarHandle" ∧ (parseMethodDescriptor yX6_init.desc).map (fun d => d.parameters.length) = some 0 := ⟨by decide +kernel, by decide +kernel, by decide +kernel⟩
theorem hdZ_X6_become : yX6_become.cls ≠ "java/lang/invoke/MethodHandle" ∧ yX6_become.cls ≠ "java/lang/invoke/VarHandle" ∧ (parseMethodDescriptor yX6_become.desc).map (fun d => d.parameters.length) = some 1 := ⟨by decide +kernel, by decide +kernel, by decide +kernel⟩
theorem hdZ_X6_value : yX6_value.cls ≠ "java/lang/invoke/MethodHandle" ∧ yX6_value.cls ≠ "java/lang/invoke/VarHandle" ∧ (parseMethodDescriptor yX6_value.desc).map (fun d => d.parameters.length) = some 0 := ⟨by decide +kernel, by decide +kernel, by decide +kernel⟩
theorem hdZ_X6_units : yX6_units.cls ≠ "java/lang/invoke/MethodHandle" ∧ yX6_units.cls ≠ "java/lang/invoke/VarHandle" ∧ (parseMethodDescriptor yX6_units.desc).map (fun d => d.parameters.length) = some 0 := ⟨by decide +kernel, by decide +kernel, by decide +kernel⟩
theorem hdZ_X6_newUnits : yX6_newUnits.cls ≠ "java/lang/invoke/MethodHandle" ∧ yX6_newUnits.cls ≠ "java/lang/invoke/VarHandle" ∧ (parseMethodDescriptor yX6_newUnits.desc).map (fun d => d.parameters.length) = some 0 := ⟨by decide +kernel, by decide +kernel, by decide +kernel⟩
theorem hdZ_X6_middle : yX6_middle.cls ≠ "java/lang/invoke/MethodHandle" ∧ yX6_middle.cls ≠ "java/lang/invoke/VarHandle" ∧ (parseMethodDescriptor yX6_middle.desc).map (fun d => d.parameters.length) = some 0 := ⟨by decide +kernel, by decide +kernel, by decide +kernel⟩
theorem hdZ_X6_unitIncome : yX6_unitIncome.cls ≠ "java/lang/invoke/MethodHandle" ∧ yX6_unitIncome.cls ≠ "java/lang/invoke/VarHandle" ∧ (parseMethodDescriptor yX6_unitIncome.desc).map (fun d => d.parameters.length) = some 0 := ⟨by decide +kernel, by decide +kernel, by decide +kernel⟩
theorem hdZ_X6_fee : yX6_fee.cls ≠ "java/lang/invoke/MethodHandle" ∧ yX6_fee.cls ≠ "java/lang/invoke/VarHandle" ∧ (parseMethodDescriptor yX6_fee.desc).map (fun d => d.parameters.length) = some 0 := ⟨by decide +kernel, by decide +kernel, by decide +kernel⟩
theorem hdZ_X6_changeSetting : yX6_changeSetting.cls ≠ "java/lang/invoke/MethodHandle" ∧ yX6_changeSetting.cls ≠ "java/lang/invoke/VarHandle" ∧ (parseMethodDescriptor yX6_changeSetting.desc).map (fun d => d.parameters.length) = some 2 := ⟨by decide +kernel, by decide +kernel, by decide +kernel⟩
theorem hdZ_X6_orderToBuy : yX6_orderToBuy.cls ≠ "java/lang/invoke/MethodHandle" ∧ yX6_orderToBuy.cls ≠ "java/lang/invoke/VarHandle" ∧ (parseMethodDescriptor yX6_orderToBuy.desc).map (fun d => d.parameters.length) = some 3 := ⟨by decide +kernel, by decide +kernel, by decide +kernel⟩
theorem hdZ_X6_orderToLeave : yX6_orderToLeave.cls ≠ "java/lang/invoke/MethodHandle" ∧ yX6_orderToLeave.cls ≠ "java/lang/invoke/VarHandle" ∧ (parseMethodDescriptor yX6_orderToLeave.desc).map (fun d => d.parameters.length) = some 3 := ⟨by decide +kernel, by decide +kernel, by decide +kernel⟩
theorem hdZ_X6_exitInKind : yX6_exitInKind.cls ≠ "java/lang/invoke/MethodHandle" ∧ yX6_exitInKind.cls ≠ "java/lang/invoke/VarHandle" ∧ (parseMethodDescriptor yX6_exitInKind.desc).map (fun d => d.parameters.length) = some 2 := ⟨by decide +kernel, by decide +kernel, by decide +kernel⟩
theorem hdZ_X6_changeQuote : yX6_changeQuote.cls ≠ "java/lang/invoke/MethodHandle" ∧ yX6_changeQuote.cls ≠ "java/lang/invoke/VarHandle" ∧ (parseMethodDescriptor yX6_changeQuote.desc).map (fun d => d.parameters.length) = some 1 := ⟨by decide +kernel, by decide +kernel, by decide +kernel⟩
theorem hdZ_X6_tradeLots : yX6_tradeLots.cls ≠ "java/lang/invoke/MethodHandle" ∧ yX6_tradeLots.cls ≠ "java/lang/invoke/VarHandle" ∧ (parseMethodDescriptor yX6_tradeLots.desc).map (fun d => d.parameters.length) = some 1 := ⟨by decide +kernel, by decide +kernel, by decide +kernel⟩
theorem hdZ_X6_takeIncome : yX6_takeIncome.cls ≠ "java/lang/invoke/MethodHandle" ∧ yX6_takeIncome.cls ≠ "java/lang/invoke/VarHandle" ∧ (parseMethodDescriptor yX6_takeIncome.desc).map (fun d => d.parameters.length) = some 1 := ⟨by decide +kernel, by decide +kernel, by decide +kernel⟩
theorem hdZ_X6_payIncome : yX6_payIncome.cls ≠ "java/lang/invoke/MethodHandle" ∧ yX6_payIncome.cls ≠ "java/lang/invoke/VarHandle" ∧ (parseMethodDescriptor yX6_payIncome.desc).map (fun d => d.parameters.length) = some 0 := ⟨by decide +kernel, by decide +kernel, by decide +kernel⟩
theorem hdZ_X6_makeUnits : yX6_makeUnits.cls ≠ "java/lang/invoke/MethodHandle" ∧ yX6_makeUnits.cls ≠ "java/lang/invoke/VarHandle" ∧ (parseMethodDescriptor yX6_makeUnits.desc).map (fun d => d.parameters.length) = some 4 := ⟨by decide +kernel, by decide +kernel, by decide +kernel⟩
theorem hdZ_X6_takeUnits : yX6_takeUnits.cls ≠ "java/lang/invoke/MethodHandle" ∧ yX6_takeUnits.cls ≠ "java/lang/invoke/VarHandle" ∧ (parseMethodDescriptor yX6_takeUnits.desc).map (fun d => d.parameters.length) = some 4 := ⟨by decide +kernel, by decide +kernel, by decide +kernel⟩
theorem hdZ_X6_sellFor : yX6_sellFor.cls ≠ "java/lang/invoke/MethodHandle" ∧ yX6_sellFor.cls ≠ "java/lang/invoke/VarHandle" ∧ (parseMethodDescriptor yX6_sellFor.desc).map (fun d => d.parameters.length) = some 1 := ⟨by decide +kernel, by decide +kernel, by decide +kernel⟩
theorem hdZ_X6_freeUnits : yX6_freeUnits.cls ≠ "java/lang/invoke/MethodHandle" ∧ yX6_freeUnits.cls ≠ "java/lang/invoke/VarHandle" ∧ (parseMethodDescriptor yX6_freeUnits.desc).map (fun d => d.parameters.length) = some 1 := ⟨by decide +kernel, by decide +kernel, by decide +kernel⟩
theorem hdZ_X6_dayOf : yX6_dayOf.cls ≠ "java/lang/invoke/MethodHandle" ∧ yX6_dayOf.cls ≠ "java/lang/invoke/VarHandle" ∧ (parseMethodDescriptor yX6_dayOf.desc).map (fun d => d.parameters.length) = some 1 := ⟨by decide +kernel, by decide +kernel, by decide +kernel⟩
theorem hdZ_X6_isHour : yX6_isHour.cls ≠ "java/lang/invoke/MethodHandle" ∧ yX6_isHour.cls ≠ "java/lang/invoke/VarHandle" ∧ (parseMethodDescriptor yX6_isHour.desc).map (fun d => d.parameters.length) = some 1 := ⟨by decide +kernel, by decide +kernel, by decide +kernel⟩
theorem hdZ_X7_init : yX7_init.cls ≠ "java/lang/invoke/MethodHandle" ∧ yX7_init.cls ≠ "java/lang/invoke/VarHandle" ∧ (parseMethodDescriptor yX7_init.desc).map (fun d => d.parameters.length) = some 0 := ⟨by decide +kernel, by decide +kernel, by decide +kernel⟩
theorem hdZ_X7_set : yX7_set.cls ≠ "java/lang/invoke/MethodHandle" ∧ yX7_set.cls ≠ "java/lang/invoke/VarHandle" ∧ (parseMethodDescriptor yX7_set.desc).map (fun d => d.parameters.length) = some 2 := ⟨by decide +kernel, by decide +kernel, by decide +kernel⟩
theorem hdZ_X7_buy : yX7_buy.cls ≠ "java/lang/invoke/MethodHandle" ∧ yX7_buy.cls ≠ "java/lang/invoke/VarHandle" ∧ (parseMethodDescriptor yX7_buy.desc).map (fun d => d.parameters.length) = some 3 := ⟨by decide +kernel, by decide +kernel, by decide +kernel⟩
theorem hdZ_X7_leave : yX7_leave.cls ≠ "java/lang/invoke/MethodHandle" ∧ yX7_leave.cls ≠ "java/lang/invoke/VarHandle" ∧ (parseMethodDescriptor yX7_leave.desc).map (fun d => d.parameters.length) = some 3 := ⟨by decide +kernel, by decide +kernel, by decide +kernel⟩
theorem hdZ_X7_inKind : yX7_inKind.cls ≠ "java/lang/invoke/MethodHandle" ∧ yX7_inKind.cls ≠ "java/lang/invoke/VarHandle" ∧ (parseMethodDescriptor yX7_inKind.desc).map (fun d => d.parameters.length) = some 2 := ⟨by decide +kernel, by decide +kernel, by decide +kernel⟩
theorem hdZ_X7_endDay : yX7_endDay.cls ≠ "java/lang/invoke/MethodHandle" ∧ yX7_endDay.cls ≠ "java/lang/invoke/VarHandle" ∧ (parseMethodDescriptor yX7_endDay.desc).map (fun d => d.parameters.length) = some 0 := ⟨by decide +kernel, by decide +kernel, by decide +kernel⟩
theorem hdZ_X7_quote : yX7_quote.cls ≠ "java/lang/invoke/MethodHandle" ∧ yX7_quote.cls ≠ "java/lang/invoke/VarHandle" ∧ (parseMethodDescriptor yX7_quote.desc).map (fun d => d.parameters.length) = some 1 := ⟨by decide +kernel, by decide +kernel, by decide +kernel⟩
theorem hdZ_X7_trade : yX7_trade.cls ≠ "java/lang/invoke/MethodHandle" ∧ yX7_trade.cls ≠ "java/lang/invoke/VarHandle" ∧ (parseMethodDescriptor yX7_trade.desc).map (fun d => d.parameters.length) = some 1 := ⟨by decide +kernel, by decide +kernel, by decide +kernel⟩
theorem hdZ_X7_income : yX7_income.cls ≠ "java/lang/invoke/MethodHandle" ∧ yX7_income.cls ≠ "java/lang/invoke/VarHandle" ∧ (parseMethodDescriptor yX7_income.desc).map (fun d => d.parameters.length) = some 1 := ⟨by decide +kernel, by decide +kernel, by decide +kernel⟩
theorem hdZ_X7_pay : yX7_pay.cls ≠ "java/lang/invoke/MethodHandle" ∧ yX7_pay.cls ≠ "java/lang/invoke/VarHandle" ∧ (parseMethodDescriptor yX7_pay.desc).map (fun d => d.parameters.length) = some 0 := ⟨by decide +kernel, by decide +kernel, by decide +kernel⟩
theorem hdZ_X7_ofHolder : yX7_ofHolder.cls ≠ "java/lang/invoke/MethodHandle" ∧ yX7_ofHolder.cls ≠ "java/lang/invoke/VarHandle" ∧ (parseMethodDescriptor yX7_ofHolder.desc).map (fun d => d.parameters.length) = some 2 := ⟨by decide +kernel, by decide +kernel, by decide +kernel⟩
theorem hdZ_X7_count : yX7_count.cls ≠ "java/lang/invoke/MethodHandle" ∧ yX7_count.cls ≠ "java/lang/invoke/VarHandle" ∧ (parseMethodDescriptor yX7_count.desc).map (fun d => d.parameters.length) = some 1 := ⟨by decide +kernel, by decide +kernel, by decide +kernel⟩
theorem hdZ_X7_order : yX7_order.cls ≠ "java/lang/invoke/MethodHandle" ∧ yX7_order.cls ≠ "java/lang/invoke/VarHandle" ∧ (parseMethodDescriptor yX7_order.desc).map (fun d => d.parameters.length) = some 3 := ⟨by decide +kernel, by decide +kernel, by decide +kernel⟩
theorem hdZ_X7_lastDay : yX7_lastDay.cls ≠ "java/lang/invoke/MethodHandle" ∧ yX7_lastDay.cls ≠ "java/lang/invoke/VarHandle" ∧ (parseMethodDescriptor yX7_lastDay.desc).map (fun d => d.parameters.length) = some 1 := ⟨by decide +kernel, by decide +kernel, by decide +kernel⟩
theorem hdZ_X7_price : yX7_price.cls ≠ "java/lang/invoke/MethodHandle" ∧ yX7_price.cls ≠ "java/lang/invoke/VarHandle" ∧ (parseMethodDescriptor yX7_price.desc).map (fun d => d.parameters.length) = some 1 := ⟨by decide +kernel, by decide +kernel, by decide +kernel⟩
theorem hdZ_X7_exitIn : yX7_exitIn.cls ≠ "java/lang/invoke/MethodHandle" ∧ yX7_exitIn.cls ≠ "java/lang/invoke/VarHandle" ∧ (parseMethodDescriptor yX7_exitIn.desc).map (fun d => d.parameters.length) = some 1 := ⟨by decide +kernel, by decide +kernel, by decide +kernel⟩
theorem hdZ_X7_fairSwing : yX7_fairSwing.cls ≠ "java/lang/invoke/MethodHandle" ∧ yX7_fairSwing.cls ≠ "java/lang/invoke/VarHandle" ∧ (parseMethodDescriptor yX7_fairSwing.desc).map (fun d => d.parameters.length) = some 0 := ⟨by decide +kernel, by decide +kernel, by decide +kernel⟩
theorem hdZ_X7_put : yX7_put.cls ≠ "java/lang/invoke/MethodHandle" ∧ yX7_put.cls ≠ "java/lang/invoke/VarHandle" ∧ (parseMethodDescriptor yX7_put.desc).map (fun d => d.parameters.length) = some 1 := ⟨by decide +kernel, by decide +kernel, by decide +kernel⟩
theorem hdZ_X7_wipe : yX7_wipe.cls ≠ "java/lang/invoke/MethodHandle" ∧ yX7_wipe.cls ≠ "java/lang/invoke/VarHandle" ∧ (parseMethodDescriptor yX7_wipe.desc).map (fun d => d.parameters.length) = some 0 := ⟨by decide +kernel, by decide +kernel, by decide +kernel⟩
theorem hdZ_X7_fault : yX7_fault.cls ≠ "java/lang/invoke/MethodHandle" ∧ yX7_fault.cls ≠ "java/lang/invoke/VarHandle" ∧ (parseMethodDescriptor yX7_fault.desc).map (fun d => d.parameters.length) = some 0 := ⟨by decide +kernel, by decide +kernel, by decide +kernel⟩
theorem hdZ_X7_carryOut : yX7_carryOut.cls ≠ "java/lang/invoke/MethodHandle" ∧ yX7_carryOut.cls ≠ "java/lang/invoke/VarHandle" ∧ (parseMethodDescriptor yX7_carryOut.desc).map (fun d => d.parameters.length) = some 0 := ⟨by decide +kernel, by decide +kernel, by decide +kernel⟩
theorem hdZ_X7_undo : yX7_undo.cls ≠ "java/lang/invoke/MethodHandle" ∧ yX7_undo.cls ≠ "java/lang/invoke/VarHandle" ∧ (parseMethodDescriptor yX7_undo.desc).map (fun d => d.parameters.length) = some 0 := ⟨by decide +kernel, by decide +kernel, by decide +kernel⟩
theorem hdZ_X7_save : yX7_save.cls ≠ "java/lang/invoke/MethodHandle" ∧ yX7_save.cls ≠ "java/lang/invoke/VarHandle" ∧ (parseMethodDescriptor yX7_save.desc).map (fun d => d.parameters.length) = some 1 := ⟨by decide +kernel, by decide +kernel, by decide +kernel⟩
theorem hdZ_X7_restore : yX7_restore.cls ≠ "java/lang/invoke/MethodHandle" ∧ yX7_restore.cls ≠ "java/lang/invoke/VarHandle" ∧ (parseMethodDescriptor yX7_restore.desc).map (fun d => d.parameters.length) = some 1 := ⟨by decide +kernel, by decide +kernel, by decide +kernel⟩
theorem hdZ_X7_carryOutOrders : yX7_carryOutOrders.cls ≠ "java/lang/invoke/MethodHandle" ∧ yX7_carryOutOrders.cls ≠ "java/lang/invoke/VarHandle" ∧ (parseMethodDescriptor yX7_carryOutOrders.desc).map (fun d => d.parameters.length) = some 0 := ⟨by decide +kernel, by decide +kernel, by decide +kernel⟩
theorem hdZ_X7_carryOutOrder : yX7_carryOutOrder.cls ≠ "java/lang/invoke/MethodHandle" ∧ yX7_carryOutOrder.cls ≠ "java/lang/invoke/VarHandle" ∧ (parseMethodDescriptor yX7_carryOutOrder.desc).map (fun d => d.parameters.length) = some 0 := ⟨by decide +kernel, by decide +kernel, by decide +kernel⟩
theorem hdZ_X7_isHolder : yX7_isHolder.cls ≠ "java/lang/invoke/MethodHandle" ∧ yX7_isHolder.cls ≠ "java/lang/invoke/VarHandle" ∧ (parseMethodDescriptor yX7_isHolder.desc).map (fun d => d.parameters.length) = some 1 := ⟨by decide +kernel, by decide +kernel, by decide +kernel⟩
theorem hdZ_L_cell : yL_cell.cls ≠ "java/lang/invoke/MethodHandle" ∧ yL_cell.cls ≠ "java/lang/invoke/VarHandle" ∧ (parseMethodDescriptor yL_cell.desc).map (fun d => d.parameters.length) = some 2 := ⟨by decide +kernel, by decide +kernel, by decide +kernel⟩
theorem hdZ_L_up : yL_up.cls ≠ "java/lang/invoke/MethodHandle" ∧ yL_up.cls ≠ "java/lang/invoke/VarHandle" ∧ (parseMethodDescriptor yL_up.desc).map (fun d => d.parameters.length) = some 2 := ⟨by decide +kernel, by decide +kernel, by decide +kernel⟩
theorem hdZ_L_law : yL_law.cls ≠ "java/lang/invoke/MethodHandle" ∧ yL_law.cls ≠ "java/lang/invoke/VarHandle" ∧ (parseMethodDescriptor yL_law.desc).map (fun d => d.parameters.length) = some 1 := ⟨by decide +kernel, by decide +kernel, by decide +kernel⟩
theorem hdZ_L_print : yL_print.cls ≠ "java/lang/invoke/MethodHandle" ∧ yL_print.cls ≠ "java/lang/invoke/VarHandle" ∧ (parseMethodDescriptor yL_print.desc).map (fun d => d.parameters.length) = some 1 := ⟨by decide +kernel, by decide +kernel, by decide +kernel⟩
theorem hdZ_L_cost : yL_cost.cls ≠ "java/lang/invoke/MethodHandle" ∧ yL_cost.cls ≠ "java/lang/invoke/VarHandle" ∧ (parseMethodDescriptor yL_cost.desc).map (fun d => d.parameters.length) = some 1 := ⟨by decide +kernel, by decide +kernel, by decide +kernel⟩
theorem hdZ_L_free : yL_free.cls ≠ "java/lang/invoke/MethodHandle" ∧ yL_free.cls ≠ "java/lang/invoke/VarHandle" ∧ (parseMethodDescriptor yL_free.desc).map (fun d => d.parameters.length) = some 2 := ⟨by decide +kernel, by decide +kernel, by decide +kernel⟩
theorem hdZ_L_act : yL_act.cls ≠ "java/lang/invoke/MethodHandle" ∧ yL_act.cls ≠ "java/lang/invoke/VarHandle" ∧ (parseMethodDescriptor yL_act.desc).map (fun d => d.parameters.length) = some 4 := ⟨by decide +kernel, by decide +kernel, by decide +kernel⟩
theorem hdZ_L_has : yL_has.cls ≠ "java/lang/invoke/MethodHandle" ∧ yL_has.cls ≠ "java/lang/invoke/VarHandle" ∧ (parseMethodDescriptor yL_has.desc).map (fun d => d.parameters.length) = some 5 := ⟨by decide +kernel, by decide +kernel, by decide +kernel⟩
theorem hdZ_L_pay : yL_pay.cls ≠ "java/lang/invoke/MethodHandle" ∧ yL_pay.cls ≠ "java/lang/invoke/VarHandle" ∧ (parseMethodDescriptor yL_pay.desc).map (fun d => d.parameters.length) = some 1 := ⟨by decide +kernel, by decide +kernel, by decide +kernel⟩
theorem hdZ_L_day : yL_day.cls ≠ "java/lang/invoke/MethodHandle" ∧ yL_day.cls ≠ "java/lang/invoke/VarHandle" ∧ (parseMethodDescriptor yL_day.desc).map (fun d => d.parameters.length) = some 1 := ⟨by decide +kernel, by decide +kernel, by decide +kernel⟩
theorem hdZ_L_type : yL_type.cls ≠ "java/lang/invoke/MethodHandle" ∧ yL_type.cls ≠ "java/lang/invoke/VarHandle" ∧ (parseMethodDescriptor yL_type.desc).map (fun d => d.parameters.length) = some 9 := ⟨by decide +kernel, by decide +kernel, by decide +kernel⟩
theorem hdZ_L_text : yL_text.cls ≠ "java/lang/invoke/MethodHandle" ∧ yL_text.cls ≠ "java/lang/invoke/VarHandle" ∧ (parseMethodDescriptor yL_text.desc).map (fun d => d.parameters.length) = some 3 := ⟨by decide +kernel, by decide +kernel, by decide +kernel⟩
theorem hdZ_L_sound : yL_sound.cls ≠ "java/lang/invoke/MethodHandle" ∧ yL_sound.cls ≠ "java/lang/invoke/VarHandle" ∧ (parseMethodDescriptor yL_sound.desc).map (fun d => d.parameters.length) = some 1 := ⟨by decide +kernel, by decide +kernel, by decide +kernel⟩
theorem hdZ_L_comes : yL_comes.cls ≠ "java/lang/invoke/MethodHandle" ∧ yL_comes.cls ≠ "java/lang/invoke/VarHandle" ∧ (parseMethodDescriptor yL_comes.desc).map (fun d => d.parameters.length) = some 2 := ⟨by decide +kernel, by decide +kernel, by decide +kernel⟩
theorem hdZ_L_back : yL_back.cls ≠ "java/lang/invoke/MethodHandle" ∧ yL_back.cls ≠ "java/lang/invoke/VarHandle" ∧ (parseMethodDescriptor yL_back.desc).map (fun d => d.parameters.length) = some 2 := ⟨by decide +kernel, by decide +kernel, by decide +kernel⟩
theorem hdZ_L_refused : yL_refused.cls ≠ "java/lang/invoke/MethodHandle" ∧ yL_refused.cls ≠ "java/lang/invoke/VarHandle" ∧ (parseMethodDescriptor yL_refused.desc).map (fun d => d.parameters.length) = some 2 := ⟨by decide +kernel, by decide +kernel, by decide +kernel⟩
