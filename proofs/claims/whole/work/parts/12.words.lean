theorem tw_1 : (Jvm.Cond.initialized "ShadowTax") ∈ am_tb := am_in 1 (by decide +kernel) rfl
theorem tw_2 : (Jvm.Cond.initialized "ShadowTax$Reading") ∈ am_tb := am_in 2 (by decide +kernel) rfl
theorem tw_3 : (Jvm.Cond.initialized "ShadowTax$Plan") ∈ am_tb := am_in 3 (by decide +kernel) rfl
theorem tw_4 : (Jvm.Cond.initialized "ShadowTax$State") ∈ am_tb := am_in 4 (by decide +kernel) rfl
theorem tw_5 : (Jvm.Cond.initialized "ShadowTax$Rows") ∈ am_tb := am_in 5 (by decide +kernel) rfl
theorem tw_6 : (Jvm.Cond.initialized "ShadowTax$Shades") ∈ am_tb := am_in 6 (by decide +kernel) rfl
theorem tw_7 : (Jvm.Cond.initialized "ShadowTax$Places") ∈ am_tb := am_in 7 (by decide +kernel) rfl
theorem tw_8 : (Jvm.Cond.initialized "ShadowTax$Walks") ∈ am_tb := am_in 8 (by decide +kernel) rfl
theorem tw_9 : (Jvm.Cond.initialized "ShadowTax$Couples") ∈ am_tb := am_in 9 (by decide +kernel) rfl
theorem tw_10 : (Jvm.Cond.initialized "ShadowTaxModel") ∈ am_tb := am_in 10 (by decide +kernel) rfl
theorem tw_11 : (Jvm.Cond.initialized "java/lang/String") ∈ am_tb := am_in 11 (by decide +kernel) rfl
theorem tw_12 : (Jvm.Cond.initialized "java/lang/StringLatin1") ∈ am_tb := am_in 12 (by decide +kernel) rfl
theorem tw_13 : (Jvm.Cond.initialized "jdk/internal/util/Preconditions") ∈ am_tb := am_in 13 (by decide +kernel) rfl
theorem tw_15 : (Jvm.Cond.initialized "java/lang/Long") ∈ am_tb := am_in 15 (by decide +kernel) rfl
theorem tw_16 : (Jvm.Cond.initialized "java/lang/Math") ∈ am_tb := am_in 16 (by decide +kernel) rfl
theorem tw_17 : (Jvm.Cond.classLink "ShadowTaxLaw" (7 : Nat) "ShadowTax") ∈ am_tb := am_in 17 (by decide +kernel) rfl
theorem tw_18 : (Jvm.Cond.instantiable "ShadowTax" (14 : Nat)) ∈ am_tb := am_in 18 (by decide +kernel) rfl
theorem tw_19 : (Jvm.Cond.methodLink "ShadowTaxLaw" (9 : Nat) ({ cls := "ShadowTax", name := "<init>", desc := "()V" } : Jvm.MethodName)) ∈ am_tb := am_in 19 (by decide +kernel) rfl
theorem tw_20 : (Jvm.Cond.instanceMethod ({ cls := "ShadowTax", name := "<init>", desc := "()V" } : Jvm.MethodName)) ∈ am_tb := am_in 20 (by decide +kernel) rfl
theorem tw_21 : (Cond.code yX8_init cX8_init 1 (Option.none : Option Jvm.ClassFile.FieldType)) ∈ am_tb := am_in 21 (by decide +kernel) rfl
theorem tw_22 : (Jvm.Cond.methodLink "ShadowTax" (1 : Nat) ({ cls := "java/lang/Object", name := "<init>", desc := "()V" } : Jvm.MethodName)) ∈ am_tb := am_in 22 (by decide +kernel) rfl
theorem tw_23 : (Jvm.Cond.instanceMethod ({ cls := "java/lang/Object", name := "<init>", desc := "()V" } : Jvm.MethodName)) ∈ am_tb := am_in 23 (by decide +kernel) rfl
theorem tw_24 : (Jvm.Cond.code ({ cls := "java/lang/Object", name := "<init>", desc := "()V" } : Jvm.MethodName) object_method_1_code (1 : Nat) (Option.none : Option Jvm.ClassFile.FieldType)) ∈ am_tb := am_in 24 (by decide +kernel) rfl
theorem tw_25 : (Jvm.Cond.classLink "ShadowTax" (7 : Nat) "ShadowTax$Reading") ∈ am_tb := am_in 25 (by decide +kernel) rfl
theorem tw_26 : (Jvm.Cond.instantiable "ShadowTax$Reading" (8 : Nat)) ∈ am_tb := am_in 26 (by decide +kernel) rfl
theorem tw_28 : (Jvm.Cond.instanceMethod ({ cls := "ShadowTax$Reading", name := "<init>", desc := "()V" } : Jvm.MethodName)) ∈ am_tb := am_in 28 (by decide +kernel) rfl
theorem tw_29 : (Cond.code yX3_init cX3_init 1 (Option.none : Option Jvm.ClassFile.FieldType)) ∈ am_tb := am_in 29 (by decide +kernel) rfl
theorem tw_30 : (Jvm.Cond.methodLink "ShadowTax$Reading" (3 : Nat) ({ cls := "java/lang/Object", name := "<init>", desc := "()V" } : Jvm.MethodName)) ∈ am_tb := am_in 30 (by decide +kernel) rfl
theorem tw_31 : (Jvm.Cond.fieldLink "ShadowTax$Reading" (9 : Nat) "ShadowTax$Reading" "text" "[B") ∈ am_tb := am_in 31 (by decide +kernel) rfl
theorem tw_32 : (Jvm.Cond.fieldLink "ShadowTax$Reading" (22 : Nat) "ShadowTax$Reading" "next" "I") ∈ am_tb := am_in 32 (by decide +kernel) rfl
theorem tw_33 : (Jvm.Cond.fieldLink "ShadowTax$Reading" (25 : Nat) "ShadowTax$Reading" "faultNumber" "I") ∈ am_tb := am_in 33 (by decide +kernel) rfl
theorem tw_34 : (Jvm.Cond.fieldLink "ShadowTax$Reading" (91 : Nat) "ShadowTax$Reading" "numberPlace" "I") ∈ am_tb := am_in 34 (by decide +kernel) rfl
theorem tw_35 : (Jvm.Cond.fieldLink "ShadowTax$Reading" (28 : Nat) "ShadowTax$Reading" "houses" "I") ∈ am_tb := am_in 35 (by decide +kernel) rfl
theorem tw_36 : (Jvm.Cond.fieldLink "ShadowTax$Reading" (31 : Nat) "ShadowTax$Reading" "greyIsTold" "Z") ∈ am_tb := am_in 36 (by decide +kernel) rfl
theorem tw_37 : (Jvm.Cond.fieldLink "ShadowTax$Reading" (19 : Nat) "ShadowTax$Reading" "length" "I") ∈ am_tb := am_in 37 (by decide +kernel) rfl
theorem tw_38 : (Jvm.Cond.fieldLink "ShadowTax" (93 : Nat) "ShadowTax$Reading" "length" "I") ∈ am_tb := am_in 38 (by decide +kernel) rfl
theorem tw_39 : (Jvm.Cond.fieldLink "ShadowTax$Reading" (15 : Nat) "ShadowTax$Reading" "faultPlace" "I") ∈ am_tb := am_in 39 (by decide +kernel) rfl
theorem tw_40 : (Jvm.Cond.fieldLink "ShadowTax" (122 : Nat) "ShadowTax$Reading" "faultPlace" "I") ∈ am_tb := am_in 40 (by decide +kernel) rfl
theorem tw_58 : (Jvm.Cond.arrayClass Jvm.ClassFile.FieldType.byte) ∈ am_tb := am_in 58 (by decide +kernel) rfl
theorem tw_59 : (Jvm.Cond.classLink "ShadowTax" (16 : Nat) "ShadowTax$Plan") ∈ am_tb := am_in 59 (by decide +kernel) rfl
theorem tw_60 : (Jvm.Cond.instantiable "ShadowTax$Plan" (14 : Nat)) ∈ am_tb := am_in 60 (by decide +kernel) rfl
theorem tw_62 : (Jvm.Cond.instanceMethod ({ cls := "ShadowTax$Plan", name := "<init>", desc := "()V" } : Jvm.MethodName)) ∈ am_tb := am_in 62 (by decide +kernel) rfl
theorem tw_63 : (Cond.code yX2_init cX2_init 1 (Option.none : Option Jvm.ClassFile.FieldType)) ∈ am_tb := am_in 63 (by decide +kernel) rfl
theorem tw_64 : (Jvm.Cond.methodLink "ShadowTax$Plan" (3 : Nat) ({ cls := "java/lang/Object", name := "<init>", desc := "()V" } : Jvm.MethodName)) ∈ am_tb := am_in 64 (by decide +kernel) rfl
theorem tw_65 : (Jvm.Cond.classLink "ShadowTax$Plan" (9 : Nat) "[[I") ∈ am_tb := am_in 65 (by decide +kernel) rfl
theorem tw_67 : (Jvm.Cond.fieldLink "ShadowTax$Plan" (38 : Nat) "ShadowTax$Plan" "width" "I") ∈ am_tb := am_in 67 (by decide +kernel) rfl
theorem tw_68 : (Jvm.Cond.fieldLink "ShadowTax" (125 : Nat) "ShadowTax$Plan" "width" "I") ∈ am_tb := am_in 68 (by decide +kernel) rfl
theorem tw_69 : (Jvm.Cond.fieldLink "ShadowTax$Reading" (127 : Nat) "ShadowTax$Plan" "width" "I") ∈ am_tb := am_in 69 (by decide +kernel) rfl
theorem tw_70 : (Jvm.Cond.fieldLink "ShadowTax$Plan" (42 : Nat) "ShadowTax$Plan" "height" "I") ∈ am_tb := am_in 70 (by decide +kernel) rfl
theorem tw_71 : (Jvm.Cond.fieldLink "ShadowTax" (128 : Nat) "ShadowTax$Plan" "height" "I") ∈ am_tb := am_in 71 (by decide +kernel) rfl
theorem tw_72 : (Jvm.Cond.fieldLink "ShadowTax$Reading" (130 : Nat) "ShadowTax$Plan" "height" "I") ∈ am_tb := am_in 72 (by decide +kernel) rfl
theorem tw_73 : (Jvm.Cond.fieldLink "ShadowTax$Plan" (45 : Nat) "ShadowTax$Plan" "cells" "I") ∈ am_tb := am_in 73 (by decide +kernel) rfl
theorem tw_74 : (Jvm.Cond.fieldLink "ShadowTax$Shades" (29 : Nat) "ShadowTax$Plan" "cells" "I") ∈ am_tb := am_in 74 (by decide +kernel) rfl
theorem tw_75 : (Jvm.Cond.fieldLink "ShadowTax$Walks" (46 : Nat) "ShadowTax$Plan" "cells" "I") ∈ am_tb := am_in 75 (by decide +kernel) rfl
theorem tw_76 : (Jvm.Cond.fieldLink "ShadowTax$Places" (43 : Nat) "ShadowTax$Plan" "cells" "I") ∈ am_tb := am_in 76 (by decide +kernel) rfl
theorem tw_77 : (Jvm.Cond.fieldLink "ShadowTax" (119 : Nat) "ShadowTax$Plan" "cells" "I") ∈ am_tb := am_in 77 (by decide +kernel) rfl
theorem tw_78 : (Jvm.Cond.fieldLink "ShadowTax$Reading" (50 : Nat) "ShadowTax$Plan" "cells" "I") ∈ am_tb := am_in 78 (by decide +kernel) rfl
theorem tw_79 : (Jvm.Cond.fieldLink "ShadowTax$Shades" (23 : Nat) "ShadowTax$Plan" "hours" "I") ∈ am_tb := am_in 79 (by decide +kernel) rfl
theorem tw_80 : (Jvm.Cond.fieldLink "ShadowTax$Walks" (42 : Nat) "ShadowTax$Plan" "hours" "I") ∈ am_tb := am_in 80 (by decide +kernel) rfl
theorem tw_81 : (Jvm.Cond.fieldLink "ShadowTax$Plan" (48 : Nat) "ShadowTax$Plan" "hours" "I") ∈ am_tb := am_in 81 (by decide +kernel) rfl
theorem tw_82 : (Jvm.Cond.fieldLink "ShadowTax" (131 : Nat) "ShadowTax$Plan" "hours" "I") ∈ am_tb := am_in 82 (by decide +kernel) rfl
theorem tw_83 : (Jvm.Cond.fieldLink "ShadowTax$Reading" (111 : Nat) "ShadowTax$Plan" "hours" "I") ∈ am_tb := am_in 83 (by decide +kernel) rfl
theorem tw_84 : (Jvm.Cond.fieldLink "ShadowTax$Plan" (51 : Nat) "ShadowTax$Plan" "persons" "I") ∈ am_tb := am_in 84 (by decide +kernel) rfl
theorem tw_85 : (Jvm.Cond.fieldLink "ShadowTax$Couples" (67 : Nat) "ShadowTax$Plan" "persons" "I") ∈ am_tb := am_in 85 (by decide +kernel) rfl
theorem tw_86 : (Jvm.Cond.fieldLink "ShadowTax$Shades" (56 : Nat) "ShadowTax$Plan" "persons" "I") ∈ am_tb := am_in 86 (by decide +kernel) rfl
theorem tw_87 : (Jvm.Cond.fieldLink "ShadowTax" (134 : Nat) "ShadowTax$Plan" "persons" "I") ∈ am_tb := am_in 87 (by decide +kernel) rfl
theorem tw_88 : (Jvm.Cond.fieldLink "ShadowTax$Reading" (118 : Nat) "ShadowTax$Plan" "persons" "I") ∈ am_tb := am_in 88 (by decide +kernel) rfl
theorem tw_89 : (Jvm.Cond.fieldLink "ShadowTax$Plan" (54 : Nat) "ShadowTax$Plan" "greyDays" "I") ∈ am_tb := am_in 89 (by decide +kernel) rfl
theorem tw_90 : (Jvm.Cond.fieldLink "ShadowTax" (150 : Nat) "ShadowTax$Plan" "greyDays" "I") ∈ am_tb := am_in 90 (by decide +kernel) rfl
theorem tw_91 : (Jvm.Cond.fieldLink "ShadowTax$Reading" (124 : Nat) "ShadowTax$Plan" "greyDays" "I") ∈ am_tb := am_in 91 (by decide +kernel) rfl
theorem tw_92 : (Jvm.Cond.fieldLink "ShadowTax$Plan" (11 : Nat) "ShadowTax$Plan" "onward" "[[I") ∈ am_tb := am_in 92 (by decide +kernel) rfl
theorem tw_93 : (Jvm.Cond.fieldLink "ShadowTax$Shades" (52 : Nat) "ShadowTax$Plan" "onward" "[[I") ∈ am_tb := am_in 93 (by decide +kernel) rfl
theorem tw_94 : (Jvm.Cond.fieldLink "ShadowTax$Plan" (16 : Nat) "ShadowTax$Plan" "reach" "[I") ∈ am_tb := am_in 94 (by decide +kernel) rfl
theorem tw_95 : (Jvm.Cond.fieldLink "ShadowTax$Shades" (49 : Nat) "ShadowTax$Plan" "reach" "[I") ∈ am_tb := am_in 95 (by decide +kernel) rfl
theorem tw_96 : (Jvm.Cond.fieldLink "ShadowTax$Plan" (20 : Nat) "ShadowTax$Plan" "share" "[I") ∈ am_tb := am_in 96 (by decide +kernel) rfl
theorem tw_97 : (Jvm.Cond.fieldLink "ShadowTax$Walks" (77 : Nat) "ShadowTax$Plan" "share" "[I") ∈ am_tb := am_in 97 (by decide +kernel) rfl
theorem tw_98 : (Jvm.Cond.fieldLink "ShadowTax$Shades" (91 : Nat) "ShadowTax$Plan" "share" "[I") ∈ am_tb := am_in 98 (by decide +kernel) rfl
theorem tw_99 : (Jvm.Cond.fieldLink "ShadowTax$Plan" (23 : Nat) "ShadowTax$Plan" "start" "[I") ∈ am_tb := am_in 99 (by decide +kernel) rfl
theorem tw_100 : (Jvm.Cond.fieldLink "ShadowTax$State" (24 : Nat) "ShadowTax$Plan" "start" "[I") ∈ am_tb := am_in 100 (by decide +kernel) rfl
theorem tw_101 : (Jvm.Cond.fieldLink "ShadowTax$Plan" (26 : Nat) "ShadowTax$Plan" "tall" "[I") ∈ am_tb := am_in 101 (by decide +kernel) rfl
theorem tw_102 : (Jvm.Cond.fieldLink "ShadowTax$Shades" (59 : Nat) "ShadowTax$Plan" "tall" "[I") ∈ am_tb := am_in 102 (by decide +kernel) rfl
theorem tw_103 : (Jvm.Cond.fieldLink "ShadowTax$Plan" (29 : Nat) "ShadowTax$Plan" "house" "[I") ∈ am_tb := am_in 103 (by decide +kernel) rfl
theorem tw_104 : (Jvm.Cond.fieldLink "ShadowTax$State" (29 : Nat) "ShadowTax$Plan" "house" "[I") ∈ am_tb := am_in 104 (by decide +kernel) rfl
theorem tw_105 : (Jvm.Cond.fieldLink "ShadowTax$Reading" (139 : Nat) "ShadowTax$Plan" "house" "[I") ∈ am_tb := am_in 105 (by decide +kernel) rfl
theorem tw_106 : (Jvm.Cond.fieldLink "ShadowTax$Plan" (32 : Nat) "ShadowTax$Plan" "column" "[I") ∈ am_tb := am_in 106 (by decide +kernel) rfl
theorem tw_107 : (Jvm.Cond.fieldLink "ShadowTax$Plan" (35 : Nat) "ShadowTax$Plan" "line" "[I") ∈ am_tb := am_in 107 (by decide +kernel) rfl
theorem tw_137 : (Jvm.Cond.arrayClass Jvm.ClassFile.FieldType.int) ∈ am_tb := am_in 137 (by decide +kernel) rfl
theorem tw_138 : (Jvm.Cond.classLink "ShadowTax" (26 : Nat) "ShadowTax$State") ∈ am_tb := am_in 138 (by decide +kernel) rfl
theorem tw_139 : (Jvm.Cond.instantiable "ShadowTax$State" (7 : Nat)) ∈ am_tb := am_in 139 (by decide +kernel) rfl
theorem tw_141 : (Jvm.Cond.instanceMethod ({ cls := "ShadowTax$State", name := "<init>", desc := "()V" } : Jvm.MethodName)) ∈ am_tb := am_in 141 (by decide +kernel) rfl
theorem tw_142 : (Cond.code yX6_init cX6_init 1 (Option.none : Option Jvm.ClassFile.FieldType)) ∈ am_tb := am_in 142 (by decide +kernel) rfl
theorem tw_143 : (Jvm.Cond.methodLink "ShadowTax$State" (3 : Nat) ({ cls := "java/lang/Object", name := "<init>", desc := "()V" } : Jvm.MethodName)) ∈ am_tb := am_in 143 (by decide +kernel) rfl
theorem tw_144 : (Jvm.Cond.fieldLink "ShadowTax$State" (9 : Nat) "ShadowTax$State" "at" "[I") ∈ am_tb := am_in 144 (by decide +kernel) rfl
theorem tw_145 : (Jvm.Cond.fieldLink "ShadowTax$Couples" (55 : Nat) "ShadowTax$State" "at" "[I") ∈ am_tb := am_in 145 (by decide +kernel) rfl
theorem tw_146 : (Jvm.Cond.fieldLink "ShadowTax$Walks" (53 : Nat) "ShadowTax$State" "at" "[I") ∈ am_tb := am_in 146 (by decide +kernel) rfl
theorem tw_147 : (Jvm.Cond.fieldLink "ShadowTax$Shades" (65 : Nat) "ShadowTax$State" "at" "[I") ∈ am_tb := am_in 147 (by decide +kernel) rfl
theorem tw_148 : (Jvm.Cond.fieldLink "ShadowTax" (178 : Nat) "ShadowTax$State" "at" "[I") ∈ am_tb := am_in 148 (by decide +kernel) rfl
theorem tw_149 : (Jvm.Cond.fieldLink "ShadowTax$State" (15 : Nat) "ShadowTax$State" "folded" "[I") ∈ am_tb := am_in 149 (by decide +kernel) rfl
theorem tw_150 : (Jvm.Cond.fieldLink "ShadowTax$Shades" (62 : Nat) "ShadowTax$State" "folded" "[I") ∈ am_tb := am_in 150 (by decide +kernel) rfl
theorem tw_151 : (Jvm.Cond.fieldLink "ShadowTax" (191 : Nat) "ShadowTax$State" "folded" "[I") ∈ am_tb := am_in 151 (by decide +kernel) rfl
theorem tw_152 : (Jvm.Cond.fieldLink "ShadowTax$State" (18 : Nat) "ShadowTax$State" "purse" "[I") ∈ am_tb := am_in 152 (by decide +kernel) rfl
theorem tw_153 : (Jvm.Cond.fieldLink "ShadowTax" (194 : Nat) "ShadowTax$State" "purse" "[I") ∈ am_tb := am_in 153 (by decide +kernel) rfl
theorem tw_154 : (Jvm.Cond.fieldLink "ShadowTax$State" (21 : Nat) "ShadowTax$State" "house" "[I") ∈ am_tb := am_in 154 (by decide +kernel) rfl
theorem tw_155 : (Jvm.Cond.fieldLink "ShadowTax$Places" (33 : Nat) "ShadowTax$State" "house" "[I") ∈ am_tb := am_in 155 (by decide +kernel) rfl
theorem tw_156 : (Jvm.Cond.fieldLink "ShadowTax$Shades" (32 : Nat) "ShadowTax$State" "house" "[I") ∈ am_tb := am_in 156 (by decide +kernel) rfl
theorem tw_157 : (Jvm.Cond.fieldLink "ShadowTax$Walks" (80 : Nat) "ShadowTax$State" "house" "[I") ∈ am_tb := am_in 157 (by decide +kernel) rfl
theorem tw_158 : (Jvm.Cond.fieldLink "ShadowTax" (162 : Nat) "ShadowTax$State" "house" "[I") ∈ am_tb := am_in 158 (by decide +kernel) rfl
theorem tw_159 : (Jvm.Cond.fieldLink "ShadowTax$State" (30 : Nat) "ShadowTax$State" "treasury" "I") ∈ am_tb := am_in 159 (by decide +kernel) rfl
theorem tw_160 : (Jvm.Cond.fieldLink "ShadowTax" (140 : Nat) "ShadowTax$State" "treasury" "I") ∈ am_tb := am_in 160 (by decide +kernel) rfl
theorem tw_161 : (Jvm.Cond.fieldLink "ShadowTax$State" (34 : Nat) "ShadowTax$State" "rule" "I") ∈ am_tb := am_in 161 (by decide +kernel) rfl
theorem tw_162 : (Jvm.Cond.fieldLink "ShadowTax" (137 : Nat) "ShadowTax$State" "rule" "I") ∈ am_tb := am_in 162 (by decide +kernel) rfl
theorem tw_163 : (Jvm.Cond.fieldLink "ShadowTax$Shades" (76 : Nat) "ShadowTax$State" "rule" "I") ∈ am_tb := am_in 163 (by decide +kernel) rfl
theorem tw_164 : (Jvm.Cond.fieldLink "ShadowTax$State" (37 : Nat) "ShadowTax$State" "drawn" "I") ∈ am_tb := am_in 164 (by decide +kernel) rfl
theorem tw_165 : (Jvm.Cond.fieldLink "ShadowTax" (283 : Nat) "ShadowTax$State" "drawn" "I") ∈ am_tb := am_in 165 (by decide +kernel) rfl
theorem tw_181 : (Jvm.Cond.classLink "ShadowTax" (43 : Nat) "ShadowTax$Rows") ∈ am_tb := am_in 181 (by decide +kernel) rfl
theorem tw_182 : (Jvm.Cond.instantiable "ShadowTax$Rows" (4 : Nat)) ∈ am_tb := am_in 182 (by decide +kernel) rfl
theorem tw_183 : (Jvm.Cond.methodLink "ShadowTax" (45 : Nat) ({ cls := "ShadowTax$Rows", name := "<init>", desc := "(I)V" } : Jvm.MethodName)) ∈ am_tb := am_in 183 (by decide +kernel) rfl
theorem tw_184 : (Jvm.Cond.instanceMethod ({ cls := "ShadowTax$Rows", name := "<init>", desc := "(I)V" } : Jvm.MethodName)) ∈ am_tb := am_in 184 (by decide +kernel) rfl
theorem tw_185 : (Cond.code yX4_init cX4_init 3 (Option.none : Option Jvm.ClassFile.FieldType)) ∈ am_tb := am_in 185 (by decide +kernel) rfl
theorem tw_186 : (Jvm.Cond.methodLink "ShadowTax$Rows" (3 : Nat) ({ cls := "java/lang/Object", name := "<init>", desc := "()V" } : Jvm.MethodName)) ∈ am_tb := am_in 186 (by decide +kernel) rfl
theorem tw_187 : (Jvm.Cond.fieldLink "ShadowTax$Rows" (9 : Nat) "ShadowTax$Rows" "firsts" "[I") ∈ am_tb := am_in 187 (by decide +kernel) rfl
theorem tw_188 : (Jvm.Cond.fieldLink "ShadowTax$Rows" (15 : Nat) "ShadowTax$Rows" "seconds" "[I") ∈ am_tb := am_in 188 (by decide +kernel) rfl
theorem tw_189 : (Jvm.Cond.fieldLink "ShadowTax$Rows" (18 : Nat) "ShadowTax$Rows" "thirds" "[I") ∈ am_tb := am_in 189 (by decide +kernel) rfl
theorem tw_190 : (Jvm.Cond.fieldLink "ShadowTax$Rows" (21 : Nat) "ShadowTax$Rows" "count" "I") ∈ am_tb := am_in 190 (by decide +kernel) rfl
theorem tw_191 : (Jvm.Cond.fieldLink "ShadowTax$Walks" (83 : Nat) "ShadowTax$Rows" "count" "I") ∈ am_tb := am_in 191 (by decide +kernel) rfl
theorem tw_192 : (Jvm.Cond.fieldLink "ShadowTax" (143 : Nat) "ShadowTax$Rows" "count" "I") ∈ am_tb := am_in 192 (by decide +kernel) rfl
theorem tw_193 : (Jvm.Cond.fieldLink "ShadowTax$Places" (76 : Nat) "ShadowTax$Rows" "count" "I") ∈ am_tb := am_in 193 (by decide +kernel) rfl
theorem tw_203 : (Jvm.Cond.classLink "ShadowTax" (58 : Nat) "ShadowTax$Shades") ∈ am_tb := am_in 203 (by decide +kernel) rfl
theorem tw_204 : (Jvm.Cond.instantiable "ShadowTax$Shades" (3 : Nat)) ∈ am_tb := am_in 204 (by decide +kernel) rfl
theorem tw_205 : (Jvm.Cond.methodLink "ShadowTax" (60 : Nat) ({ cls := "ShadowTax$Shades", name := "<init>", desc := "(LShadowTax$Plan;LShadowTax$State;)V" } : Jvm.MethodName)) ∈ am_tb := am_in 205 (by decide +kernel) rfl
theorem tw_206 : (Jvm.Cond.instanceMethod ({ cls := "ShadowTax$Shades", name := "<init>", desc := "(LShadowTax$Plan;LShadowTax$State;)V" } : Jvm.MethodName)) ∈ am_tb := am_in 206 (by decide +kernel) rfl
theorem tw_207 : (Cond.code yX5_init cX5_init 3 (Option.none : Option Jvm.ClassFile.FieldType)) ∈ am_tb := am_in 207 (by decide +kernel) rfl
theorem tw_208 : (Jvm.Cond.methodLink "ShadowTax$Shades" (3 : Nat) ({ cls := "java/lang/Object", name := "<init>", desc := "()V" } : Jvm.MethodName)) ∈ am_tb := am_in 208 (by decide +kernel) rfl
theorem tw_209 : (Jvm.Cond.fieldLink "ShadowTax$Places" (15 : Nat) "ShadowTax$Shades" "plan" "LShadowTax$Plan;") ∈ am_tb := am_in 209 (by decide +kernel) rfl
theorem tw_210 : (Jvm.Cond.fieldLink "ShadowTax$Shades" (15 : Nat) "ShadowTax$Shades" "plan" "LShadowTax$Plan;") ∈ am_tb := am_in 210 (by decide +kernel) rfl
theorem tw_211 : (Jvm.Cond.fieldLink "ShadowTax$Walks" (20 : Nat) "ShadowTax$Shades" "plan" "LShadowTax$Plan;") ∈ am_tb := am_in 211 (by decide +kernel) rfl
theorem tw_212 : (Jvm.Cond.fieldLink "ShadowTax$Couples" (24 : Nat) "ShadowTax$Shades" "plan" "LShadowTax$Plan;") ∈ am_tb := am_in 212 (by decide +kernel) rfl
theorem tw_213 : (Jvm.Cond.fieldLink "ShadowTax$Shades" (19 : Nat) "ShadowTax$Shades" "state" "LShadowTax$State;") ∈ am_tb := am_in 213 (by decide +kernel) rfl
theorem tw_214 : (Jvm.Cond.fieldLink "ShadowTax$Places" (22 : Nat) "ShadowTax$Shades" "state" "LShadowTax$State;") ∈ am_tb := am_in 214 (by decide +kernel) rfl
theorem tw_215 : (Jvm.Cond.fieldLink "ShadowTax$Walks" (27 : Nat) "ShadowTax$Shades" "state" "LShadowTax$State;") ∈ am_tb := am_in 215 (by decide +kernel) rfl
theorem tw_216 : (Jvm.Cond.fieldLink "ShadowTax$Couples" (31 : Nat) "ShadowTax$Shades" "state" "LShadowTax$State;") ∈ am_tb := am_in 216 (by decide +kernel) rfl
theorem tw_217 : (Jvm.Cond.fieldLink "ShadowTax$Shades" (9 : Nat) "ShadowTax$Shades" "dark" "[J") ∈ am_tb := am_in 217 (by decide +kernel) rfl
theorem tw_225 : (Jvm.Cond.arrayClass Jvm.ClassFile.FieldType.long) ∈ am_tb := am_in 225 (by decide +kernel) rfl
theorem tw_226 : (Jvm.Cond.classLink "ShadowTax" (67 : Nat) "ShadowTax$Places") ∈ am_tb := am_in 226 (by decide +kernel) rfl
theorem tw_227 : (Jvm.Cond.instantiable "ShadowTax$Places" (3 : Nat)) ∈ am_tb := am_in 227 (by decide +kernel) rfl
theorem tw_228 : (Jvm.Cond.methodLink "ShadowTax" (69 : Nat) ({ cls := "ShadowTax$Places", name := "<init>", desc := "(LShadowTax$Shades;)V" } : Jvm.MethodName)) ∈ am_tb := am_in 228 (by decide +kernel) rfl
theorem tw_229 : (Jvm.Cond.instanceMethod ({ cls := "ShadowTax$Places", name := "<init>", desc := "(LShadowTax$Shades;)V" } : Jvm.MethodName)) ∈ am_tb := am_in 229 (by decide +kernel) rfl
theorem tw_230 : (Cond.code yX1_init cX1_init 2 (Option.none : Option Jvm.ClassFile.FieldType)) ∈ am_tb := am_in 230 (by decide +kernel) rfl
theorem tw_231 : (Jvm.Cond.methodLink "ShadowTax$Places" (3 : Nat) ({ cls := "java/lang/Object", name := "<init>", desc := "()V" } : Jvm.MethodName)) ∈ am_tb := am_in 231 (by decide +kernel) rfl
theorem tw_232 : (Jvm.Cond.fieldLink "ShadowTax$Places" (9 : Nat) "ShadowTax$Places" "shades" "LShadowTax$Shades;") ∈ am_tb := am_in 232 (by decide +kernel) rfl
theorem tw_233 : (Jvm.Cond.fieldLink "ShadowTax$Places" (21 : Nat) "ShadowTax$Places" "plan" "LShadowTax$Plan;") ∈ am_tb := am_in 233 (by decide +kernel) rfl
theorem tw_234 : (Jvm.Cond.fieldLink "ShadowTax$Places" (26 : Nat) "ShadowTax$Places" "state" "LShadowTax$State;") ∈ am_tb := am_in 234 (by decide +kernel) rfl
theorem tw_242 : (Jvm.Cond.classLink "ShadowTax" (76 : Nat) "ShadowTax$Walks") ∈ am_tb := am_in 242 (by decide +kernel) rfl
theorem tw_243 : (Jvm.Cond.instantiable "ShadowTax$Walks" (5 : Nat)) ∈ am_tb := am_in 243 (by decide +kernel) rfl
theorem tw_244 : (Jvm.Cond.methodLink "ShadowTax" (78 : Nat) ({ cls := "ShadowTax$Walks", name := "<init>", desc := "(LShadowTax$Shades;LShadowTax$Rows;)V" } : Jvm.MethodName)) ∈ am_tb := am_in 244 (by decide +kernel) rfl
theorem tw_245 : (Jvm.Cond.instanceMethod ({ cls := "ShadowTax$Walks", name := "<init>", desc := "(LShadowTax$Shades;LShadowTax$Rows;)V" } : Jvm.MethodName)) ∈ am_tb := am_in 245 (by decide +kernel) rfl
theorem tw_246 : (Cond.code yX7_init cX7_init 3 (Option.none : Option Jvm.ClassFile.FieldType)) ∈ am_tb := am_in 246 (by decide +kernel) rfl
theorem tw_247 : (Jvm.Cond.methodLink "ShadowTax$Walks" (3 : Nat) ({ cls := "java/lang/Object", name := "<init>", desc := "()V" } : Jvm.MethodName)) ∈ am_tb := am_in 247 (by decide +kernel) rfl
theorem tw_248 : (Jvm.Cond.classLink "ShadowTax$Walks" (9 : Nat) "[[I") ∈ am_tb := am_in 248 (by decide +kernel) rfl
theorem tw_249 : (Jvm.Cond.fieldLink "ShadowTax$Walks" (16 : Nat) "ShadowTax$Walks" "shades" "LShadowTax$Shades;") ∈ am_tb := am_in 249 (by decide +kernel) rfl
theorem tw_250 : (Jvm.Cond.fieldLink "ShadowTax$Walks" (26 : Nat) "ShadowTax$Walks" "plan" "LShadowTax$Plan;") ∈ am_tb := am_in 250 (by decide +kernel) rfl
theorem tw_251 : (Jvm.Cond.fieldLink "ShadowTax$Walks" (31 : Nat) "ShadowTax$Walks" "state" "LShadowTax$State;") ∈ am_tb := am_in 251 (by decide +kernel) rfl
theorem tw_252 : (Jvm.Cond.fieldLink "ShadowTax$Walks" (32 : Nat) "ShadowTax$Walks" "errands" "LShadowTax$Rows;") ∈ am_tb := am_in 252 (by decide +kernel) rfl
theorem tw_253 : (Jvm.Cond.fieldLink "ShadowTax$Walks" (11 : Nat) "ShadowTax$Walks" "least" "[[I") ∈ am_tb := am_in 253 (by decide +kernel) rfl
theorem tw_265 : (Jvm.Cond.classLink "ShadowTax" (85 : Nat) "ShadowTax$Couples") ∈ am_tb := am_in 265 (by decide +kernel) rfl
theorem tw_266 : (Jvm.Cond.instantiable "ShadowTax$Couples" (5 : Nat)) ∈ am_tb := am_in 266 (by decide +kernel) rfl
theorem tw_267 : (Jvm.Cond.methodLink "ShadowTax" (87 : Nat) ({ cls := "ShadowTax$Couples", name := "<init>", desc := "(LShadowTax$Shades;)V" } : Jvm.MethodName)) ∈ am_tb := am_in 267 (by decide +kernel) rfl
theorem tw_268 : (Jvm.Cond.instanceMethod ({ cls := "ShadowTax$Couples", name := "<init>", desc := "(LShadowTax$Shades;)V" } : Jvm.MethodName)) ∈ am_tb := am_in 268 (by decide +kernel) rfl
theorem tw_269 : (Cond.code yX0_init cX0_init 2 (Option.none : Option Jvm.ClassFile.FieldType)) ∈ am_tb := am_in 269 (by decide +kernel) rfl
theorem tw_270 : (Jvm.Cond.methodLink "ShadowTax$Couples" (3 : Nat) ({ cls := "java/lang/Object", name := "<init>", desc := "()V" } : Jvm.MethodName)) ∈ am_tb := am_in 270 (by decide +kernel) rfl
theorem tw_271 : (Jvm.Cond.classLink "ShadowTax$Couples" (9 : Nat) "[[I") ∈ am_tb := am_in 271 (by decide +kernel) rfl
theorem tw_272 : (Jvm.Cond.fieldLink "ShadowTax$Couples" (20 : Nat) "ShadowTax$Couples" "shades" "LShadowTax$Shades;") ∈ am_tb := am_in 272 (by decide +kernel) rfl
theorem tw_273 : (Jvm.Cond.fieldLink "ShadowTax$Couples" (30 : Nat) "ShadowTax$Couples" "plan" "LShadowTax$Plan;") ∈ am_tb := am_in 273 (by decide +kernel) rfl
theorem tw_274 : (Jvm.Cond.fieldLink "ShadowTax$Couples" (35 : Nat) "ShadowTax$Couples" "state" "LShadowTax$State;") ∈ am_tb := am_in 274 (by decide +kernel) rfl
theorem tw_275 : (Jvm.Cond.fieldLink "ShadowTax$Couples" (11 : Nat) "ShadowTax$Couples" "worth" "[[I") ∈ am_tb := am_in 275 (by decide +kernel) rfl
theorem tw_276 : (Jvm.Cond.fieldLink "ShadowTax$Couples" (16 : Nat) "ShadowTax$Couples" "greatest" "[I") ∈ am_tb := am_in 276 (by decide +kernel) rfl
theorem tw_288 : (Jvm.Cond.fieldLink "ShadowTax" (10 : Nat) "ShadowTax" "reading" "LShadowTax$Reading;") ∈ am_tb := am_in 288 (by decide +kernel) rfl
theorem tw_289 : (Jvm.Cond.fieldLink "ShadowTax" (19 : Nat) "ShadowTax" "draft" "LShadowTax$Plan;") ∈ am_tb := am_in 289 (by decide +kernel) rfl
theorem tw_290 : (Jvm.Cond.fieldLink "ShadowTax" (23 : Nat) "ShadowTax" "plan" "LShadowTax$Plan;") ∈ am_tb := am_in 290 (by decide +kernel) rfl
theorem tw_291 : (Jvm.Cond.fieldLink "ShadowTax" (29 : Nat) "ShadowTax" "state" "LShadowTax$State;") ∈ am_tb := am_in 291 (by decide +kernel) rfl
theorem tw_292 : (Jvm.Cond.fieldLink "ShadowTax" (33 : Nat) "ShadowTax" "firstImage" "LShadowTax$State;") ∈ am_tb := am_in 292 (by decide +kernel) rfl
theorem tw_293 : (Jvm.Cond.fieldLink "ShadowTax" (36 : Nat) "ShadowTax" "secondImage" "LShadowTax$State;") ∈ am_tb := am_in 293 (by decide +kernel) rfl
theorem tw_294 : (Jvm.Cond.fieldLink "ShadowTax" (39 : Nat) "ShadowTax" "kept" "[I") ∈ am_tb := am_in 294 (by decide +kernel) rfl
theorem tw_295 : (Jvm.Cond.fieldLink "ShadowTax" (48 : Nat) "ShadowTax" "errands" "LShadowTax$Rows;") ∈ am_tb := am_in 295 (by decide +kernel) rfl
theorem tw_296 : (Jvm.Cond.fieldLink "ShadowTax" (52 : Nat) "ShadowTax" "tells" "LShadowTax$Rows;") ∈ am_tb := am_in 296 (by decide +kernel) rfl
theorem tw_297 : (Jvm.Cond.fieldLink "ShadowTax" (55 : Nat) "ShadowTax" "book" "LShadowTax$Rows;") ∈ am_tb := am_in 297 (by decide +kernel) rfl
theorem tw_298 : (Jvm.Cond.fieldLink "ShadowTax" (63 : Nat) "ShadowTax" "shades" "LShadowTax$Shades;") ∈ am_tb := am_in 298 (by decide +kernel) rfl
theorem tw_299 : (Jvm.Cond.fieldLink "ShadowTax" (72 : Nat) "ShadowTax" "places" "LShadowTax$Places;") ∈ am_tb := am_in 299 (by decide +kernel) rfl
theorem tw_300 : (Jvm.Cond.fieldLink "ShadowTax" (81 : Nat) "ShadowTax" "walks" "LShadowTax$Walks;") ∈ am_tb := am_in 300 (by decide +kernel) rfl
theorem tw_301 : (Jvm.Cond.fieldLink "ShadowTax" (88 : Nat) "ShadowTax" "pairing" "LShadowTax$Couples;") ∈ am_tb := am_in 301 (by decide +kernel) rfl
theorem tw_331 : (Jvm.Cond.methodLink "ShadowTaxLaw" (15 : Nat) ({ cls := "ShadowTax", name := "feed", desc := "(IJ)I" } : Jvm.MethodName)) ∈ am_tb := am_in 331 (by decide +kernel) rfl
theorem tw_332 : (Jvm.Cond.instanceMethod ({ cls := "ShadowTax", name := "feed", desc := "(IJ)I" } : Jvm.MethodName)) ∈ am_tb := am_in 332 (by decide +kernel) rfl
theorem tw_333 : (Jvm.Cond.selects "ShadowTax" ({ cls := "ShadowTax", name := "feed", desc := "(IJ)I" } : Jvm.MethodName) ({ cls := "ShadowTax", name := "feed", desc := "(IJ)I" } : Jvm.MethodName)) ∈ am_tb := am_in 333 (by decide +kernel) rfl
theorem tw_334 : (Cond.code yX8_feed cX8_feed 4 (Option.some Jvm.ClassFile.FieldType.int)) ∈ am_tb := am_in 334 (by decide +kernel) rfl
theorem tw_335 : (Jvm.Cond.constant "ShadowTax" (92 : Nat) (-1000000002 : Int32)) ∈ am_tb := am_in 335 (by decide +kernel) rfl
theorem tw_336 : (Jvm.Cond.constant "ShadowTax" (97 : Nat) (-1000000004 : Int32)) ∈ am_tb := am_in 336 (by decide +kernel) rfl
theorem tw_337 : (Jvm.Cond.methodLink "ShadowTax" (98 : Nat) ({ cls := "ShadowTax$Reading", name := "append", desc := "(IJ)V" } : Jvm.MethodName)) ∈ am_tb := am_in 337 (by decide +kernel) rfl
theorem tw_338 : (Jvm.Cond.instanceMethod ({ cls := "ShadowTax$Reading", name := "append", desc := "(IJ)V" } : Jvm.MethodName)) ∈ am_tb := am_in 338 (by decide +kernel) rfl
theorem tw_339 : (Jvm.Cond.selects "ShadowTax$Reading" ({ cls := "ShadowTax$Reading", name := "append", desc := "(IJ)V" } : Jvm.MethodName) ({ cls := "ShadowTax$Reading", name := "append", desc := "(IJ)V" } : Jvm.MethodName)) ∈ am_tb := am_in 339 (by decide +kernel) rfl
theorem tw_340 : (Cond.code yX3_append cX3_append 5 (Option.none : Option Jvm.ClassFile.FieldType)) ∈ am_tb := am_in 340 (by decide +kernel) rfl
theorem tw_341 : (Jvm.Cond.methodLink "ShadowTaxLaw" (20 : Nat) ({ cls := "ShadowTax", name := "ground", desc := "()I" } : Jvm.MethodName)) ∈ am_tb := am_in 341 (by decide +kernel) rfl
theorem tw_342 : (Jvm.Cond.instanceMethod ({ cls := "ShadowTax", name := "ground", desc := "()I" } : Jvm.MethodName)) ∈ am_tb := am_in 342 (by decide +kernel) rfl
theorem tw_343 : (Jvm.Cond.selects "ShadowTax" ({ cls := "ShadowTax", name := "ground", desc := "()I" } : Jvm.MethodName) ({ cls := "ShadowTax", name := "ground", desc := "()I" } : Jvm.MethodName)) ∈ am_tb := am_in 343 (by decide +kernel) rfl
theorem tw_344 : (Cond.code yX8_ground cX8_ground 3 (Option.some Jvm.ClassFile.FieldType.int)) ∈ am_tb := am_in 344 (by decide +kernel) rfl
theorem tw_345 : (Jvm.Cond.methodLink "ShadowTax" (102 : Nat) ({ cls := "ShadowTax$Reading", name := "readInto", desc := "(LShadowTax$Plan;)I" } : Jvm.MethodName)) ∈ am_tb := am_in 345 (by decide +kernel) rfl
theorem tw_346 : (Jvm.Cond.instanceMethod ({ cls := "ShadowTax$Reading", name := "readInto", desc := "(LShadowTax$Plan;)I" } : Jvm.MethodName)) ∈ am_tb := am_in 346 (by decide +kernel) rfl
theorem tw_347 : (Jvm.Cond.selects "ShadowTax$Reading" ({ cls := "ShadowTax$Reading", name := "readInto", desc := "(LShadowTax$Plan;)I" } : Jvm.MethodName) ({ cls := "ShadowTax$Reading", name := "readInto", desc := "(LShadowTax$Plan;)I" } : Jvm.MethodName)) ∈ am_tb := am_in 347 (by decide +kernel) rfl
theorem tw_348 : (Cond.code yX3_readInto cX3_readInto 3 (Option.some Jvm.ClassFile.FieldType.int)) ∈ am_tb := am_in 348 (by decide +kernel) rfl
theorem tw_349 : (Jvm.Cond.methodLink "ShadowTax$Reading" (35 : Nat) ({ cls := "ShadowTax$Plan", name := "clear", desc := "()V" } : Jvm.MethodName)) ∈ am_tb := am_in 349 (by decide +kernel) rfl
theorem tw_350 : (Jvm.Cond.instanceMethod ({ cls := "ShadowTax$Plan", name := "clear", desc := "()V" } : Jvm.MethodName)) ∈ am_tb := am_in 350 (by decide +kernel) rfl
theorem tw_351 : (Jvm.Cond.selects "ShadowTax$Plan" ({ cls := "ShadowTax$Plan", name := "clear", desc := "()V" } : Jvm.MethodName) ({ cls := "ShadowTax$Plan", name := "clear", desc := "()V" } : Jvm.MethodName)) ∈ am_tb := am_in 351 (by decide +kernel) rfl
theorem tw_352 : (Cond.code yX2_clear cX2_clear 2 (Option.none : Option Jvm.ClassFile.FieldType)) ∈ am_tb := am_in 352 (by decide +kernel) rfl
theorem tw_353 : (Jvm.Cond.methodLink "ShadowTax$Reading" (40 : Nat) ({ cls := "ShadowTax$Reading", name := "skipBlanks", desc := "()V" } : Jvm.MethodName)) ∈ am_tb := am_in 353 (by decide +kernel) rfl
theorem tw_355 : (Jvm.Cond.instanceMethod ({ cls := "ShadowTax$Reading", name := "skipBlanks", desc := "()V" } : Jvm.MethodName)) ∈ am_tb := am_in 355 (by decide +kernel) rfl
theorem tw_356 : (Cond.code yX3_skipBlanks cX3_skipBlanks 2 (Option.none : Option Jvm.ClassFile.FieldType)) ∈ am_tb := am_in 356 (by decide +kernel) rfl
theorem tw_357 : (Jvm.Cond.methodLink "ShadowTax$Reading" (43 : Nat) ({ cls := "ShadowTax$Reading", name := "readStatement", desc := "(LShadowTax$Plan;)V" } : Jvm.MethodName)) ∈ am_tb := am_in 357 (by decide +kernel) rfl
theorem tw_359 : (Jvm.Cond.instanceMethod ({ cls := "ShadowTax$Reading", name := "readStatement", desc := "(LShadowTax$Plan;)V" } : Jvm.MethodName)) ∈ am_tb := am_in 359 (by decide +kernel) rfl
theorem tw_360 : (Cond.code yX3_readStatement cX3_readStatement 3 (Option.none : Option Jvm.ClassFile.FieldType)) ∈ am_tb := am_in 360 (by decide +kernel) rfl
theorem tw_361 : (Jvm.Cond.methodLink "ShadowTax$Reading" (47 : Nat) ({ cls := "ShadowTax$Reading", name := "skipLetters", desc := "()V" } : Jvm.MethodName)) ∈ am_tb := am_in 361 (by decide +kernel) rfl
theorem tw_363 : (Jvm.Cond.instanceMethod ({ cls := "ShadowTax$Reading", name := "skipLetters", desc := "()V" } : Jvm.MethodName)) ∈ am_tb := am_in 363 (by decide +kernel) rfl
theorem tw_364 : (Cond.code yX3_skipLetters cX3_skipLetters 2 (Option.none : Option Jvm.ClassFile.FieldType)) ∈ am_tb := am_in 364 (by decide +kernel) rfl
theorem tw_365 : (Jvm.Cond.methodLink "ShadowTax$Reading" (53 : Nat) ({ cls := "ShadowTax$Reading", name := "readGround", desc := "(LShadowTax$Plan;I)V" } : Jvm.MethodName)) ∈ am_tb := am_in 365 (by decide +kernel) rfl
theorem tw_367 : (Jvm.Cond.instanceMethod ({ cls := "ShadowTax$Reading", name := "readGround", desc := "(LShadowTax$Plan;I)V" } : Jvm.MethodName)) ∈ am_tb := am_in 367 (by decide +kernel) rfl
theorem tw_368 : (Cond.code yX3_readGround cX3_readGround 5 (Option.none : Option Jvm.ClassFile.FieldType)) ∈ am_tb := am_in 368 (by decide +kernel) rfl
theorem tw_370 : (Jvm.Cond.methodLink "ShadowTax$Reading" (59 : Nat) ({ cls := "ShadowTax$Reading", name := "isWord", desc := "(ILjava/lang/String;)Z" } : Jvm.MethodName)) ∈ am_tb := am_in 370 (by decide +kernel) rfl
theorem tw_372 : (Jvm.Cond.instanceMethod ({ cls := "ShadowTax$Reading", name := "isWord", desc := "(ILjava/lang/String;)Z" } : Jvm.MethodName)) ∈ am_tb := am_in 372 (by decide +kernel) rfl
theorem tw_373 : (Cond.code yX3_isWord cX3_isWord 4 (Option.some Jvm.ClassFile.FieldType.boolean)) ∈ am_tb := am_in 373 (by decide +kernel) rfl
theorem tw_374 : (Jvm.Cond.methodLink "ShadowTax$Reading" (145 : Nat) ({ cls := "java/lang/String", name := "length", desc := "()I" } : Jvm.MethodName)) ∈ am_tb := am_in 374 (by decide +kernel) rfl
theorem tw_375 : (Jvm.Cond.instanceMethod ({ cls := "java/lang/String", name := "length", desc := "()I" } : Jvm.MethodName)) ∈ am_tb := am_in 375 (by decide +kernel) rfl
theorem tw_376 : (Jvm.Cond.selects "java/lang/String" ({ cls := "java/lang/String", name := "length", desc := "()I" } : Jvm.MethodName) ({ cls := "java/lang/String", name := "length", desc := "()I" } : Jvm.MethodName)) ∈ am_tb := am_in 376 (by decide +kernel) rfl
theorem tw_377 : (Cond.code yJ0_length_8abf5 cJ0_length_8abf5 1 (Option.some Jvm.ClassFile.FieldType.int)) ∈ am_tb := am_in 377 (by decide +kernel) rfl
theorem tw_378 : (Jvm.Cond.methodLink "java/lang/String" (335 : Nat) ({ cls := "java/lang/String", name := "coder", desc := "()B" } : Jvm.MethodName)) ∈ am_tb := am_in 378 (by decide +kernel) rfl
theorem tw_379 : (Jvm.Cond.instanceMethod ({ cls := "java/lang/String", name := "coder", desc := "()B" } : Jvm.MethodName)) ∈ am_tb := am_in 379 (by decide +kernel) rfl
theorem tw_380 : (Jvm.Cond.selects "java/lang/String" ({ cls := "java/lang/String", name := "coder", desc := "()B" } : Jvm.MethodName) ({ cls := "java/lang/String", name := "coder", desc := "()B" } : Jvm.MethodName)) ∈ am_tb := am_in 380 (by decide +kernel) rfl
theorem tw_381 : (Cond.code yJ0_coder_7d493 cJ0_coder_7d493 1 (Option.some Jvm.ClassFile.FieldType.byte)) ∈ am_tb := am_in 381 (by decide +kernel) rfl
theorem tw_382 : (Jvm.Cond.fieldLink "java/lang/String" (38 : Nat) "java/lang/String" "COMPACT_STRINGS" "Z") ∈ am_tb := am_in 382 (by decide +kernel) rfl
theorem tw_384 : (Jvm.Cond.methodLink "ShadowTax$Reading" (150 : Nat) ({ cls := "java/lang/String", name := "charAt", desc := "(I)C" } : Jvm.MethodName)) ∈ am_tb := am_in 384 (by decide +kernel) rfl
theorem tw_385 : (Jvm.Cond.instanceMethod ({ cls := "java/lang/String", name := "charAt", desc := "(I)C" } : Jvm.MethodName)) ∈ am_tb := am_in 385 (by decide +kernel) rfl
theorem tw_386 : (Jvm.Cond.selects "java/lang/String" ({ cls := "java/lang/String", name := "charAt", desc := "(I)C" } : Jvm.MethodName) ({ cls := "java/lang/String", name := "charAt", desc := "(I)C" } : Jvm.MethodName)) ∈ am_tb := am_in 386 (by decide +kernel) rfl
theorem tw_387 : (Cond.code yJ0_charAt_5068e cJ0_charAt_5068e 2 (Option.some Jvm.ClassFile.FieldType.char)) ∈ am_tb := am_in 387 (by decide +kernel) rfl
theorem tw_388 : (Jvm.Cond.methodLink "java/lang/String" (492 : Nat) ({ cls := "java/lang/String", name := "isLatin1", desc := "()Z" } : Jvm.MethodName)) ∈ am_tb := am_in 388 (by decide +kernel) rfl
theorem tw_389 : (Jvm.Cond.instanceMethod ({ cls := "java/lang/String", name := "isLatin1", desc := "()Z" } : Jvm.MethodName)) ∈ am_tb := am_in 389 (by decide +kernel) rfl
theorem tw_390 : (Jvm.Cond.selects "java/lang/String" ({ cls := "java/lang/String", name := "isLatin1", desc := "()Z" } : Jvm.MethodName) ({ cls := "java/lang/String", name := "isLatin1", desc := "()Z" } : Jvm.MethodName)) ∈ am_tb := am_in 390 (by decide +kernel) rfl
theorem tw_391 : (Cond.code yJ0_isLatin1_aae02 cJ0_isLatin1_aae02 1 (Option.some Jvm.ClassFile.FieldType.boolean)) ∈ am_tb := am_in 391 (by decide +kernel) rfl
theorem tw_392 : (Jvm.Cond.methodLink "java/lang/String" (495 : Nat) ({ cls := "java/lang/StringLatin1", name := "charAt", desc := "([BI)C" } : Jvm.MethodName)) ∈ am_tb := am_in 392 (by decide +kernel) rfl
theorem tw_393 : (Jvm.Cond.static ({ cls := "java/lang/StringLatin1", name := "charAt", desc := "([BI)C" } : Jvm.MethodName)) ∈ am_tb := am_in 393 (by decide +kernel) rfl
theorem tw_394 : (Cond.code yJ1_charAt_3b067 cJ1_charAt_3b067 2 (Option.some Jvm.ClassFile.FieldType.char)) ∈ am_tb := am_in 394 (by decide +kernel) rfl
theorem tw_395 : (Jvm.Cond.methodLink "java/lang/StringLatin1" (9 : Nat) ({ cls := "java/lang/String", name := "checkIndex", desc := "(II)V" } : Jvm.MethodName)) ∈ am_tb := am_in 395 (by decide +kernel) rfl
theorem tw_396 : (Jvm.Cond.static ({ cls := "java/lang/String", name := "checkIndex", desc := "(II)V" } : Jvm.MethodName)) ∈ am_tb := am_in 396 (by decide +kernel) rfl
theorem tw_397 : (Cond.code yJ0_checkIndex_df160 cJ0_checkIndex_df160 2 (Option.none : Option Jvm.ClassFile.FieldType)) ∈ am_tb := am_in 397 (by decide +kernel) rfl
theorem tw_398 : (Jvm.Cond.fieldLink "java/lang/String" (1053 : Nat) "jdk/internal/util/Preconditions" "SIOOBE_FORMATTER" "Ljava/util/function/BiFunction;") ∈ am_tb := am_in 398 (by decide +kernel) rfl
theorem tw_400 : (Jvm.Cond.methodLink "java/lang/String" (1059 : Nat) ({ cls := "jdk/internal/util/Preconditions", name := "checkIndex", desc := "(IILjava/util/function/BiFunction;)I" } : Jvm.MethodName)) ∈ am_tb := am_in 400 (by decide +kernel) rfl
theorem tw_401 : (Jvm.Cond.static ({ cls := "jdk/internal/util/Preconditions", name := "checkIndex", desc := "(IILjava/util/function/BiFunction;)I" } : Jvm.MethodName)) ∈ am_tb := am_in 401 (by decide +kernel) rfl
theorem tw_402 : (Cond.code yJ3_checkIndex_8e157 cJ3_checkIndex_8e157 3 (Option.some Jvm.ClassFile.FieldType.int)) ∈ am_tb := am_in 402 (by decide +kernel) rfl
theorem tw_422 : (Jvm.Cond.methodLink "ShadowTax$Reading" (83 : Nat) ({ cls := "ShadowTax$Reading", name := "fail", desc := "(II)V" } : Jvm.MethodName)) ∈ am_tb := am_in 422 (by decide +kernel) rfl
theorem tw_424 : (Jvm.Cond.instanceMethod ({ cls := "ShadowTax$Reading", name := "fail", desc := "(II)V" } : Jvm.MethodName)) ∈ am_tb := am_in 424 (by decide +kernel) rfl
theorem tw_425 : (Cond.code yX3_fail cX3_fail 3 (Option.none : Option Jvm.ClassFile.FieldType)) ∈ am_tb := am_in 425 (by decide +kernel) rfl
theorem tw_426 : (Jvm.Cond.methodLink "ShadowTax$Reading" (87 : Nat) ({ cls := "ShadowTax$Reading", name := "readNumber", desc := "(II)I" } : Jvm.MethodName)) ∈ am_tb := am_in 426 (by decide +kernel) rfl
theorem tw_428 : (Jvm.Cond.instanceMethod ({ cls := "ShadowTax$Reading", name := "readNumber", desc := "(II)I" } : Jvm.MethodName)) ∈ am_tb := am_in 428 (by decide +kernel) rfl
theorem tw_429 : (Cond.code yX3_readNumber cX3_readNumber 6 (Option.some Jvm.ClassFile.FieldType.int)) ∈ am_tb := am_in 429 (by decide +kernel) rfl
theorem tw_430 : (Jvm.Cond.methodLink "ShadowTax$Reading" (142 : Nat) ({ cls := "ShadowTax$Reading", name := "isFigure", desc := "(I)Z" } : Jvm.MethodName)) ∈ am_tb := am_in 430 (by decide +kernel) rfl
theorem tw_432 : (Jvm.Cond.instanceMethod ({ cls := "ShadowTax$Reading", name := "isFigure", desc := "(I)Z" } : Jvm.MethodName)) ∈ am_tb := am_in 432 (by decide +kernel) rfl
theorem tw_433 : (Cond.code yX3_isFigure cX3_isFigure 2 (Option.some Jvm.ClassFile.FieldType.boolean)) ∈ am_tb := am_in 433 (by decide +kernel) rfl
theorem tw_434 : (Jvm.Cond.methodLink "ShadowTax$Reading" (94 : Nat) ({ cls := "ShadowTax$Reading", name := "readEnd", desc := "()V" } : Jvm.MethodName)) ∈ am_tb := am_in 434 (by decide +kernel) rfl
theorem tw_436 : (Jvm.Cond.instanceMethod ({ cls := "ShadowTax$Reading", name := "readEnd", desc := "()V" } : Jvm.MethodName)) ∈ am_tb := am_in 436 (by decide +kernel) rfl
theorem tw_437 : (Cond.code yX3_readEnd cX3_readEnd 1 (Option.none : Option Jvm.ClassFile.FieldType)) ∈ am_tb := am_in 437 (by decide +kernel) rfl
theorem tw_438 : (Jvm.Cond.methodLink "ShadowTax$Reading" (97 : Nat) ({ cls := "ShadowTax$Plan", name := "measure", desc := "(II)V" } : Jvm.MethodName)) ∈ am_tb := am_in 438 (by decide +kernel) rfl
theorem tw_439 : (Jvm.Cond.instanceMethod ({ cls := "ShadowTax$Plan", name := "measure", desc := "(II)V" } : Jvm.MethodName)) ∈ am_tb := am_in 439 (by decide +kernel) rfl
theorem tw_440 : (Jvm.Cond.selects "ShadowTax$Plan" ({ cls := "ShadowTax$Plan", name := "measure", desc := "(II)V" } : Jvm.MethodName) ({ cls := "ShadowTax$Plan", name := "measure", desc := "(II)V" } : Jvm.MethodName)) ∈ am_tb := am_in 440 (by decide +kernel) rfl
theorem tw_441 : (Cond.code yX2_measure cX2_measure 5 (Option.none : Option Jvm.ClassFile.FieldType)) ∈ am_tb := am_in 441 (by decide +kernel) rfl
theorem tw_443 : (Jvm.Cond.methodLink "ShadowTax$Reading" (63 : Nat) ({ cls := "ShadowTax$Reading", name := "readHouse", desc := "(LShadowTax$Plan;I)V" } : Jvm.MethodName)) ∈ am_tb := am_in 443 (by decide +kernel) rfl
theorem tw_445 : (Jvm.Cond.instanceMethod ({ cls := "ShadowTax$Reading", name := "readHouse", desc := "(LShadowTax$Plan;I)V" } : Jvm.MethodName)) ∈ am_tb := am_in 445 (by decide +kernel) rfl
theorem tw_446 : (Cond.code yX3_readHouse cX3_readHouse 5 (Option.none : Option Jvm.ClassFile.FieldType)) ∈ am_tb := am_in 446 (by decide +kernel) rfl
theorem tw_447 : (Jvm.Cond.methodLink "ShadowTax$Reading" (100 : Nat) ({ cls := "ShadowTax$Reading", name := "readCell", desc := "(LShadowTax$Plan;)I" } : Jvm.MethodName)) ∈ am_tb := am_in 447 (by decide +kernel) rfl
theorem tw_449 : (Jvm.Cond.instanceMethod ({ cls := "ShadowTax$Reading", name := "readCell", desc := "(LShadowTax$Plan;)I" } : Jvm.MethodName)) ∈ am_tb := am_in 449 (by decide +kernel) rfl
theorem tw_450 : (Cond.code yX3_readCell cX3_readCell 5 (Option.some Jvm.ClassFile.FieldType.int)) ∈ am_tb := am_in 450 (by decide +kernel) rfl
theorem tw_451 : (Jvm.Cond.methodLink "ShadowTax$Reading" (133 : Nat) ({ cls := "ShadowTax$Plan", name := "cellAt", desc := "(II)I" } : Jvm.MethodName)) ∈ am_tb := am_in 451 (by decide +kernel) rfl
theorem tw_452 : (Jvm.Cond.instanceMethod ({ cls := "ShadowTax$Plan", name := "cellAt", desc := "(II)I" } : Jvm.MethodName)) ∈ am_tb := am_in 452 (by decide +kernel) rfl
theorem tw_453 : (Jvm.Cond.selects "ShadowTax$Plan" ({ cls := "ShadowTax$Plan", name := "cellAt", desc := "(II)I" } : Jvm.MethodName) ({ cls := "ShadowTax$Plan", name := "cellAt", desc := "(II)I" } : Jvm.MethodName)) ∈ am_tb := am_in 453 (by decide +kernel) rfl
theorem tw_454 : (Cond.code yX2_cellAt cX2_cellAt 3 (Option.some Jvm.ClassFile.FieldType.int)) ∈ am_tb := am_in 454 (by decide +kernel) rfl
theorem tw_455 : (Jvm.Cond.methodLink "ShadowTax$Reading" (136 : Nat) ({ cls := "ShadowTax$Plan", name := "hasCell", desc := "(I)Z" } : Jvm.MethodName)) ∈ am_tb := am_in 455 (by decide +kernel) rfl
theorem tw_456 : (Jvm.Cond.instanceMethod ({ cls := "ShadowTax$Plan", name := "hasCell", desc := "(I)Z" } : Jvm.MethodName)) ∈ am_tb := am_in 456 (by decide +kernel) rfl
theorem tw_457 : (Jvm.Cond.selects "ShadowTax$Plan" ({ cls := "ShadowTax$Plan", name := "hasCell", desc := "(I)Z" } : Jvm.MethodName) ({ cls := "ShadowTax$Plan", name := "hasCell", desc := "(I)Z" } : Jvm.MethodName)) ∈ am_tb := am_in 457 (by decide +kernel) rfl
theorem tw_458 : (Cond.code yX2_hasCell cX2_hasCell 2 (Option.some Jvm.ClassFile.FieldType.boolean)) ∈ am_tb := am_in 458 (by decide +kernel) rfl
theorem tw_459 : (Jvm.Cond.methodLink "ShadowTax$Reading" (104 : Nat) ({ cls := "ShadowTax$Plan", name := "startsSomebodyOn", desc := "(I)Z" } : Jvm.MethodName)) ∈ am_tb := am_in 459 (by decide +kernel) rfl
theorem tw_460 : (Jvm.Cond.instanceMethod ({ cls := "ShadowTax$Plan", name := "startsSomebodyOn", desc := "(I)Z" } : Jvm.MethodName)) ∈ am_tb := am_in 460 (by decide +kernel) rfl
theorem tw_461 : (Jvm.Cond.selects "ShadowTax$Plan" ({ cls := "ShadowTax$Plan", name := "startsSomebodyOn", desc := "(I)Z" } : Jvm.MethodName) ({ cls := "ShadowTax$Plan", name := "startsSomebodyOn", desc := "(I)Z" } : Jvm.MethodName)) ∈ am_tb := am_in 461 (by decide +kernel) rfl
theorem tw_462 : (Cond.code yX2_startsSomebodyOn cX2_startsSomebodyOn 3 (Option.some Jvm.ClassFile.FieldType.boolean)) ∈ am_tb := am_in 462 (by decide +kernel) rfl
theorem tw_463 : (Jvm.Cond.methodLink "ShadowTax$Reading" (108 : Nat) ({ cls := "ShadowTax$Plan", name := "addHouse", desc := "(II)V" } : Jvm.MethodName)) ∈ am_tb := am_in 463 (by decide +kernel) rfl
theorem tw_464 : (Jvm.Cond.instanceMethod ({ cls := "ShadowTax$Plan", name := "addHouse", desc := "(II)V" } : Jvm.MethodName)) ∈ am_tb := am_in 464 (by decide +kernel) rfl
theorem tw_465 : (Jvm.Cond.selects "ShadowTax$Plan" ({ cls := "ShadowTax$Plan", name := "addHouse", desc := "(II)V" } : Jvm.MethodName) ({ cls := "ShadowTax$Plan", name := "addHouse", desc := "(II)V" } : Jvm.MethodName)) ∈ am_tb := am_in 465 (by decide +kernel) rfl
theorem tw_466 : (Cond.code yX2_addHouse cX2_addHouse 3 (Option.none : Option Jvm.ClassFile.FieldType)) ∈ am_tb := am_in 466 (by decide +kernel) rfl
theorem tw_467 : (Jvm.Cond.methodLink "ShadowTax$Plan" (57 : Nat) ({ cls := "ShadowTax$Plan", name := "hasCell", desc := "(I)Z" } : Jvm.MethodName)) ∈ am_tb := am_in 467 (by decide +kernel) rfl
theorem tw_469 : (Jvm.Cond.methodLink "ShadowTax$Reading" (68 : Nat) ({ cls := "ShadowTax$Reading", name := "readSun", desc := "(LShadowTax$Plan;I)V" } : Jvm.MethodName)) ∈ am_tb := am_in 469 (by decide +kernel) rfl
theorem tw_471 : (Jvm.Cond.instanceMethod ({ cls := "ShadowTax$Reading", name := "readSun", desc := "(LShadowTax$Plan;I)V" } : Jvm.MethodName)) ∈ am_tb := am_in 471 (by decide +kernel) rfl
theorem tw_472 : (Cond.code yX3_readSun cX3_readSun 7 (Option.none : Option Jvm.ClassFile.FieldType)) ∈ am_tb := am_in 472 (by decide +kernel) rfl
theorem tw_473 : (Jvm.Cond.methodLink "ShadowTax$Reading" (114 : Nat) ({ cls := "ShadowTax$Plan", name := "addHour", desc := "(IIII)V" } : Jvm.MethodName)) ∈ am_tb := am_in 473 (by decide +kernel) rfl
theorem tw_474 : (Jvm.Cond.instanceMethod ({ cls := "ShadowTax$Plan", name := "addHour", desc := "(IIII)V" } : Jvm.MethodName)) ∈ am_tb := am_in 474 (by decide +kernel) rfl
theorem tw_475 : (Jvm.Cond.selects "ShadowTax$Plan" ({ cls := "ShadowTax$Plan", name := "addHour", desc := "(IIII)V" } : Jvm.MethodName) ({ cls := "ShadowTax$Plan", name := "addHour", desc := "(IIII)V" } : Jvm.MethodName)) ∈ am_tb := am_in 475 (by decide +kernel) rfl
theorem tw_476 : (Cond.code yX2_addHour cX2_addHour 6 (Option.none : Option Jvm.ClassFile.FieldType)) ∈ am_tb := am_in 476 (by decide +kernel) rfl
theorem tw_477 : (Jvm.Cond.methodLink "ShadowTax$Plan" (61 : Nat) ({ cls := "ShadowTax$Plan", name := "cellAt", desc := "(II)I" } : Jvm.MethodName)) ∈ am_tb := am_in 477 (by decide +kernel) rfl
theorem tw_479 : (Jvm.Cond.methodLink "ShadowTax$Reading" (73 : Nat) ({ cls := "ShadowTax$Reading", name := "readPerson", desc := "(LShadowTax$Plan;I)V" } : Jvm.MethodName)) ∈ am_tb := am_in 479 (by decide +kernel) rfl
theorem tw_481 : (Jvm.Cond.instanceMethod ({ cls := "ShadowTax$Reading", name := "readPerson", desc := "(LShadowTax$Plan;I)V" } : Jvm.MethodName)) ∈ am_tb := am_in 481 (by decide +kernel) rfl
theorem tw_482 : (Cond.code yX3_readPerson cX3_readPerson 5 (Option.none : Option Jvm.ClassFile.FieldType)) ∈ am_tb := am_in 482 (by decide +kernel) rfl
theorem tw_483 : (Jvm.Cond.methodLink "ShadowTax$Reading" (121 : Nat) ({ cls := "ShadowTax$Plan", name := "addPerson", desc := "(II)V" } : Jvm.MethodName)) ∈ am_tb := am_in 483 (by decide +kernel) rfl
theorem tw_484 : (Jvm.Cond.instanceMethod ({ cls := "ShadowTax$Plan", name := "addPerson", desc := "(II)V" } : Jvm.MethodName)) ∈ am_tb := am_in 484 (by decide +kernel) rfl
theorem tw_485 : (Jvm.Cond.selects "ShadowTax$Plan" ({ cls := "ShadowTax$Plan", name := "addPerson", desc := "(II)V" } : Jvm.MethodName) ({ cls := "ShadowTax$Plan", name := "addPerson", desc := "(II)V" } : Jvm.MethodName)) ∈ am_tb := am_in 485 (by decide +kernel) rfl
theorem tw_486 : (Cond.code yX2_addPerson cX2_addPerson 3 (Option.none : Option Jvm.ClassFile.FieldType)) ∈ am_tb := am_in 486 (by decide +kernel) rfl
theorem tw_488 : (Jvm.Cond.methodLink "ShadowTax$Reading" (78 : Nat) ({ cls := "ShadowTax$Reading", name := "readGrey", desc := "(LShadowTax$Plan;I)V" } : Jvm.MethodName)) ∈ am_tb := am_in 488 (by decide +kernel) rfl
theorem tw_490 : (Jvm.Cond.instanceMethod ({ cls := "ShadowTax$Reading", name := "readGrey", desc := "(LShadowTax$Plan;I)V" } : Jvm.MethodName)) ∈ am_tb := am_in 490 (by decide +kernel) rfl
theorem tw_491 : (Cond.code yX3_readGrey cX3_readGrey 4 (Option.none : Option Jvm.ClassFile.FieldType)) ∈ am_tb := am_in 491 (by decide +kernel) rfl
theorem tw_492 : (Jvm.Cond.methodLink "ShadowTax" (106 : Nat) ({ cls := "ShadowTax$Plan", name := "copyFrom", desc := "(LShadowTax$Plan;)V" } : Jvm.MethodName)) ∈ am_tb := am_in 492 (by decide +kernel) rfl
theorem tw_493 : (Jvm.Cond.instanceMethod ({ cls := "ShadowTax$Plan", name := "copyFrom", desc := "(LShadowTax$Plan;)V" } : Jvm.MethodName)) ∈ am_tb := am_in 493 (by decide +kernel) rfl
theorem tw_494 : (Jvm.Cond.selects "ShadowTax$Plan" ({ cls := "ShadowTax$Plan", name := "copyFrom", desc := "(LShadowTax$Plan;)V" } : Jvm.MethodName) ({ cls := "ShadowTax$Plan", name := "copyFrom", desc := "(LShadowTax$Plan;)V" } : Jvm.MethodName)) ∈ am_tb := am_in 494 (by decide +kernel) rfl
theorem tw_495 : (Cond.code yX2_copyFrom cX2_copyFrom 4 (Option.none : Option Jvm.ClassFile.FieldType)) ∈ am_tb := am_in 495 (by decide +kernel) rfl
theorem tw_496 : (Jvm.Cond.methodLink "ShadowTax" (110 : Nat) ({ cls := "ShadowTax$State", name := "begin", desc := "(LShadowTax$Plan;)V" } : Jvm.MethodName)) ∈ am_tb := am_in 496 (by decide +kernel) rfl
theorem tw_497 : (Jvm.Cond.instanceMethod ({ cls := "ShadowTax$State", name := "begin", desc := "(LShadowTax$Plan;)V" } : Jvm.MethodName)) ∈ am_tb := am_in 497 (by decide +kernel) rfl
theorem tw_498 : (Jvm.Cond.selects "ShadowTax$State" ({ cls := "ShadowTax$State", name := "begin", desc := "(LShadowTax$Plan;)V" } : Jvm.MethodName) ({ cls := "ShadowTax$State", name := "begin", desc := "(LShadowTax$Plan;)V" } : Jvm.MethodName)) ∈ am_tb := am_in 498 (by decide +kernel) rfl
theorem tw_499 : (Cond.code yX6_begin cX6_begin 3 (Option.none : Option Jvm.ClassFile.FieldType)) ∈ am_tb := am_in 499 (by decide +kernel) rfl
theorem tw_500 : (Jvm.Cond.methodLink "ShadowTax" (113 : Nat) ({ cls := "ShadowTax$Shades", name := "darken", desc := "()V" } : Jvm.MethodName)) ∈ am_tb := am_in 500 (by decide +kernel) rfl
theorem tw_501 : (Jvm.Cond.instanceMethod ({ cls := "ShadowTax$Shades", name := "darken", desc := "()V" } : Jvm.MethodName)) ∈ am_tb := am_in 501 (by decide +kernel) rfl
theorem tw_502 : (Jvm.Cond.selects "ShadowTax$Shades" ({ cls := "ShadowTax$Shades", name := "darken", desc := "()V" } : Jvm.MethodName) ({ cls := "ShadowTax$Shades", name := "darken", desc := "()V" } : Jvm.MethodName)) ∈ am_tb := am_in 502 (by decide +kernel) rfl
theorem tw_503 : (Cond.code yX5_darken cX5_darken 3 (Option.none : Option Jvm.ClassFile.FieldType)) ∈ am_tb := am_in 503 (by decide +kernel) rfl
theorem tw_504 : (Jvm.Cond.methodLink "ShadowTax$Shades" (38 : Nat) ({ cls := "ShadowTax$Shades", name := "shadowFrom", desc := "(III)J" } : Jvm.MethodName)) ∈ am_tb := am_in 504 (by decide +kernel) rfl
theorem tw_506 : (Jvm.Cond.instanceMethod ({ cls := "ShadowTax$Shades", name := "shadowFrom", desc := "(III)J" } : Jvm.MethodName)) ∈ am_tb := am_in 506 (by decide +kernel) rfl
theorem tw_507 : (Cond.code yX5_shadowFrom cX5_shadowFrom 9 (Option.some Jvm.ClassFile.FieldType.long)) ∈ am_tb := am_in 507 (by decide +kernel) rfl
theorem tw_508 : (Jvm.Cond.methodLink "ShadowTax" (116 : Nat) ({ cls := "ShadowTax", name := "clearNotes", desc := "()V" } : Jvm.MethodName)) ∈ am_tb := am_in 508 (by decide +kernel) rfl
theorem tw_510 : (Jvm.Cond.instanceMethod ({ cls := "ShadowTax", name := "clearNotes", desc := "()V" } : Jvm.MethodName)) ∈ am_tb := am_in 510 (by decide +kernel) rfl
theorem tw_511 : (Cond.code yX8_clearNotes cX8_clearNotes 1 (Option.none : Option Jvm.ClassFile.FieldType)) ∈ am_tb := am_in 511 (by decide +kernel) rfl
theorem tw_512 : (Jvm.Cond.methodLink "ShadowTax" (293 : Nat) ({ cls := "ShadowTax$Rows", name := "clear", desc := "()V" } : Jvm.MethodName)) ∈ am_tb := am_in 512 (by decide +kernel) rfl
theorem tw_513 : (Jvm.Cond.instanceMethod ({ cls := "ShadowTax$Rows", name := "clear", desc := "()V" } : Jvm.MethodName)) ∈ am_tb := am_in 513 (by decide +kernel) rfl
theorem tw_514 : (Jvm.Cond.selects "ShadowTax$Rows" ({ cls := "ShadowTax$Rows", name := "clear", desc := "()V" } : Jvm.MethodName) ({ cls := "ShadowTax$Rows", name := "clear", desc := "()V" } : Jvm.MethodName)) ∈ am_tb := am_in 514 (by decide +kernel) rfl
theorem tw_515 : (Cond.code yX4_clear cX4_clear 1 (Option.none : Option Jvm.ClassFile.FieldType)) ∈ am_tb := am_in 515 (by decide +kernel) rfl
theorem tw_516 : (Jvm.Cond.methodLink "ShadowTaxLaw" (25 : Nat) ({ cls := "ShadowTax", name := "fault", desc := "()I" } : Jvm.MethodName)) ∈ am_tb := am_in 516 (by decide +kernel) rfl
theorem tw_517 : (Jvm.Cond.instanceMethod ({ cls := "ShadowTax", name := "fault", desc := "()I" } : Jvm.MethodName)) ∈ am_tb := am_in 517 (by decide +kernel) rfl
theorem tw_518 : (Jvm.Cond.selects "ShadowTax" ({ cls := "ShadowTax", name := "fault", desc := "()I" } : Jvm.MethodName) ({ cls := "ShadowTax", name := "fault", desc := "()I" } : Jvm.MethodName)) ∈ am_tb := am_in 518 (by decide +kernel) rfl
theorem tw_519 : (Cond.code yX8_fault cX8_fault 1 (Option.some Jvm.ClassFile.FieldType.int)) ∈ am_tb := am_in 519 (by decide +kernel) rfl
theorem tw_520 : (Jvm.Cond.methodLink "ShadowTaxLaw" (29 : Nat) ({ cls := "ShadowTax", name := "told", desc := "(I)I" } : Jvm.MethodName)) ∈ am_tb := am_in 520 (by decide +kernel) rfl
theorem tw_521 : (Jvm.Cond.instanceMethod ({ cls := "ShadowTax", name := "told", desc := "(I)I" } : Jvm.MethodName)) ∈ am_tb := am_in 521 (by decide +kernel) rfl
theorem tw_522 : (Jvm.Cond.selects "ShadowTax" ({ cls := "ShadowTax", name := "told", desc := "(I)I" } : Jvm.MethodName) ({ cls := "ShadowTax", name := "told", desc := "(I)I" } : Jvm.MethodName)) ∈ am_tb := am_in 522 (by decide +kernel) rfl
theorem tw_523 : (Cond.code yX8_told cX8_told 2 (Option.some Jvm.ClassFile.FieldType.int)) ∈ am_tb := am_in 523 (by decide +kernel) rfl
theorem tw_524 : (Jvm.Cond.methodLink "ShadowTax" (146 : Nat) ({ cls := "ShadowTax$Shades", name := "meanOfAll", desc := "()I" } : Jvm.MethodName)) ∈ am_tb := am_in 524 (by decide +kernel) rfl
theorem tw_525 : (Jvm.Cond.instanceMethod ({ cls := "ShadowTax$Shades", name := "meanOfAll", desc := "()I" } : Jvm.MethodName)) ∈ am_tb := am_in 525 (by decide +kernel) rfl
theorem tw_526 : (Jvm.Cond.selects "ShadowTax$Shades" ({ cls := "ShadowTax$Shades", name := "meanOfAll", desc := "()I" } : Jvm.MethodName) ({ cls := "ShadowTax$Shades", name := "meanOfAll", desc := "()I" } : Jvm.MethodName)) ∈ am_tb := am_in 526 (by decide +kernel) rfl
theorem tw_527 : (Cond.code yX5_meanOfAll cX5_meanOfAll 3 (Option.some Jvm.ClassFile.FieldType.int)) ∈ am_tb := am_in 527 (by decide +kernel) rfl
theorem tw_528 : (Jvm.Cond.methodLink "ShadowTax$Shades" (68 : Nat) ({ cls := "ShadowTax$Shades", name := "tallOf", desc := "(I)I" } : Jvm.MethodName)) ∈ am_tb := am_in 528 (by decide +kernel) rfl
theorem tw_529 : (Jvm.Cond.instanceMethod ({ cls := "ShadowTax$Shades", name := "tallOf", desc := "(I)I" } : Jvm.MethodName)) ∈ am_tb := am_in 529 (by decide +kernel) rfl
theorem tw_530 : (Jvm.Cond.selects "ShadowTax$Shades" ({ cls := "ShadowTax$Shades", name := "tallOf", desc := "(I)I" } : Jvm.MethodName) ({ cls := "ShadowTax$Shades", name := "tallOf", desc := "(I)I" } : Jvm.MethodName)) ∈ am_tb := am_in 530 (by decide +kernel) rfl
theorem tw_531 : (Cond.code yX5_tallOf cX5_tallOf 2 (Option.some Jvm.ClassFile.FieldType.int)) ∈ am_tb := am_in 531 (by decide +kernel) rfl
theorem tw_532 : (Jvm.Cond.methodLink "ShadowTax$Shades" (97 : Nat) ({ cls := "ShadowTax$Shades", name := "meanAt", desc := "(IIII)I" } : Jvm.MethodName)) ∈ am_tb := am_in 532 (by decide +kernel) rfl
theorem tw_533 : (Jvm.Cond.instanceMethod ({ cls := "ShadowTax$Shades", name := "meanAt", desc := "(IIII)I" } : Jvm.MethodName)) ∈ am_tb := am_in 533 (by decide +kernel) rfl
theorem tw_534 : (Jvm.Cond.selects "ShadowTax$Shades" ({ cls := "ShadowTax$Shades", name := "meanAt", desc := "(IIII)I" } : Jvm.MethodName) ({ cls := "ShadowTax$Shades", name := "meanAt", desc := "(IIII)I" } : Jvm.MethodName)) ∈ am_tb := am_in 534 (by decide +kernel) rfl
theorem tw_535 : (Cond.code yX5_meanAt cX5_meanAt 7 (Option.some Jvm.ClassFile.FieldType.int)) ∈ am_tb := am_in 535 (by decide +kernel) rfl
theorem tw_536 : (Jvm.Cond.methodLink "ShadowTax$Shades" (72 : Nat) ({ cls := "ShadowTax$Shades", name := "owedCells", desc := "(IIIII)J" } : Jvm.MethodName)) ∈ am_tb := am_in 536 (by decide +kernel) rfl
theorem tw_538 : (Jvm.Cond.instanceMethod ({ cls := "ShadowTax$Shades", name := "owedCells", desc := "(IIIII)J" } : Jvm.MethodName)) ∈ am_tb := am_in 538 (by decide +kernel) rfl
theorem tw_539 : (Cond.code yX5_owedCells cX5_owedCells 10 (Option.some Jvm.ClassFile.FieldType.long)) ∈ am_tb := am_in 539 (by decide +kernel) rfl
theorem tw_540 : (Jvm.Cond.methodLink "ShadowTax$Shades" (46 : Nat) ({ cls := "ShadowTax$Plan", name := "hasHour", desc := "(I)Z" } : Jvm.MethodName)) ∈ am_tb := am_in 540 (by decide +kernel) rfl
theorem tw_541 : (Jvm.Cond.instanceMethod ({ cls := "ShadowTax$Plan", name := "hasHour", desc := "(I)Z" } : Jvm.MethodName)) ∈ am_tb := am_in 541 (by decide +kernel) rfl
theorem tw_542 : (Jvm.Cond.selects "ShadowTax$Plan" ({ cls := "ShadowTax$Plan", name := "hasHour", desc := "(I)Z" } : Jvm.MethodName) ({ cls := "ShadowTax$Plan", name := "hasHour", desc := "(I)Z" } : Jvm.MethodName)) ∈ am_tb := am_in 542 (by decide +kernel) rfl
theorem tw_543 : (Cond.code yX2_hasHour cX2_hasHour 2 (Option.some Jvm.ClassFile.FieldType.boolean)) ∈ am_tb := am_in 543 (by decide +kernel) rfl
theorem tw_544 : (Jvm.Cond.constantLong "ShadowTax$Shades" (79 : Nat) (-1 : Int64)) ∈ am_tb := am_in 544 (by decide +kernel) rfl
theorem tw_545 : (Jvm.Cond.methodLink "ShadowTax$Shades" (81 : Nat) ({ cls := "ShadowTax$Shades", name := "isAhead", desc := "(IIII)Z" } : Jvm.MethodName)) ∈ am_tb := am_in 545 (by decide +kernel) rfl
theorem tw_547 : (Jvm.Cond.instanceMethod ({ cls := "ShadowTax$Shades", name := "isAhead", desc := "(IIII)Z" } : Jvm.MethodName)) ∈ am_tb := am_in 547 (by decide +kernel) rfl
theorem tw_548 : (Cond.code yX5_isAhead cX5_isAhead 5 (Option.some Jvm.ClassFile.FieldType.boolean)) ∈ am_tb := am_in 548 (by decide +kernel) rfl
theorem tw_549 : (Jvm.Cond.methodLink "ShadowTax$Shades" (85 : Nat) ({ cls := "java/lang/Long", name := "bitCount", desc := "(J)I" } : Jvm.MethodName)) ∈ am_tb := am_in 549 (by decide +kernel) rfl
theorem tw_550 : (Jvm.Cond.static ({ cls := "java/lang/Long", name := "bitCount", desc := "(J)I" } : Jvm.MethodName)) ∈ am_tb := am_in 550 (by decide +kernel) rfl
theorem tw_551 : (Cond.code yJ13_bitCount_95d88 cJ13_bitCount_95d88 2 (Option.some Jvm.ClassFile.FieldType.int)) ∈ am_tb := am_in 551 (by decide +kernel) rfl
theorem tw_552 : (Jvm.Cond.constantLong "java/lang/Long" (314 : Nat) (6148914691236517205 : Int64)) ∈ am_tb := am_in 552 (by decide +kernel) rfl
theorem tw_553 : (Jvm.Cond.constantLong "java/lang/Long" (316 : Nat) (3689348814741910323 : Int64)) ∈ am_tb := am_in 553 (by decide +kernel) rfl
theorem tw_554 : (Jvm.Cond.constantLong "java/lang/Long" (318 : Nat) (1085102592571150095 : Int64)) ∈ am_tb := am_in 554 (by decide +kernel) rfl
theorem tw_555 : (Jvm.Cond.methodLink "ShadowTaxLaw" (34 : Nat) ({ cls := "ShadowTax", name := "cell", desc := "(IIII)I" } : Jvm.MethodName)) ∈ am_tb := am_in 555 (by decide +kernel) rfl
theorem tw_556 : (Jvm.Cond.instanceMethod ({ cls := "ShadowTax", name := "cell", desc := "(IIII)I" } : Jvm.MethodName)) ∈ am_tb := am_in 556 (by decide +kernel) rfl
theorem tw_557 : (Jvm.Cond.selects "ShadowTax" ({ cls := "ShadowTax", name := "cell", desc := "(IIII)I" } : Jvm.MethodName) ({ cls := "ShadowTax", name := "cell", desc := "(IIII)I" } : Jvm.MethodName)) ∈ am_tb := am_in 557 (by decide +kernel) rfl
theorem tw_558 : (Cond.code yX8_cell cX8_cell 6 (Option.some Jvm.ClassFile.FieldType.int)) ∈ am_tb := am_in 558 (by decide +kernel) rfl
theorem tw_559 : (Jvm.Cond.methodLink "ShadowTax" (153 : Nat) ({ cls := "ShadowTax$Plan", name := "cellAt", desc := "(II)I" } : Jvm.MethodName)) ∈ am_tb := am_in 559 (by decide +kernel) rfl
theorem tw_560 : (Jvm.Cond.methodLink "ShadowTax" (157 : Nat) ({ cls := "ShadowTax$Plan", name := "hasHour", desc := "(I)Z" } : Jvm.MethodName)) ∈ am_tb := am_in 560 (by decide +kernel) rfl
theorem tw_561 : (Jvm.Cond.constant "ShadowTax" (161 : Nat) (-1000000001 : Int32)) ∈ am_tb := am_in 561 (by decide +kernel) rfl
theorem tw_562 : (Jvm.Cond.methodLink "ShadowTax" (165 : Nat) ({ cls := "ShadowTax$Shades", name := "isDark", desc := "(II)Z" } : Jvm.MethodName)) ∈ am_tb := am_in 562 (by decide +kernel) rfl
theorem tw_563 : (Jvm.Cond.instanceMethod ({ cls := "ShadowTax$Shades", name := "isDark", desc := "(II)Z" } : Jvm.MethodName)) ∈ am_tb := am_in 563 (by decide +kernel) rfl
theorem tw_564 : (Jvm.Cond.selects "ShadowTax$Shades" ({ cls := "ShadowTax$Shades", name := "isDark", desc := "(II)Z" } : Jvm.MethodName) ({ cls := "ShadowTax$Shades", name := "isDark", desc := "(II)Z" } : Jvm.MethodName)) ∈ am_tb := am_in 564 (by decide +kernel) rfl
theorem tw_565 : (Cond.code yX5_isDark cX5_isDark 3 (Option.some Jvm.ClassFile.FieldType.boolean)) ∈ am_tb := am_in 565 (by decide +kernel) rfl
theorem tw_566 : (Jvm.Cond.methodLink "ShadowTax$Shades" (42 : Nat) ({ cls := "ShadowTax$Plan", name := "hasCell", desc := "(I)Z" } : Jvm.MethodName)) ∈ am_tb := am_in 566 (by decide +kernel) rfl
theorem tw_567 : (Jvm.Cond.methodLink "ShadowTax" (169 : Nat) ({ cls := "ShadowTax$Shades", name := "castersOn", desc := "(II)I" } : Jvm.MethodName)) ∈ am_tb := am_in 567 (by decide +kernel) rfl
theorem tw_568 : (Jvm.Cond.instanceMethod ({ cls := "ShadowTax$Shades", name := "castersOn", desc := "(II)I" } : Jvm.MethodName)) ∈ am_tb := am_in 568 (by decide +kernel) rfl
theorem tw_569 : (Jvm.Cond.selects "ShadowTax$Shades" ({ cls := "ShadowTax$Shades", name := "castersOn", desc := "(II)I" } : Jvm.MethodName) ({ cls := "ShadowTax$Shades", name := "castersOn", desc := "(II)I" } : Jvm.MethodName)) ∈ am_tb := am_in 569 (by decide +kernel) rfl
theorem tw_570 : (Cond.code yX5_castersOn cX5_castersOn 5 (Option.some Jvm.ClassFile.FieldType.int)) ∈ am_tb := am_in 570 (by decide +kernel) rfl
theorem tw_571 : (Jvm.Cond.methodLink "ShadowTax" (172 : Nat) ({ cls := "ShadowTax$Shades", name := "owerOf", desc := "(II)I" } : Jvm.MethodName)) ∈ am_tb := am_in 571 (by decide +kernel) rfl
theorem tw_572 : (Jvm.Cond.instanceMethod ({ cls := "ShadowTax$Shades", name := "owerOf", desc := "(II)I" } : Jvm.MethodName)) ∈ am_tb := am_in 572 (by decide +kernel) rfl
theorem tw_573 : (Jvm.Cond.selects "ShadowTax$Shades" ({ cls := "ShadowTax$Shades", name := "owerOf", desc := "(II)I" } : Jvm.MethodName) ({ cls := "ShadowTax$Shades", name := "owerOf", desc := "(II)I" } : Jvm.MethodName)) ∈ am_tb := am_in 573 (by decide +kernel) rfl
theorem tw_574 : (Cond.code yX5_owerOf cX5_owerOf 4 (Option.some Jvm.ClassFile.FieldType.int)) ∈ am_tb := am_in 574 (by decide +kernel) rfl
theorem tw_575 : (Jvm.Cond.methodLink "ShadowTaxLaw" (39 : Nat) ({ cls := "ShadowTax", name := "person", desc := "(II)I" } : Jvm.MethodName)) ∈ am_tb := am_in 575 (by decide +kernel) rfl
theorem tw_576 : (Jvm.Cond.instanceMethod ({ cls := "ShadowTax", name := "person", desc := "(II)I" } : Jvm.MethodName)) ∈ am_tb := am_in 576 (by decide +kernel) rfl
theorem tw_577 : (Jvm.Cond.selects "ShadowTax" ({ cls := "ShadowTax", name := "person", desc := "(II)I" } : Jvm.MethodName) ({ cls := "ShadowTax", name := "person", desc := "(II)I" } : Jvm.MethodName)) ∈ am_tb := am_in 577 (by decide +kernel) rfl
theorem tw_578 : (Cond.code yX8_person cX8_person 3 (Option.some Jvm.ClassFile.FieldType.int)) ∈ am_tb := am_in 578 (by decide +kernel) rfl
theorem tw_579 : (Jvm.Cond.methodLink "ShadowTax" (175 : Nat) ({ cls := "ShadowTax$Plan", name := "hasPerson", desc := "(I)Z" } : Jvm.MethodName)) ∈ am_tb := am_in 579 (by decide +kernel) rfl
theorem tw_580 : (Jvm.Cond.instanceMethod ({ cls := "ShadowTax$Plan", name := "hasPerson", desc := "(I)Z" } : Jvm.MethodName)) ∈ am_tb := am_in 580 (by decide +kernel) rfl
theorem tw_581 : (Jvm.Cond.selects "ShadowTax$Plan" ({ cls := "ShadowTax$Plan", name := "hasPerson", desc := "(I)Z" } : Jvm.MethodName) ({ cls := "ShadowTax$Plan", name := "hasPerson", desc := "(I)Z" } : Jvm.MethodName)) ∈ am_tb := am_in 581 (by decide +kernel) rfl
theorem tw_582 : (Cond.code yX2_hasPerson cX2_hasPerson 2 (Option.some Jvm.ClassFile.FieldType.boolean)) ∈ am_tb := am_in 582 (by decide +kernel) rfl
theorem tw_583 : (Jvm.Cond.methodLink "ShadowTax" (181 : Nat) ({ cls := "ShadowTax$Plan", name := "columnOf", desc := "(I)I" } : Jvm.MethodName)) ∈ am_tb := am_in 583 (by decide +kernel) rfl
theorem tw_584 : (Jvm.Cond.instanceMethod ({ cls := "ShadowTax$Plan", name := "columnOf", desc := "(I)I" } : Jvm.MethodName)) ∈ am_tb := am_in 584 (by decide +kernel) rfl
theorem tw_585 : (Jvm.Cond.selects "ShadowTax$Plan" ({ cls := "ShadowTax$Plan", name := "columnOf", desc := "(I)I" } : Jvm.MethodName) ({ cls := "ShadowTax$Plan", name := "columnOf", desc := "(I)I" } : Jvm.MethodName)) ∈ am_tb := am_in 585 (by decide +kernel) rfl
theorem tw_586 : (Cond.code yX2_columnOf cX2_columnOf 2 (Option.some Jvm.ClassFile.FieldType.int)) ∈ am_tb := am_in 586 (by decide +kernel) rfl
theorem tw_587 : (Jvm.Cond.methodLink "ShadowTax" (185 : Nat) ({ cls := "ShadowTax$Plan", name := "lineOf", desc := "(I)I" } : Jvm.MethodName)) ∈ am_tb := am_in 587 (by decide +kernel) rfl
theorem tw_588 : (Jvm.Cond.instanceMethod ({ cls := "ShadowTax$Plan", name := "lineOf", desc := "(I)I" } : Jvm.MethodName)) ∈ am_tb := am_in 588 (by decide +kernel) rfl
theorem tw_589 : (Jvm.Cond.selects "ShadowTax$Plan" ({ cls := "ShadowTax$Plan", name := "lineOf", desc := "(I)I" } : Jvm.MethodName) ({ cls := "ShadowTax$Plan", name := "lineOf", desc := "(I)I" } : Jvm.MethodName)) ∈ am_tb := am_in 589 (by decide +kernel) rfl
theorem tw_590 : (Cond.code yX2_lineOf cX2_lineOf 2 (Option.some Jvm.ClassFile.FieldType.int)) ∈ am_tb := am_in 590 (by decide +kernel) rfl
theorem tw_591 : (Jvm.Cond.methodLink "ShadowTax" (188 : Nat) ({ cls := "ShadowTax$Shades", name := "tallOf", desc := "(I)I" } : Jvm.MethodName)) ∈ am_tb := am_in 591 (by decide +kernel) rfl
theorem tw_592 : (Jvm.Cond.methodLink "ShadowTax" (197 : Nat) ({ cls := "ShadowTax$Shades", name := "meanOf", desc := "(I)I" } : Jvm.MethodName)) ∈ am_tb := am_in 592 (by decide +kernel) rfl
theorem tw_593 : (Jvm.Cond.instanceMethod ({ cls := "ShadowTax$Shades", name := "meanOf", desc := "(I)I" } : Jvm.MethodName)) ∈ am_tb := am_in 593 (by decide +kernel) rfl
theorem tw_594 : (Jvm.Cond.selects "ShadowTax$Shades" ({ cls := "ShadowTax$Shades", name := "meanOf", desc := "(I)I" } : Jvm.MethodName) ({ cls := "ShadowTax$Shades", name := "meanOf", desc := "(I)I" } : Jvm.MethodName)) ∈ am_tb := am_in 594 (by decide +kernel) rfl
theorem tw_595 : (Cond.code yX5_meanOf cX5_meanOf 2 (Option.some Jvm.ClassFile.FieldType.int)) ∈ am_tb := am_in 595 (by decide +kernel) rfl
theorem tw_596 : (Jvm.Cond.methodLink "ShadowTax$Shades" (94 : Nat) ({ cls := "ShadowTax$Plan", name := "hasPerson", desc := "(I)Z" } : Jvm.MethodName)) ∈ am_tb := am_in 596 (by decide +kernel) rfl
theorem tw_597 : (Jvm.Cond.methodLink "ShadowTax" (200 : Nat) ({ cls := "ShadowTax$Shades", name := "worstAt", desc := "(II)I" } : Jvm.MethodName)) ∈ am_tb := am_in 597 (by decide +kernel) rfl
theorem tw_598 : (Jvm.Cond.instanceMethod ({ cls := "ShadowTax$Shades", name := "worstAt", desc := "(II)I" } : Jvm.MethodName)) ∈ am_tb := am_in 598 (by decide +kernel) rfl
theorem tw_599 : (Jvm.Cond.selects "ShadowTax$Shades" ({ cls := "ShadowTax$Shades", name := "worstAt", desc := "(II)I" } : Jvm.MethodName) ({ cls := "ShadowTax$Shades", name := "worstAt", desc := "(II)I" } : Jvm.MethodName)) ∈ am_tb := am_in 599 (by decide +kernel) rfl
theorem tw_600 : (Cond.code yX5_worstAt cX5_worstAt 5 (Option.some Jvm.ClassFile.FieldType.int)) ∈ am_tb := am_in 600 (by decide +kernel) rfl
theorem tw_601 : (Jvm.Cond.methodLink "ShadowTax$Shades" (101 : Nat) ({ cls := "ShadowTax$Shades", name := "owedAt", desc := "(III)I" } : Jvm.MethodName)) ∈ am_tb := am_in 601 (by decide +kernel) rfl
theorem tw_602 : (Jvm.Cond.instanceMethod ({ cls := "ShadowTax$Shades", name := "owedAt", desc := "(III)I" } : Jvm.MethodName)) ∈ am_tb := am_in 602 (by decide +kernel) rfl
theorem tw_603 : (Jvm.Cond.selects "ShadowTax$Shades" ({ cls := "ShadowTax$Shades", name := "owedAt", desc := "(III)I" } : Jvm.MethodName) ({ cls := "ShadowTax$Shades", name := "owedAt", desc := "(III)I" } : Jvm.MethodName)) ∈ am_tb := am_in 603 (by decide +kernel) rfl
theorem tw_604 : (Cond.code yX5_owedAt cX5_owedAt 4 (Option.some Jvm.ClassFile.FieldType.int)) ∈ am_tb := am_in 604 (by decide +kernel) rfl
theorem tw_605 : (Jvm.Cond.methodLink "ShadowTax$Shades" (105 : Nat) ({ cls := "java/lang/Math", name := "max", desc := "(II)I" } : Jvm.MethodName)) ∈ am_tb := am_in 605 (by decide +kernel) rfl
theorem tw_606 : (Jvm.Cond.static ({ cls := "java/lang/Math", name := "max", desc := "(II)I" } : Jvm.MethodName)) ∈ am_tb := am_in 606 (by decide +kernel) rfl
theorem tw_607 : (Cond.code yJ9_max_7cf53 cJ9_max_7cf53 2 (Option.some Jvm.ClassFile.FieldType.int)) ∈ am_tb := am_in 607 (by decide +kernel) rfl
theorem tw_608 : (Jvm.Cond.methodLink "ShadowTaxLaw" (44 : Nat) ({ cls := "ShadowTax", name := "owed", desc := "(II)I" } : Jvm.MethodName)) ∈ am_tb := am_in 608 (by decide +kernel) rfl
theorem tw_609 : (Jvm.Cond.instanceMethod ({ cls := "ShadowTax", name := "owed", desc := "(II)I" } : Jvm.MethodName)) ∈ am_tb := am_in 609 (by decide +kernel) rfl
theorem tw_610 : (Jvm.Cond.selects "ShadowTax" ({ cls := "ShadowTax", name := "owed", desc := "(II)I" } : Jvm.MethodName) ({ cls := "ShadowTax", name := "owed", desc := "(II)I" } : Jvm.MethodName)) ∈ am_tb := am_in 610 (by decide +kernel) rfl
theorem tw_611 : (Cond.code yX8_owed cX8_owed 3 (Option.some Jvm.ClassFile.FieldType.int)) ∈ am_tb := am_in 611 (by decide +kernel) rfl
theorem tw_612 : (Jvm.Cond.methodLink "ShadowTax" (203 : Nat) ({ cls := "ShadowTax$Shades", name := "owedAt", desc := "(III)I" } : Jvm.MethodName)) ∈ am_tb := am_in 612 (by decide +kernel) rfl
theorem tw_613 : (Jvm.Cond.methodLink "ShadowTaxLaw" (48 : Nat) ({ cls := "ShadowTax", name := "go", desc := "(III)I" } : Jvm.MethodName)) ∈ am_tb := am_in 613 (by decide +kernel) rfl
theorem tw_614 : (Jvm.Cond.instanceMethod ({ cls := "ShadowTax", name := "go", desc := "(III)I" } : Jvm.MethodName)) ∈ am_tb := am_in 614 (by decide +kernel) rfl
theorem tw_615 : (Jvm.Cond.selects "ShadowTax" ({ cls := "ShadowTax", name := "go", desc := "(III)I" } : Jvm.MethodName) ({ cls := "ShadowTax", name := "go", desc := "(III)I" } : Jvm.MethodName)) ∈ am_tb := am_in 615 (by decide +kernel) rfl
theorem tw_616 : (Cond.code yX8_go cX8_go 6 (Option.some Jvm.ClassFile.FieldType.int)) ∈ am_tb := am_in 616 (by decide +kernel) rfl
theorem tw_617 : (Jvm.Cond.constant "ShadowTax" (207 : Nat) (-1000000003 : Int32)) ∈ am_tb := am_in 617 (by decide +kernel) rfl
theorem tw_618 : (Jvm.Cond.methodLink "ShadowTax" (208 : Nat) ({ cls := "ShadowTax$Plan", name := "nameOf", desc := "(I)I" } : Jvm.MethodName)) ∈ am_tb := am_in 618 (by decide +kernel) rfl
theorem tw_619 : (Jvm.Cond.instanceMethod ({ cls := "ShadowTax$Plan", name := "nameOf", desc := "(I)I" } : Jvm.MethodName)) ∈ am_tb := am_in 619 (by decide +kernel) rfl
theorem tw_620 : (Jvm.Cond.selects "ShadowTax$Plan" ({ cls := "ShadowTax$Plan", name := "nameOf", desc := "(I)I" } : Jvm.MethodName) ({ cls := "ShadowTax$Plan", name := "nameOf", desc := "(I)I" } : Jvm.MethodName)) ∈ am_tb := am_in 620 (by decide +kernel) rfl
theorem tw_621 : (Cond.code yX2_nameOf cX2_nameOf 2 (Option.some Jvm.ClassFile.FieldType.int)) ∈ am_tb := am_in 621 (by decide +kernel) rfl
theorem tw_622 : (Jvm.Cond.methodLink "ShadowTaxLaw" (53 : Nat) ({ cls := "ShadowTax", name := "fold", desc := "(IZ)I" } : Jvm.MethodName)) ∈ am_tb := am_in 622 (by decide +kernel) rfl
theorem tw_623 : (Jvm.Cond.instanceMethod ({ cls := "ShadowTax", name := "fold", desc := "(IZ)I" } : Jvm.MethodName)) ∈ am_tb := am_in 623 (by decide +kernel) rfl
theorem tw_624 : (Jvm.Cond.selects "ShadowTax" ({ cls := "ShadowTax", name := "fold", desc := "(IZ)I" } : Jvm.MethodName) ({ cls := "ShadowTax", name := "fold", desc := "(IZ)I" } : Jvm.MethodName)) ∈ am_tb := am_in 624 (by decide +kernel) rfl
theorem tw_625 : (Cond.code yX8_fold cX8_fold 4 (Option.some Jvm.ClassFile.FieldType.int)) ∈ am_tb := am_in 625 (by decide +kernel) rfl
theorem tw_626 : (Jvm.Cond.methodLink "ShadowTaxLaw" (58 : Nat) ({ cls := "ShadowTax", name := "law", desc := "(I)I" } : Jvm.MethodName)) ∈ am_tb := am_in 626 (by decide +kernel) rfl
theorem tw_627 : (Jvm.Cond.instanceMethod ({ cls := "ShadowTax", name := "law", desc := "(I)I" } : Jvm.MethodName)) ∈ am_tb := am_in 627 (by decide +kernel) rfl
theorem tw_628 : (Jvm.Cond.selects "ShadowTax" ({ cls := "ShadowTax", name := "law", desc := "(I)I" } : Jvm.MethodName) ({ cls := "ShadowTax", name := "law", desc := "(I)I" } : Jvm.MethodName)) ∈ am_tb := am_in 628 (by decide +kernel) rfl
theorem tw_629 : (Cond.code yX8_law cX8_law 3 (Option.some Jvm.ClassFile.FieldType.int)) ∈ am_tb := am_in 629 (by decide +kernel) rfl
theorem tw_630 : (Jvm.Cond.methodLink "ShadowTaxLaw" (62 : Nat) ({ cls := "ShadowTax", name := "build", desc := "(III)I" } : Jvm.MethodName)) ∈ am_tb := am_in 630 (by decide +kernel) rfl
theorem tw_631 : (Jvm.Cond.instanceMethod ({ cls := "ShadowTax", name := "build", desc := "(III)I" } : Jvm.MethodName)) ∈ am_tb := am_in 631 (by decide +kernel) rfl
theorem tw_632 : (Jvm.Cond.selects "ShadowTax" ({ cls := "ShadowTax", name := "build", desc := "(III)I" } : Jvm.MethodName) ({ cls := "ShadowTax", name := "build", desc := "(III)I" } : Jvm.MethodName)) ∈ am_tb := am_in 632 (by decide +kernel) rfl
theorem tw_633 : (Cond.code yX8_build cX8_build 6 (Option.some Jvm.ClassFile.FieldType.int)) ∈ am_tb := am_in 633 (by decide +kernel) rfl
theorem tw_634 : (Jvm.Cond.methodLink "ShadowTax" (211 : Nat) ({ cls := "ShadowTax$Shades", name := "somebodyIsOn", desc := "(I)Z" } : Jvm.MethodName)) ∈ am_tb := am_in 634 (by decide +kernel) rfl
theorem tw_635 : (Jvm.Cond.instanceMethod ({ cls := "ShadowTax$Shades", name := "somebodyIsOn", desc := "(I)Z" } : Jvm.MethodName)) ∈ am_tb := am_in 635 (by decide +kernel) rfl
theorem tw_636 : (Jvm.Cond.selects "ShadowTax$Shades" ({ cls := "ShadowTax$Shades", name := "somebodyIsOn", desc := "(I)Z" } : Jvm.MethodName) ({ cls := "ShadowTax$Shades", name := "somebodyIsOn", desc := "(I)Z" } : Jvm.MethodName)) ∈ am_tb := am_in 636 (by decide +kernel) rfl
theorem tw_637 : (Cond.code yX5_somebodyIsOn cX5_somebodyIsOn 3 (Option.some Jvm.ClassFile.FieldType.boolean)) ∈ am_tb := am_in 637 (by decide +kernel) rfl
theorem tw_638 : (Jvm.Cond.methodLink "ShadowTaxLaw" (66 : Nat) ({ cls := "ShadowTax", name := "day", desc := "(I)I" } : Jvm.MethodName)) ∈ am_tb := am_in 638 (by decide +kernel) rfl
theorem tw_639 : (Jvm.Cond.instanceMethod ({ cls := "ShadowTax", name := "day", desc := "(I)I" } : Jvm.MethodName)) ∈ am_tb := am_in 639 (by decide +kernel) rfl
theorem tw_640 : (Jvm.Cond.selects "ShadowTax" ({ cls := "ShadowTax", name := "day", desc := "(I)I" } : Jvm.MethodName) ({ cls := "ShadowTax", name := "day", desc := "(I)I" } : Jvm.MethodName)) ∈ am_tb := am_in 640 (by decide +kernel) rfl
theorem tw_641 : (Cond.code yX8_day cX8_day 3 (Option.some Jvm.ClassFile.FieldType.int)) ∈ am_tb := am_in 641 (by decide +kernel) rfl
theorem tw_642 : (Jvm.Cond.methodLink "ShadowTax" (214 : Nat) ({ cls := "ShadowTax", name := "drawHour", desc := "()I" } : Jvm.MethodName)) ∈ am_tb := am_in 642 (by decide +kernel) rfl
theorem tw_644 : (Jvm.Cond.instanceMethod ({ cls := "ShadowTax", name := "drawHour", desc := "()I" } : Jvm.MethodName)) ∈ am_tb := am_in 644 (by decide +kernel) rfl
theorem tw_645 : (Cond.code yX8_drawHour cX8_drawHour 2 (Option.some Jvm.ClassFile.FieldType.int)) ∈ am_tb := am_in 645 (by decide +kernel) rfl
theorem tw_646 : (Jvm.Cond.methodLink "ShadowTax" (296 : Nat) ({ cls := "ShadowTax$State", name := "draw", desc := "(I)I" } : Jvm.MethodName)) ∈ am_tb := am_in 646 (by decide +kernel) rfl
theorem tw_647 : (Jvm.Cond.instanceMethod ({ cls := "ShadowTax$State", name := "draw", desc := "(I)I" } : Jvm.MethodName)) ∈ am_tb := am_in 647 (by decide +kernel) rfl
theorem tw_648 : (Jvm.Cond.selects "ShadowTax$State" ({ cls := "ShadowTax$State", name := "draw", desc := "(I)I" } : Jvm.MethodName) ({ cls := "ShadowTax$State", name := "draw", desc := "(I)I" } : Jvm.MethodName)) ∈ am_tb := am_in 648 (by decide +kernel) rfl
theorem tw_649 : (Cond.code yX6_draw cX6_draw 2 (Option.some Jvm.ClassFile.FieldType.int)) ∈ am_tb := am_in 649 (by decide +kernel) rfl
theorem tw_650 : (Jvm.Cond.constantLong "ShadowTax$State" (40 : Nat) (1103515245 : Int64)) ∈ am_tb := am_in 650 (by decide +kernel) rfl
theorem tw_651 : (Jvm.Cond.constantLong "ShadowTax$State" (42 : Nat) (12345 : Int64)) ∈ am_tb := am_in 651 (by decide +kernel) rfl
theorem tw_652 : (Jvm.Cond.constantLong "ShadowTax$State" (44 : Nat) (2147483647 : Int64)) ∈ am_tb := am_in 652 (by decide +kernel) rfl
theorem tw_653 : (Jvm.Cond.constant "ShadowTax$State" (46 : Nat) (65536 : Int32)) ∈ am_tb := am_in 653 (by decide +kernel) rfl
theorem tw_654 : (Jvm.Cond.methodLink "ShadowTax" (299 : Nat) ({ cls := "ShadowTax$Plan", name := "allShares", desc := "()I" } : Jvm.MethodName)) ∈ am_tb := am_in 654 (by decide +kernel) rfl
theorem tw_655 : (Jvm.Cond.instanceMethod ({ cls := "ShadowTax$Plan", name := "allShares", desc := "()I" } : Jvm.MethodName)) ∈ am_tb := am_in 655 (by decide +kernel) rfl
theorem tw_656 : (Jvm.Cond.selects "ShadowTax$Plan" ({ cls := "ShadowTax$Plan", name := "allShares", desc := "()I" } : Jvm.MethodName) ({ cls := "ShadowTax$Plan", name := "allShares", desc := "()I" } : Jvm.MethodName)) ∈ am_tb := am_in 656 (by decide +kernel) rfl
theorem tw_657 : (Cond.code yX2_allShares cX2_allShares 3 (Option.some Jvm.ClassFile.FieldType.int)) ∈ am_tb := am_in 657 (by decide +kernel) rfl
theorem tw_658 : (Jvm.Cond.methodLink "ShadowTax" (302 : Nat) ({ cls := "ShadowTax$Plan", name := "hourOfShare", desc := "(I)I" } : Jvm.MethodName)) ∈ am_tb := am_in 658 (by decide +kernel) rfl
theorem tw_659 : (Jvm.Cond.instanceMethod ({ cls := "ShadowTax$Plan", name := "hourOfShare", desc := "(I)I" } : Jvm.MethodName)) ∈ am_tb := am_in 659 (by decide +kernel) rfl
theorem tw_660 : (Jvm.Cond.selects "ShadowTax$Plan" ({ cls := "ShadowTax$Plan", name := "hourOfShare", desc := "(I)I" } : Jvm.MethodName) ({ cls := "ShadowTax$Plan", name := "hourOfShare", desc := "(I)I" } : Jvm.MethodName)) ∈ am_tb := am_in 660 (by decide +kernel) rfl
theorem tw_661 : (Cond.code yX2_hourOfShare cX2_hourOfShare 4 (Option.some Jvm.ClassFile.FieldType.int)) ∈ am_tb := am_in 661 (by decide +kernel) rfl
theorem tw_662 : (Jvm.Cond.methodLink "ShadowTax" (217 : Nat) ({ cls := "ShadowTax", name := "payAt", desc := "(I)V" } : Jvm.MethodName)) ∈ am_tb := am_in 662 (by decide +kernel) rfl
theorem tw_664 : (Jvm.Cond.instanceMethod ({ cls := "ShadowTax", name := "payAt", desc := "(I)V" } : Jvm.MethodName)) ∈ am_tb := am_in 664 (by decide +kernel) rfl
theorem tw_665 : (Cond.code yX8_payAt cX8_payAt 4 (Option.none : Option Jvm.ClassFile.FieldType)) ∈ am_tb := am_in 665 (by decide +kernel) rfl
theorem tw_666 : (Jvm.Cond.methodLink "ShadowTax" (220 : Nat) ({ cls := "ShadowTax", name := "wander", desc := "()V" } : Jvm.MethodName)) ∈ am_tb := am_in 666 (by decide +kernel) rfl
theorem tw_668 : (Jvm.Cond.instanceMethod ({ cls := "ShadowTax", name := "wander", desc := "()V" } : Jvm.MethodName)) ∈ am_tb := am_in 668 (by decide +kernel) rfl
theorem tw_669 : (Cond.code yX8_wander cX8_wander 6 (Option.none : Option Jvm.ClassFile.FieldType)) ∈ am_tb := am_in 669 (by decide +kernel) rfl
theorem tw_670 : (Jvm.Cond.methodLink "ShadowTaxLaw" (70 : Nat) ({ cls := "ShadowTax", name := "best", desc := "(II)I" } : Jvm.MethodName)) ∈ am_tb := am_in 670 (by decide +kernel) rfl
theorem tw_671 : (Jvm.Cond.instanceMethod ({ cls := "ShadowTax", name := "best", desc := "(II)I" } : Jvm.MethodName)) ∈ am_tb := am_in 671 (by decide +kernel) rfl
theorem tw_672 : (Jvm.Cond.selects "ShadowTax" ({ cls := "ShadowTax", name := "best", desc := "(II)I" } : Jvm.MethodName) ({ cls := "ShadowTax", name := "best", desc := "(II)I" } : Jvm.MethodName)) ∈ am_tb := am_in 672 (by decide +kernel) rfl
theorem tw_673 : (Cond.code yX8_best cX8_best 3 (Option.some Jvm.ClassFile.FieldType.int)) ∈ am_tb := am_in 673 (by decide +kernel) rfl
theorem tw_674 : (Jvm.Cond.methodLink "ShadowTax" (223 : Nat) ({ cls := "ShadowTax$Places", name := "bestFor", desc := "(II)I" } : Jvm.MethodName)) ∈ am_tb := am_in 674 (by decide +kernel) rfl
theorem tw_675 : (Jvm.Cond.instanceMethod ({ cls := "ShadowTax$Places", name := "bestFor", desc := "(II)I" } : Jvm.MethodName)) ∈ am_tb := am_in 675 (by decide +kernel) rfl
theorem tw_676 : (Jvm.Cond.selects "ShadowTax$Places" ({ cls := "ShadowTax$Places", name := "bestFor", desc := "(II)I" } : Jvm.MethodName) ({ cls := "ShadowTax$Places", name := "bestFor", desc := "(II)I" } : Jvm.MethodName)) ∈ am_tb := am_in 676 (by decide +kernel) rfl
theorem tw_677 : (Cond.code yX1_bestFor cX1_bestFor 7 (Option.some Jvm.ClassFile.FieldType.int)) ∈ am_tb := am_in 677 (by decide +kernel) rfl
theorem tw_678 : (Jvm.Cond.constant "ShadowTax$Places" (42 : Nat) (1000000000 : Int32)) ∈ am_tb := am_in 678 (by decide +kernel) rfl
theorem tw_679 : (Jvm.Cond.methodLink "ShadowTax$Places" (47 : Nat) ({ cls := "ShadowTax$Shades", name := "tallOf", desc := "(I)I" } : Jvm.MethodName)) ∈ am_tb := am_in 679 (by decide +kernel) rfl
theorem tw_680 : (Jvm.Cond.methodLink "ShadowTax$Places" (51 : Nat) ({ cls := "ShadowTax$Shades", name := "meanAt", desc := "(IIII)I" } : Jvm.MethodName)) ∈ am_tb := am_in 680 (by decide +kernel) rfl
theorem tw_681 : (Jvm.Cond.methodLink "ShadowTax$Places" (55 : Nat) ({ cls := "ShadowTax$Shades", name := "worstAt", desc := "(II)I" } : Jvm.MethodName)) ∈ am_tb := am_in 681 (by decide +kernel) rfl
theorem tw_682 : (Jvm.Cond.methodLink "ShadowTaxLaw" (74 : Nat) ({ cls := "ShadowTax", name := "errand", desc := "(IIII)I" } : Jvm.MethodName)) ∈ am_tb := am_in 682 (by decide +kernel) rfl
theorem tw_683 : (Jvm.Cond.instanceMethod ({ cls := "ShadowTax", name := "errand", desc := "(IIII)I" } : Jvm.MethodName)) ∈ am_tb := am_in 683 (by decide +kernel) rfl
theorem tw_684 : (Jvm.Cond.selects "ShadowTax" ({ cls := "ShadowTax", name := "errand", desc := "(IIII)I" } : Jvm.MethodName) ({ cls := "ShadowTax", name := "errand", desc := "(IIII)I" } : Jvm.MethodName)) ∈ am_tb := am_in 684 (by decide +kernel) rfl
theorem tw_685 : (Cond.code yX8_errand cX8_errand 6 (Option.some Jvm.ClassFile.FieldType.int)) ∈ am_tb := am_in 685 (by decide +kernel) rfl
theorem tw_686 : (Jvm.Cond.methodLink "ShadowTax" (226 : Nat) ({ cls := "ShadowTax$Rows", name := "add", desc := "(III)Z" } : Jvm.MethodName)) ∈ am_tb := am_in 686 (by decide +kernel) rfl
theorem tw_687 : (Jvm.Cond.instanceMethod ({ cls := "ShadowTax$Rows", name := "add", desc := "(III)Z" } : Jvm.MethodName)) ∈ am_tb := am_in 687 (by decide +kernel) rfl
theorem tw_688 : (Jvm.Cond.selects "ShadowTax$Rows" ({ cls := "ShadowTax$Rows", name := "add", desc := "(III)Z" } : Jvm.MethodName) ({ cls := "ShadowTax$Rows", name := "add", desc := "(III)Z" } : Jvm.MethodName)) ∈ am_tb := am_in 688 (by decide +kernel) rfl
theorem tw_689 : (Cond.code yX4_add cX4_add 4 (Option.some Jvm.ClassFile.FieldType.boolean)) ∈ am_tb := am_in 689 (by decide +kernel) rfl
theorem tw_690 : (Jvm.Cond.methodLink "ShadowTaxLaw" (78 : Nat) ({ cls := "ShadowTax", name := "walk", desc := "(II)I" } : Jvm.MethodName)) ∈ am_tb := am_in 690 (by decide +kernel) rfl
theorem tw_691 : (Jvm.Cond.instanceMethod ({ cls := "ShadowTax", name := "walk", desc := "(II)I" } : Jvm.MethodName)) ∈ am_tb := am_in 691 (by decide +kernel) rfl
theorem tw_692 : (Jvm.Cond.selects "ShadowTax" ({ cls := "ShadowTax", name := "walk", desc := "(II)I" } : Jvm.MethodName) ({ cls := "ShadowTax", name := "walk", desc := "(II)I" } : Jvm.MethodName)) ∈ am_tb := am_in 692 (by decide +kernel) rfl
theorem tw_693 : (Cond.code yX8_walk cX8_walk 4 (Option.some Jvm.ClassFile.FieldType.int)) ∈ am_tb := am_in 693 (by decide +kernel) rfl
theorem tw_694 : (Jvm.Cond.methodLink "ShadowTax" (230 : Nat) ({ cls := "ShadowTax$Walks", name := "leastMean", desc := "(I)I" } : Jvm.MethodName)) ∈ am_tb := am_in 694 (by decide +kernel) rfl
theorem tw_695 : (Jvm.Cond.instanceMethod ({ cls := "ShadowTax$Walks", name := "leastMean", desc := "(I)I" } : Jvm.MethodName)) ∈ am_tb := am_in 695 (by decide +kernel) rfl
theorem tw_696 : (Jvm.Cond.selects "ShadowTax$Walks" ({ cls := "ShadowTax$Walks", name := "leastMean", desc := "(I)I" } : Jvm.MethodName) ({ cls := "ShadowTax$Walks", name := "leastMean", desc := "(I)I" } : Jvm.MethodName)) ∈ am_tb := am_in 696 (by decide +kernel) rfl
theorem tw_697 : (Cond.code yX7_leastMean cX7_leastMean 4 (Option.some Jvm.ClassFile.FieldType.int)) ∈ am_tb := am_in 697 (by decide +kernel) rfl
theorem tw_698 : (Jvm.Cond.methodLink "ShadowTax$Walks" (36 : Nat) ({ cls := "ShadowTax$Plan", name := "hasPerson", desc := "(I)Z" } : Jvm.MethodName)) ∈ am_tb := am_in 698 (by decide +kernel) rfl
theorem tw_699 : (Jvm.Cond.methodLink "ShadowTax$Walks" (49 : Nat) ({ cls := "ShadowTax$Walks", name := "leastFrom", desc := "(III)I" } : Jvm.MethodName)) ∈ am_tb := am_in 699 (by decide +kernel) rfl
theorem tw_701 : (Jvm.Cond.instanceMethod ({ cls := "ShadowTax$Walks", name := "leastFrom", desc := "(III)I" } : Jvm.MethodName)) ∈ am_tb := am_in 701 (by decide +kernel) rfl
theorem tw_702 : (Cond.code yX7_leastFrom cX7_leastFrom 6 (Option.some Jvm.ClassFile.FieldType.int)) ∈ am_tb := am_in 702 (by decide +kernel) rfl
theorem tw_703 : (Jvm.Cond.methodLink "ShadowTax$Walks" (63 : Nat) ({ cls := "ShadowTax$Plan", name := "hasHour", desc := "(I)Z" } : Jvm.MethodName)) ∈ am_tb := am_in 703 (by decide +kernel) rfl
theorem tw_704 : (Jvm.Cond.methodLink "ShadowTax$Walks" (66 : Nat) ({ cls := "ShadowTax$Walks", name := "mayBeOn", desc := "(III)Z" } : Jvm.MethodName)) ∈ am_tb := am_in 704 (by decide +kernel) rfl
theorem tw_706 : (Jvm.Cond.instanceMethod ({ cls := "ShadowTax$Walks", name := "mayBeOn", desc := "(III)Z" } : Jvm.MethodName)) ∈ am_tb := am_in 706 (by decide +kernel) rfl
theorem tw_707 : (Cond.code yX7_mayBeOn cX7_mayBeOn 5 (Option.some Jvm.ClassFile.FieldType.boolean)) ∈ am_tb := am_in 707 (by decide +kernel) rfl
theorem tw_708 : (Jvm.Cond.methodLink "ShadowTax$Walks" (59 : Nat) ({ cls := "ShadowTax$Plan", name := "hasCell", desc := "(I)Z" } : Jvm.MethodName)) ∈ am_tb := am_in 708 (by decide +kernel) rfl
theorem tw_709 : (Jvm.Cond.methodLink "ShadowTax$Walks" (88 : Nat) ({ cls := "ShadowTax$Rows", name := "first", desc := "(I)I" } : Jvm.MethodName)) ∈ am_tb := am_in 709 (by decide +kernel) rfl
theorem tw_710 : (Jvm.Cond.instanceMethod ({ cls := "ShadowTax$Rows", name := "first", desc := "(I)I" } : Jvm.MethodName)) ∈ am_tb := am_in 710 (by decide +kernel) rfl
theorem tw_711 : (Jvm.Cond.selects "ShadowTax$Rows" ({ cls := "ShadowTax$Rows", name := "first", desc := "(I)I" } : Jvm.MethodName) ({ cls := "ShadowTax$Rows", name := "first", desc := "(I)I" } : Jvm.MethodName)) ∈ am_tb := am_in 711 (by decide +kernel) rfl
theorem tw_712 : (Cond.code yX4_first cX4_first 2 (Option.some Jvm.ClassFile.FieldType.int)) ∈ am_tb := am_in 712 (by decide +kernel) rfl
theorem tw_713 : (Jvm.Cond.methodLink "ShadowTax$Walks" (92 : Nat) ({ cls := "ShadowTax$Rows", name := "third", desc := "(I)I" } : Jvm.MethodName)) ∈ am_tb := am_in 713 (by decide +kernel) rfl
theorem tw_714 : (Jvm.Cond.instanceMethod ({ cls := "ShadowTax$Rows", name := "third", desc := "(I)I" } : Jvm.MethodName)) ∈ am_tb := am_in 714 (by decide +kernel) rfl
theorem tw_715 : (Jvm.Cond.selects "ShadowTax$Rows" ({ cls := "ShadowTax$Rows", name := "third", desc := "(I)I" } : Jvm.MethodName) ({ cls := "ShadowTax$Rows", name := "third", desc := "(I)I" } : Jvm.MethodName)) ∈ am_tb := am_in 715 (by decide +kernel) rfl
theorem tw_716 : (Cond.code yX4_third cX4_third 2 (Option.some Jvm.ClassFile.FieldType.int)) ∈ am_tb := am_in 716 (by decide +kernel) rfl
theorem tw_717 : (Jvm.Cond.methodLink "ShadowTax$Walks" (95 : Nat) ({ cls := "ShadowTax$Rows", name := "second", desc := "(I)I" } : Jvm.MethodName)) ∈ am_tb := am_in 717 (by decide +kernel) rfl
theorem tw_718 : (Jvm.Cond.instanceMethod ({ cls := "ShadowTax$Rows", name := "second", desc := "(I)I" } : Jvm.MethodName)) ∈ am_tb := am_in 718 (by decide +kernel) rfl
theorem tw_719 : (Jvm.Cond.selects "ShadowTax$Rows" ({ cls := "ShadowTax$Rows", name := "second", desc := "(I)I" } : Jvm.MethodName) ({ cls := "ShadowTax$Rows", name := "second", desc := "(I)I" } : Jvm.MethodName)) ∈ am_tb := am_in 719 (by decide +kernel) rfl
theorem tw_720 : (Cond.code yX4_second cX4_second 2 (Option.some Jvm.ClassFile.FieldType.int)) ∈ am_tb := am_in 720 (by decide +kernel) rfl
theorem tw_721 : (Jvm.Cond.constant "ShadowTax$Walks" (62 : Nat) (1000000000 : Int32)) ∈ am_tb := am_in 721 (by decide +kernel) rfl
theorem tw_722 : (Jvm.Cond.methodLink "ShadowTax$Walks" (70 : Nat) ({ cls := "ShadowTax$Walks", name := "bestNext", desc := "(II)I" } : Jvm.MethodName)) ∈ am_tb := am_in 722 (by decide +kernel) rfl
theorem tw_724 : (Jvm.Cond.instanceMethod ({ cls := "ShadowTax$Walks", name := "bestNext", desc := "(II)I" } : Jvm.MethodName)) ∈ am_tb := am_in 724 (by decide +kernel) rfl
theorem tw_725 : (Cond.code yX7_bestNext cX7_bestNext 8 (Option.some Jvm.ClassFile.FieldType.int)) ∈ am_tb := am_in 725 (by decide +kernel) rfl
theorem tw_726 : (Jvm.Cond.methodLink "ShadowTax$Walks" (98 : Nat) ({ cls := "ShadowTax$Plan", name := "columnOf", desc := "(I)I" } : Jvm.MethodName)) ∈ am_tb := am_in 726 (by decide +kernel) rfl
theorem tw_727 : (Jvm.Cond.methodLink "ShadowTax$Walks" (101 : Nat) ({ cls := "ShadowTax$Plan", name := "lineOf", desc := "(I)I" } : Jvm.MethodName)) ∈ am_tb := am_in 727 (by decide +kernel) rfl
theorem tw_728 : (Jvm.Cond.methodLink "ShadowTax$Walks" (104 : Nat) ({ cls := "ShadowTax$Plan", name := "cellAt", desc := "(II)I" } : Jvm.MethodName)) ∈ am_tb := am_in 728 (by decide +kernel) rfl
theorem tw_729 : (Jvm.Cond.methodLink "ShadowTax$Walks" (74 : Nat) ({ cls := "ShadowTax$Shades", name := "owedAt", desc := "(III)I" } : Jvm.MethodName)) ∈ am_tb := am_in 729 (by decide +kernel) rfl
theorem tw_730 : (Jvm.Cond.methodLink "ShadowTax" (233 : Nat) ({ cls := "ShadowTax$Walks", name := "cellAtHour", desc := "(II)I" } : Jvm.MethodName)) ∈ am_tb := am_in 730 (by decide +kernel) rfl
theorem tw_731 : (Jvm.Cond.instanceMethod ({ cls := "ShadowTax$Walks", name := "cellAtHour", desc := "(II)I" } : Jvm.MethodName)) ∈ am_tb := am_in 731 (by decide +kernel) rfl
theorem tw_732 : (Jvm.Cond.selects "ShadowTax$Walks" ({ cls := "ShadowTax$Walks", name := "cellAtHour", desc := "(II)I" } : Jvm.MethodName) ({ cls := "ShadowTax$Walks", name := "cellAtHour", desc := "(II)I" } : Jvm.MethodName)) ∈ am_tb := am_in 732 (by decide +kernel) rfl
theorem tw_733 : (Cond.code yX7_cellAtHour cX7_cellAtHour 5 (Option.some Jvm.ClassFile.FieldType.int)) ∈ am_tb := am_in 733 (by decide +kernel) rfl
theorem tw_734 : (Jvm.Cond.methodLink "ShadowTaxLaw" (82 : Nat) ({ cls := "ShadowTax", name := "couple", desc := "(II)I" } : Jvm.MethodName)) ∈ am_tb := am_in 734 (by decide +kernel) rfl
theorem tw_735 : (Jvm.Cond.instanceMethod ({ cls := "ShadowTax", name := "couple", desc := "(II)I" } : Jvm.MethodName)) ∈ am_tb := am_in 735 (by decide +kernel) rfl
theorem tw_736 : (Jvm.Cond.selects "ShadowTax" ({ cls := "ShadowTax", name := "couple", desc := "(II)I" } : Jvm.MethodName) ({ cls := "ShadowTax", name := "couple", desc := "(II)I" } : Jvm.MethodName)) ∈ am_tb := am_in 736 (by decide +kernel) rfl
theorem tw_737 : (Cond.code yX8_couple cX8_couple 3 (Option.some Jvm.ClassFile.FieldType.int)) ∈ am_tb := am_in 737 (by decide +kernel) rfl
theorem tw_738 : (Jvm.Cond.methodLink "ShadowTax" (236 : Nat) ({ cls := "ShadowTax$Couples", name := "worthOf", desc := "(II)I" } : Jvm.MethodName)) ∈ am_tb := am_in 738 (by decide +kernel) rfl
theorem tw_739 : (Jvm.Cond.instanceMethod ({ cls := "ShadowTax$Couples", name := "worthOf", desc := "(II)I" } : Jvm.MethodName)) ∈ am_tb := am_in 739 (by decide +kernel) rfl
theorem tw_740 : (Jvm.Cond.selects "ShadowTax$Couples" ({ cls := "ShadowTax$Couples", name := "worthOf", desc := "(II)I" } : Jvm.MethodName) ({ cls := "ShadowTax$Couples", name := "worthOf", desc := "(II)I" } : Jvm.MethodName)) ∈ am_tb := am_in 740 (by decide +kernel) rfl
theorem tw_741 : (Cond.code yX0_worthOf cX0_worthOf 8 (Option.some Jvm.ClassFile.FieldType.int)) ∈ am_tb := am_in 741 (by decide +kernel) rfl
theorem tw_742 : (Jvm.Cond.methodLink "ShadowTax$Couples" (36 : Nat) ({ cls := "ShadowTax$Plan", name := "hasPerson", desc := "(I)Z" } : Jvm.MethodName)) ∈ am_tb := am_in 742 (by decide +kernel) rfl
theorem tw_743 : (Jvm.Cond.methodLink "ShadowTax$Couples" (42 : Nat) ({ cls := "java/lang/Math", name := "min", desc := "(II)I" } : Jvm.MethodName)) ∈ am_tb := am_in 743 (by decide +kernel) rfl
theorem tw_744 : (Jvm.Cond.static ({ cls := "java/lang/Math", name := "min", desc := "(II)I" } : Jvm.MethodName)) ∈ am_tb := am_in 744 (by decide +kernel) rfl
theorem tw_745 : (Cond.code yJ9_min_7cf53 cJ9_min_7cf53 2 (Option.some Jvm.ClassFile.FieldType.int)) ∈ am_tb := am_in 745 (by decide +kernel) rfl
theorem tw_746 : (Jvm.Cond.methodLink "ShadowTax$Couples" (48 : Nat) ({ cls := "java/lang/Math", name := "max", desc := "(II)I" } : Jvm.MethodName)) ∈ am_tb := am_in 746 (by decide +kernel) rfl
theorem tw_747 : (Jvm.Cond.methodLink "ShadowTax$Couples" (51 : Nat) ({ cls := "ShadowTax$Shades", name := "tallOf", desc := "(I)I" } : Jvm.MethodName)) ∈ am_tb := am_in 747 (by decide +kernel) rfl
theorem tw_748 : (Jvm.Cond.methodLink "ShadowTax$Couples" (60 : Nat) ({ cls := "ShadowTax$Shades", name := "meanAt", desc := "(IIII)I" } : Jvm.MethodName)) ∈ am_tb := am_in 748 (by decide +kernel) rfl
theorem tw_749 : (Jvm.Cond.methodLink "ShadowTax$Couples" (64 : Nat) ({ cls := "ShadowTax$Shades", name := "meanOf", desc := "(I)I" } : Jvm.MethodName)) ∈ am_tb := am_in 749 (by decide +kernel) rfl
theorem tw_750 : (Jvm.Cond.methodLink "ShadowTaxLaw" (86 : Nat) ({ cls := "ShadowTax", name := "couples", desc := "(I)I" } : Jvm.MethodName)) ∈ am_tb := am_in 750 (by decide +kernel) rfl
theorem tw_751 : (Jvm.Cond.instanceMethod ({ cls := "ShadowTax", name := "couples", desc := "(I)I" } : Jvm.MethodName)) ∈ am_tb := am_in 751 (by decide +kernel) rfl
theorem tw_752 : (Jvm.Cond.selects "ShadowTax" ({ cls := "ShadowTax", name := "couples", desc := "(I)I" } : Jvm.MethodName) ({ cls := "ShadowTax", name := "couples", desc := "(I)I" } : Jvm.MethodName)) ∈ am_tb := am_in 752 (by decide +kernel) rfl
theorem tw_753 : (Cond.code yX8_couples cX8_couples 2 (Option.some Jvm.ClassFile.FieldType.int)) ∈ am_tb := am_in 753 (by decide +kernel) rfl
theorem tw_754 : (Jvm.Cond.methodLink "ShadowTax" (239 : Nat) ({ cls := "ShadowTax$Couples", name := "weighAll", desc := "()V" } : Jvm.MethodName)) ∈ am_tb := am_in 754 (by decide +kernel) rfl
theorem tw_755 : (Jvm.Cond.instanceMethod ({ cls := "ShadowTax$Couples", name := "weighAll", desc := "()V" } : Jvm.MethodName)) ∈ am_tb := am_in 755 (by decide +kernel) rfl
theorem tw_756 : (Jvm.Cond.selects "ShadowTax$Couples" ({ cls := "ShadowTax$Couples", name := "weighAll", desc := "()V" } : Jvm.MethodName) ({ cls := "ShadowTax$Couples", name := "weighAll", desc := "()V" } : Jvm.MethodName)) ∈ am_tb := am_in 756 (by decide +kernel) rfl
theorem tw_757 : (Cond.code yX0_weighAll cX0_weighAll 3 (Option.none : Option Jvm.ClassFile.FieldType)) ∈ am_tb := am_in 757 (by decide +kernel) rfl
theorem tw_758 : (Jvm.Cond.methodLink "ShadowTax$Couples" (71 : Nat) ({ cls := "ShadowTax$Couples", name := "worthOf", desc := "(II)I" } : Jvm.MethodName)) ∈ am_tb := am_in 758 (by decide +kernel) rfl
theorem tw_759 : (Jvm.Cond.methodLink "ShadowTax$Couples" (74 : Nat) ({ cls := "ShadowTax$Couples", name := "lowestOf", desc := "(I)I" } : Jvm.MethodName)) ∈ am_tb := am_in 759 (by decide +kernel) rfl
theorem tw_761 : (Jvm.Cond.instanceMethod ({ cls := "ShadowTax$Couples", name := "lowestOf", desc := "(I)I" } : Jvm.MethodName)) ∈ am_tb := am_in 761 (by decide +kernel) rfl
theorem tw_762 : (Cond.code yX0_lowestOf cX0_lowestOf 3 (Option.some Jvm.ClassFile.FieldType.int)) ∈ am_tb := am_in 762 (by decide +kernel) rfl
theorem tw_763 : (Jvm.Cond.methodLink "ShadowTax$Couples" (77 : Nat) ({ cls := "ShadowTax$Couples", name := "choice", desc := "(II)I" } : Jvm.MethodName)) ∈ am_tb := am_in 763 (by decide +kernel) rfl
theorem tw_765 : (Jvm.Cond.instanceMethod ({ cls := "ShadowTax$Couples", name := "choice", desc := "(II)I" } : Jvm.MethodName)) ∈ am_tb := am_in 765 (by decide +kernel) rfl
theorem tw_766 : (Cond.code yX0_choice cX0_choice 6 (Option.some Jvm.ClassFile.FieldType.int)) ∈ am_tb := am_in 766 (by decide +kernel) rfl
theorem tw_767 : (Jvm.Cond.methodLink "ShadowTax$Couples" (80 : Nat) ({ cls := "ShadowTax$Couples", name := "sumWith", desc := "(III)I" } : Jvm.MethodName)) ∈ am_tb := am_in 767 (by decide +kernel) rfl
theorem tw_769 : (Jvm.Cond.instanceMethod ({ cls := "ShadowTax$Couples", name := "sumWith", desc := "(III)I" } : Jvm.MethodName)) ∈ am_tb := am_in 769 (by decide +kernel) rfl
theorem tw_770 : (Cond.code yX0_sumWith cX0_sumWith 5 (Option.some Jvm.ClassFile.FieldType.int)) ∈ am_tb := am_in 770 (by decide +kernel) rfl
theorem tw_771 : (Jvm.Cond.methodLink "ShadowTax" (242 : Nat) ({ cls := "ShadowTax$Couples", name := "bestSum", desc := "()I" } : Jvm.MethodName)) ∈ am_tb := am_in 771 (by decide +kernel) rfl
theorem tw_772 : (Jvm.Cond.instanceMethod ({ cls := "ShadowTax$Couples", name := "bestSum", desc := "()I" } : Jvm.MethodName)) ∈ am_tb := am_in 772 (by decide +kernel) rfl
theorem tw_773 : (Jvm.Cond.selects "ShadowTax$Couples" ({ cls := "ShadowTax$Couples", name := "bestSum", desc := "()I" } : Jvm.MethodName) ({ cls := "ShadowTax$Couples", name := "bestSum", desc := "()I" } : Jvm.MethodName)) ∈ am_tb := am_in 773 (by decide +kernel) rfl
theorem tw_774 : (Cond.code yX0_bestSum cX0_bestSum 1 (Option.some Jvm.ClassFile.FieldType.int)) ∈ am_tb := am_in 774 (by decide +kernel) rfl
theorem tw_775 : (Jvm.Cond.methodLink "ShadowTax" (245 : Nat) ({ cls := "ShadowTax$Couples", name := "partnerOf", desc := "(I)I" } : Jvm.MethodName)) ∈ am_tb := am_in 775 (by decide +kernel) rfl
theorem tw_776 : (Jvm.Cond.instanceMethod ({ cls := "ShadowTax$Couples", name := "partnerOf", desc := "(I)I" } : Jvm.MethodName)) ∈ am_tb := am_in 776 (by decide +kernel) rfl
theorem tw_777 : (Jvm.Cond.selects "ShadowTax$Couples" ({ cls := "ShadowTax$Couples", name := "partnerOf", desc := "(I)I" } : Jvm.MethodName) ({ cls := "ShadowTax$Couples", name := "partnerOf", desc := "(I)I" } : Jvm.MethodName)) ∈ am_tb := am_in 777 (by decide +kernel) rfl
theorem tw_778 : (Cond.code yX0_partnerOf cX0_partnerOf 6 (Option.some Jvm.ClassFile.FieldType.int)) ∈ am_tb := am_in 778 (by decide +kernel) rfl
theorem tw_779 : (Jvm.Cond.methodLink "ShadowTaxLaw" (90 : Nat) ({ cls := "ShadowTax", name := "wall", desc := "(III)I" } : Jvm.MethodName)) ∈ am_tb := am_in 779 (by decide +kernel) rfl
theorem tw_780 : (Jvm.Cond.instanceMethod ({ cls := "ShadowTax", name := "wall", desc := "(III)I" } : Jvm.MethodName)) ∈ am_tb := am_in 780 (by decide +kernel) rfl
theorem tw_781 : (Jvm.Cond.selects "ShadowTax" ({ cls := "ShadowTax", name := "wall", desc := "(III)I" } : Jvm.MethodName) ({ cls := "ShadowTax", name := "wall", desc := "(III)I" } : Jvm.MethodName)) ∈ am_tb := am_in 781 (by decide +kernel) rfl
theorem tw_782 : (Cond.code yX8_wall cX8_wall 5 (Option.some Jvm.ClassFile.FieldType.int)) ∈ am_tb := am_in 782 (by decide +kernel) rfl
theorem tw_783 : (Jvm.Cond.methodLink "ShadowTax" (248 : Nat) ({ cls := "ShadowTax$Places", name := "isFree", desc := "(I)Z" } : Jvm.MethodName)) ∈ am_tb := am_in 783 (by decide +kernel) rfl
theorem tw_784 : (Jvm.Cond.instanceMethod ({ cls := "ShadowTax$Places", name := "isFree", desc := "(I)Z" } : Jvm.MethodName)) ∈ am_tb := am_in 784 (by decide +kernel) rfl
theorem tw_785 : (Jvm.Cond.selects "ShadowTax$Places" ({ cls := "ShadowTax$Places", name := "isFree", desc := "(I)Z" } : Jvm.MethodName) ({ cls := "ShadowTax$Places", name := "isFree", desc := "(I)Z" } : Jvm.MethodName)) ∈ am_tb := am_in 785 (by decide +kernel) rfl
theorem tw_786 : (Cond.code yX1_isFree cX1_isFree 2 (Option.some Jvm.ClassFile.FieldType.boolean)) ∈ am_tb := am_in 786 (by decide +kernel) rfl
theorem tw_787 : (Jvm.Cond.methodLink "ShadowTax$Places" (27 : Nat) ({ cls := "ShadowTax$Plan", name := "hasCell", desc := "(I)Z" } : Jvm.MethodName)) ∈ am_tb := am_in 787 (by decide +kernel) rfl
theorem tw_788 : (Jvm.Cond.methodLink "ShadowTax$Places" (39 : Nat) ({ cls := "ShadowTax$Shades", name := "somebodyIsOn", desc := "(I)Z" } : Jvm.MethodName)) ∈ am_tb := am_in 788 (by decide +kernel) rfl
theorem tw_789 : (Jvm.Cond.methodLink "ShadowTax" (251 : Nat) ({ cls := "ShadowTax$Places", name := "meanBehind", desc := "(III)I" } : Jvm.MethodName)) ∈ am_tb := am_in 789 (by decide +kernel) rfl
theorem tw_790 : (Jvm.Cond.instanceMethod ({ cls := "ShadowTax$Places", name := "meanBehind", desc := "(III)I" } : Jvm.MethodName)) ∈ am_tb := am_in 790 (by decide +kernel) rfl
theorem tw_791 : (Jvm.Cond.selects "ShadowTax$Places" ({ cls := "ShadowTax$Places", name := "meanBehind", desc := "(III)I" } : Jvm.MethodName) ({ cls := "ShadowTax$Places", name := "meanBehind", desc := "(III)I" } : Jvm.MethodName)) ∈ am_tb := am_in 791 (by decide +kernel) rfl
theorem tw_792 : (Cond.code yX1_meanBehind cX1_meanBehind 6 (Option.some Jvm.ClassFile.FieldType.int)) ∈ am_tb := am_in 792 (by decide +kernel) rfl
theorem tw_793 : (Jvm.Cond.methodLink "ShadowTax$Places" (59 : Nat) ({ cls := "ShadowTax$Shades", name := "darken", desc := "()V" } : Jvm.MethodName)) ∈ am_tb := am_in 793 (by decide +kernel) rfl
theorem tw_794 : (Jvm.Cond.methodLink "ShadowTax$Places" (62 : Nat) ({ cls := "ShadowTax$Shades", name := "meanOfAll", desc := "()I" } : Jvm.MethodName)) ∈ am_tb := am_in 794 (by decide +kernel) rfl
theorem tw_795 : (Jvm.Cond.methodLink "ShadowTax$Places" (66 : Nat) ({ cls := "ShadowTax$Shades", name := "meanOf", desc := "(I)I" } : Jvm.MethodName)) ∈ am_tb := am_in 795 (by decide +kernel) rfl
theorem tw_796 : (Jvm.Cond.methodLink "ShadowTaxLaw" (94 : Nat) ({ cls := "ShadowTax", name := "bestWall", desc := "(III)I" } : Jvm.MethodName)) ∈ am_tb := am_in 796 (by decide +kernel) rfl
theorem tw_797 : (Jvm.Cond.instanceMethod ({ cls := "ShadowTax", name := "bestWall", desc := "(III)I" } : Jvm.MethodName)) ∈ am_tb := am_in 797 (by decide +kernel) rfl
theorem tw_798 : (Jvm.Cond.selects "ShadowTax" ({ cls := "ShadowTax", name := "bestWall", desc := "(III)I" } : Jvm.MethodName) ({ cls := "ShadowTax", name := "bestWall", desc := "(III)I" } : Jvm.MethodName)) ∈ am_tb := am_in 798 (by decide +kernel) rfl
theorem tw_799 : (Cond.code yX8_bestWall cX8_bestWall 4 (Option.some Jvm.ClassFile.FieldType.int)) ∈ am_tb := am_in 799 (by decide +kernel) rfl
theorem tw_800 : (Jvm.Cond.methodLink "ShadowTax" (254 : Nat) ({ cls := "ShadowTax$Places", name := "bestWallFor", desc := "(II)I" } : Jvm.MethodName)) ∈ am_tb := am_in 800 (by decide +kernel) rfl
theorem tw_801 : (Jvm.Cond.instanceMethod ({ cls := "ShadowTax$Places", name := "bestWallFor", desc := "(II)I" } : Jvm.MethodName)) ∈ am_tb := am_in 801 (by decide +kernel) rfl
theorem tw_802 : (Jvm.Cond.selects "ShadowTax$Places" ({ cls := "ShadowTax$Places", name := "bestWallFor", desc := "(II)I" } : Jvm.MethodName) ({ cls := "ShadowTax$Places", name := "bestWallFor", desc := "(II)I" } : Jvm.MethodName)) ∈ am_tb := am_in 802 (by decide +kernel) rfl
theorem tw_803 : (Cond.code yX1_bestWallFor cX1_bestWallFor 7 (Option.some Jvm.ClassFile.FieldType.int)) ∈ am_tb := am_in 803 (by decide +kernel) rfl
theorem tw_804 : (Jvm.Cond.methodLink "ShadowTax$Places" (69 : Nat) ({ cls := "ShadowTax$Places", name := "isFree", desc := "(I)Z" } : Jvm.MethodName)) ∈ am_tb := am_in 804 (by decide +kernel) rfl
theorem tw_805 : (Jvm.Cond.methodLink "ShadowTax$Places" (72 : Nat) ({ cls := "ShadowTax$Places", name := "meanBehind", desc := "(III)I" } : Jvm.MethodName)) ∈ am_tb := am_in 805 (by decide +kernel) rfl
theorem tw_806 : (Jvm.Cond.methodLink "ShadowTaxLaw" (98 : Nat) ({ cls := "ShadowTax", name := "richest", desc := "(I)I" } : Jvm.MethodName)) ∈ am_tb := am_in 806 (by decide +kernel) rfl
theorem tw_807 : (Jvm.Cond.instanceMethod ({ cls := "ShadowTax", name := "richest", desc := "(I)I" } : Jvm.MethodName)) ∈ am_tb := am_in 807 (by decide +kernel) rfl
theorem tw_808 : (Jvm.Cond.selects "ShadowTax" ({ cls := "ShadowTax", name := "richest", desc := "(I)I" } : Jvm.MethodName) ({ cls := "ShadowTax", name := "richest", desc := "(I)I" } : Jvm.MethodName)) ∈ am_tb := am_in 808 (by decide +kernel) rfl
theorem tw_809 : (Cond.code yX8_richest cX8_richest 3 (Option.some Jvm.ClassFile.FieldType.int)) ∈ am_tb := am_in 809 (by decide +kernel) rfl
theorem tw_810 : (Jvm.Cond.methodLink "ShadowTax" (257 : Nat) ({ cls := "ShadowTax$Shades", name := "richestHour", desc := "()I" } : Jvm.MethodName)) ∈ am_tb := am_in 810 (by decide +kernel) rfl
theorem tw_811 : (Jvm.Cond.instanceMethod ({ cls := "ShadowTax$Shades", name := "richestHour", desc := "()I" } : Jvm.MethodName)) ∈ am_tb := am_in 811 (by decide +kernel) rfl
theorem tw_812 : (Jvm.Cond.selects "ShadowTax$Shades" ({ cls := "ShadowTax$Shades", name := "richestHour", desc := "()I" } : Jvm.MethodName) ({ cls := "ShadowTax$Shades", name := "richestHour", desc := "()I" } : Jvm.MethodName)) ∈ am_tb := am_in 812 (by decide +kernel) rfl
theorem tw_813 : (Cond.code yX5_richestHour cX5_richestHour 5 (Option.some Jvm.ClassFile.FieldType.int)) ∈ am_tb := am_in 813 (by decide +kernel) rfl
theorem tw_814 : (Jvm.Cond.methodLink "ShadowTax$Shades" (111 : Nat) ({ cls := "ShadowTax$Shades", name := "owedByAll", desc := "(I)I" } : Jvm.MethodName)) ∈ am_tb := am_in 814 (by decide +kernel) rfl
theorem tw_815 : (Jvm.Cond.instanceMethod ({ cls := "ShadowTax$Shades", name := "owedByAll", desc := "(I)I" } : Jvm.MethodName)) ∈ am_tb := am_in 815 (by decide +kernel) rfl
theorem tw_816 : (Jvm.Cond.selects "ShadowTax$Shades" ({ cls := "ShadowTax$Shades", name := "owedByAll", desc := "(I)I" } : Jvm.MethodName) ({ cls := "ShadowTax$Shades", name := "owedByAll", desc := "(I)I" } : Jvm.MethodName)) ∈ am_tb := am_in 816 (by decide +kernel) rfl
theorem tw_817 : (Cond.code yX5_owedByAll cX5_owedByAll 4 (Option.some Jvm.ClassFile.FieldType.int)) ∈ am_tb := am_in 817 (by decide +kernel) rfl
theorem tw_818 : (Jvm.Cond.methodLink "ShadowTax" (260 : Nat) ({ cls := "ShadowTax$Shades", name := "owedByAll", desc := "(I)I" } : Jvm.MethodName)) ∈ am_tb := am_in 818 (by decide +kernel) rfl
theorem tw_819 : (Jvm.Cond.methodLink "ShadowTaxLaw" (102 : Nat) ({ cls := "ShadowTax", name := "tell", desc := "(II)I" } : Jvm.MethodName)) ∈ am_tb := am_in 819 (by decide +kernel) rfl
theorem tw_820 : (Jvm.Cond.instanceMethod ({ cls := "ShadowTax", name := "tell", desc := "(II)I" } : Jvm.MethodName)) ∈ am_tb := am_in 820 (by decide +kernel) rfl
theorem tw_821 : (Jvm.Cond.selects "ShadowTax" ({ cls := "ShadowTax", name := "tell", desc := "(II)I" } : Jvm.MethodName) ({ cls := "ShadowTax", name := "tell", desc := "(II)I" } : Jvm.MethodName)) ∈ am_tb := am_in 821 (by decide +kernel) rfl
theorem tw_822 : (Cond.code yX8_tell cX8_tell 3 (Option.some Jvm.ClassFile.FieldType.int)) ∈ am_tb := am_in 822 (by decide +kernel) rfl
theorem tw_823 : (Jvm.Cond.methodLink "ShadowTaxLaw" (106 : Nat) ({ cls := "ShadowTax", name := "stood", desc := "(II)I" } : Jvm.MethodName)) ∈ am_tb := am_in 823 (by decide +kernel) rfl
theorem tw_824 : (Jvm.Cond.instanceMethod ({ cls := "ShadowTax", name := "stood", desc := "(II)I" } : Jvm.MethodName)) ∈ am_tb := am_in 824 (by decide +kernel) rfl
theorem tw_825 : (Jvm.Cond.selects "ShadowTax" ({ cls := "ShadowTax", name := "stood", desc := "(II)I" } : Jvm.MethodName) ({ cls := "ShadowTax", name := "stood", desc := "(II)I" } : Jvm.MethodName)) ∈ am_tb := am_in 825 (by decide +kernel) rfl
theorem tw_826 : (Cond.code yX8_stood cX8_stood 3 (Option.some Jvm.ClassFile.FieldType.int)) ∈ am_tb := am_in 826 (by decide +kernel) rfl
theorem tw_827 : (Jvm.Cond.methodLink "ShadowTax" (263 : Nat) ({ cls := "ShadowTax$Places", name := "countOfStood", desc := "(ILShadowTax$Rows;)I" } : Jvm.MethodName)) ∈ am_tb := am_in 827 (by decide +kernel) rfl
theorem tw_828 : (Jvm.Cond.instanceMethod ({ cls := "ShadowTax$Places", name := "countOfStood", desc := "(ILShadowTax$Rows;)I" } : Jvm.MethodName)) ∈ am_tb := am_in 828 (by decide +kernel) rfl
theorem tw_829 : (Jvm.Cond.selects "ShadowTax$Places" ({ cls := "ShadowTax$Places", name := "countOfStood", desc := "(ILShadowTax$Rows;)I" } : Jvm.MethodName) ({ cls := "ShadowTax$Places", name := "countOfStood", desc := "(ILShadowTax$Rows;)I" } : Jvm.MethodName)) ∈ am_tb := am_in 829 (by decide +kernel) rfl
theorem tw_830 : (Cond.code yX1_countOfStood cX1_countOfStood 5 (Option.some Jvm.ClassFile.FieldType.int)) ∈ am_tb := am_in 830 (by decide +kernel) rfl
theorem tw_831 : (Jvm.Cond.methodLink "ShadowTax$Places" (90 : Nat) ({ cls := "ShadowTax$Places", name := "mayHaveStood", desc := "(IILShadowTax$Rows;)Z" } : Jvm.MethodName)) ∈ am_tb := am_in 831 (by decide +kernel) rfl
theorem tw_833 : (Jvm.Cond.instanceMethod ({ cls := "ShadowTax$Places", name := "mayHaveStood", desc := "(IILShadowTax$Rows;)Z" } : Jvm.MethodName)) ∈ am_tb := am_in 833 (by decide +kernel) rfl
theorem tw_834 : (Cond.code yX1_mayHaveStood cX1_mayHaveStood 5 (Option.some Jvm.ClassFile.FieldType.boolean)) ∈ am_tb := am_in 834 (by decide +kernel) rfl
theorem tw_835 : (Jvm.Cond.methodLink "ShadowTax$Places" (81 : Nat) ({ cls := "ShadowTax$Rows", name := "second", desc := "(I)I" } : Jvm.MethodName)) ∈ am_tb := am_in 835 (by decide +kernel) rfl
theorem tw_836 : (Jvm.Cond.methodLink "ShadowTax$Places" (84 : Nat) ({ cls := "ShadowTax$Shades", name := "owedAt", desc := "(III)I" } : Jvm.MethodName)) ∈ am_tb := am_in 836 (by decide +kernel) rfl
theorem tw_837 : (Jvm.Cond.methodLink "ShadowTax$Places" (87 : Nat) ({ cls := "ShadowTax$Rows", name := "third", desc := "(I)I" } : Jvm.MethodName)) ∈ am_tb := am_in 837 (by decide +kernel) rfl
theorem tw_838 : (Jvm.Cond.methodLink "ShadowTax" (267 : Nat) ({ cls := "ShadowTax$Places", name := "stoodAt", desc := "(ILShadowTax$Rows;I)I" } : Jvm.MethodName)) ∈ am_tb := am_in 838 (by decide +kernel) rfl
theorem tw_839 : (Jvm.Cond.instanceMethod ({ cls := "ShadowTax$Places", name := "stoodAt", desc := "(ILShadowTax$Rows;I)I" } : Jvm.MethodName)) ∈ am_tb := am_in 839 (by decide +kernel) rfl
theorem tw_840 : (Jvm.Cond.selects "ShadowTax$Places" ({ cls := "ShadowTax$Places", name := "stoodAt", desc := "(ILShadowTax$Rows;I)I" } : Jvm.MethodName) ({ cls := "ShadowTax$Places", name := "stoodAt", desc := "(ILShadowTax$Rows;I)I" } : Jvm.MethodName)) ∈ am_tb := am_in 840 (by decide +kernel) rfl
theorem tw_841 : (Cond.code yX1_stoodAt cX1_stoodAt 6 (Option.some Jvm.ClassFile.FieldType.int)) ∈ am_tb := am_in 841 (by decide +kernel) rfl
theorem tw_842 : (Jvm.Cond.methodLink "ShadowTaxLaw" (110 : Nat) ({ cls := "ShadowTax", name := "write", desc := "(III)I" } : Jvm.MethodName)) ∈ am_tb := am_in 842 (by decide +kernel) rfl
theorem tw_843 : (Jvm.Cond.instanceMethod ({ cls := "ShadowTax", name := "write", desc := "(III)I" } : Jvm.MethodName)) ∈ am_tb := am_in 843 (by decide +kernel) rfl
theorem tw_844 : (Jvm.Cond.selects "ShadowTax" ({ cls := "ShadowTax", name := "write", desc := "(III)I" } : Jvm.MethodName) ({ cls := "ShadowTax", name := "write", desc := "(III)I" } : Jvm.MethodName)) ∈ am_tb := am_in 844 (by decide +kernel) rfl
theorem tw_845 : (Cond.code yX8_write cX8_write 4 (Option.some Jvm.ClassFile.FieldType.int)) ∈ am_tb := am_in 845 (by decide +kernel) rfl
theorem tw_846 : (Jvm.Cond.methodLink "ShadowTaxLaw" (114 : Nat) ({ cls := "ShadowTax", name := "tear", desc := "()I" } : Jvm.MethodName)) ∈ am_tb := am_in 846 (by decide +kernel) rfl
theorem tw_847 : (Jvm.Cond.instanceMethod ({ cls := "ShadowTax", name := "tear", desc := "()I" } : Jvm.MethodName)) ∈ am_tb := am_in 847 (by decide +kernel) rfl
theorem tw_848 : (Jvm.Cond.selects "ShadowTax" ({ cls := "ShadowTax", name := "tear", desc := "()I" } : Jvm.MethodName) ({ cls := "ShadowTax", name := "tear", desc := "()I" } : Jvm.MethodName)) ∈ am_tb := am_in 848 (by decide +kernel) rfl
theorem tw_849 : (Cond.code yX8_tear cX8_tear 2 (Option.some Jvm.ClassFile.FieldType.int)) ∈ am_tb := am_in 849 (by decide +kernel) rfl
theorem tw_850 : (Jvm.Cond.methodLink "ShadowTaxLaw" (118 : Nat) ({ cls := "ShadowTax", name := "judge", desc := "()I" } : Jvm.MethodName)) ∈ am_tb := am_in 850 (by decide +kernel) rfl
theorem tw_851 : (Jvm.Cond.instanceMethod ({ cls := "ShadowTax", name := "judge", desc := "()I" } : Jvm.MethodName)) ∈ am_tb := am_in 851 (by decide +kernel) rfl
theorem tw_852 : (Jvm.Cond.selects "ShadowTax" ({ cls := "ShadowTax", name := "judge", desc := "()I" } : Jvm.MethodName) ({ cls := "ShadowTax", name := "judge", desc := "()I" } : Jvm.MethodName)) ∈ am_tb := am_in 852 (by decide +kernel) rfl
theorem tw_853 : (Cond.code yX8_judge cX8_judge 4 (Option.some Jvm.ClassFile.FieldType.int)) ∈ am_tb := am_in 853 (by decide +kernel) rfl
theorem tw_854 : (Jvm.Cond.methodLink "ShadowTax" (271 : Nat) ({ cls := "ShadowTax$Rows", name := "first", desc := "(I)I" } : Jvm.MethodName)) ∈ am_tb := am_in 854 (by decide +kernel) rfl
theorem tw_855 : (Jvm.Cond.methodLink "ShadowTax" (274 : Nat) ({ cls := "ShadowTax$Rows", name := "second", desc := "(I)I" } : Jvm.MethodName)) ∈ am_tb := am_in 855 (by decide +kernel) rfl
theorem tw_856 : (Jvm.Cond.methodLink "ShadowTax" (277 : Nat) ({ cls := "ShadowTax", name := "owed", desc := "(II)I" } : Jvm.MethodName)) ∈ am_tb := am_in 856 (by decide +kernel) rfl
theorem tw_857 : (Jvm.Cond.methodLink "ShadowTax" (280 : Nat) ({ cls := "ShadowTax$Rows", name := "third", desc := "(I)I" } : Jvm.MethodName)) ∈ am_tb := am_in 857 (by decide +kernel) rfl
theorem tw_858 : (Jvm.Cond.methodLink "ShadowTaxLaw" (122 : Nat) ({ cls := "ShadowTax", name := "seed", desc := "(I)I" } : Jvm.MethodName)) ∈ am_tb := am_in 858 (by decide +kernel) rfl
theorem tw_859 : (Jvm.Cond.instanceMethod ({ cls := "ShadowTax", name := "seed", desc := "(I)I" } : Jvm.MethodName)) ∈ am_tb := am_in 859 (by decide +kernel) rfl
theorem tw_860 : (Jvm.Cond.selects "ShadowTax" ({ cls := "ShadowTax", name := "seed", desc := "(I)I" } : Jvm.MethodName) ({ cls := "ShadowTax", name := "seed", desc := "(I)I" } : Jvm.MethodName)) ∈ am_tb := am_in 860 (by decide +kernel) rfl
theorem tw_861 : (Cond.code yX8_seed cX8_seed 3 (Option.some Jvm.ClassFile.FieldType.int)) ∈ am_tb := am_in 861 (by decide +kernel) rfl
theorem tw_862 : (Jvm.Cond.methodLink "ShadowTaxLaw" (126 : Nat) ({ cls := "ShadowTax", name := "keep", desc := "(I)I" } : Jvm.MethodName)) ∈ am_tb := am_in 862 (by decide +kernel) rfl
theorem tw_863 : (Jvm.Cond.instanceMethod ({ cls := "ShadowTax", name := "keep", desc := "(I)I" } : Jvm.MethodName)) ∈ am_tb := am_in 863 (by decide +kernel) rfl
theorem tw_864 : (Jvm.Cond.selects "ShadowTax" ({ cls := "ShadowTax", name := "keep", desc := "(I)I" } : Jvm.MethodName) ({ cls := "ShadowTax", name := "keep", desc := "(I)I" } : Jvm.MethodName)) ∈ am_tb := am_in 864 (by decide +kernel) rfl
theorem tw_865 : (Cond.code yX8_keep cX8_keep 2 (Option.some Jvm.ClassFile.FieldType.int)) ∈ am_tb := am_in 865 (by decide +kernel) rfl
theorem tw_866 : (Jvm.Cond.methodLink "ShadowTax" (286 : Nat) ({ cls := "ShadowTax", name := "imageOf", desc := "(I)LShadowTax$State;" } : Jvm.MethodName)) ∈ am_tb := am_in 866 (by decide +kernel) rfl
theorem tw_868 : (Jvm.Cond.instanceMethod ({ cls := "ShadowTax", name := "imageOf", desc := "(I)LShadowTax$State;" } : Jvm.MethodName)) ∈ am_tb := am_in 868 (by decide +kernel) rfl
theorem tw_869 : (Cond.code yX8_imageOf cX8_imageOf 2 (Option.some (Jvm.ClassFile.FieldType.object "ShadowTax$State"))) ∈ am_tb := am_in 869 (by decide +kernel) rfl
theorem tw_870 : (Jvm.Cond.methodLink "ShadowTax" (290 : Nat) ({ cls := "ShadowTax$State", name := "copyFrom", desc := "(LShadowTax$State;)V" } : Jvm.MethodName)) ∈ am_tb := am_in 870 (by decide +kernel) rfl
theorem tw_871 : (Jvm.Cond.instanceMethod ({ cls := "ShadowTax$State", name := "copyFrom", desc := "(LShadowTax$State;)V" } : Jvm.MethodName)) ∈ am_tb := am_in 871 (by decide +kernel) rfl
theorem tw_872 : (Jvm.Cond.selects "ShadowTax$State" ({ cls := "ShadowTax$State", name := "copyFrom", desc := "(LShadowTax$State;)V" } : Jvm.MethodName) ({ cls := "ShadowTax$State", name := "copyFrom", desc := "(LShadowTax$State;)V" } : Jvm.MethodName)) ∈ am_tb := am_in 872 (by decide +kernel) rfl
theorem tw_873 : (Cond.code yX6_copyFrom cX6_copyFrom 3 (Option.none : Option Jvm.ClassFile.FieldType)) ∈ am_tb := am_in 873 (by decide +kernel) rfl
theorem tw_874 : (Jvm.Cond.methodLink "ShadowTaxLaw" (130 : Nat) ({ cls := "ShadowTax", name := "goBack", desc := "(I)I" } : Jvm.MethodName)) ∈ am_tb := am_in 874 (by decide +kernel) rfl
theorem tw_875 : (Jvm.Cond.instanceMethod ({ cls := "ShadowTax", name := "goBack", desc := "(I)I" } : Jvm.MethodName)) ∈ am_tb := am_in 875 (by decide +kernel) rfl
theorem tw_876 : (Jvm.Cond.selects "ShadowTax" ({ cls := "ShadowTax", name := "goBack", desc := "(I)I" } : Jvm.MethodName) ({ cls := "ShadowTax", name := "goBack", desc := "(I)I" } : Jvm.MethodName)) ∈ am_tb := am_in 876 (by decide +kernel) rfl
theorem tw_877 : (Cond.code yX8_goBack cX8_goBack 2 (Option.some Jvm.ClassFile.FieldType.int)) ∈ am_tb := am_in 877 (by decide +kernel) rfl
theorem tw_878 : (Jvm.Cond.classLink "ShadowTaxLaw" (10 : Nat) "ShadowTaxModel") ∈ am_tb := am_in 878 (by decide +kernel) rfl
theorem tw_879 : (Jvm.Cond.instantiable "ShadowTaxModel" (61 : Nat)) ∈ am_tb := am_in 879 (by decide +kernel) rfl
theorem tw_880 : (Jvm.Cond.methodLink "ShadowTaxLaw" (12 : Nat) ({ cls := "ShadowTaxModel", name := "<init>", desc := "()V" } : Jvm.MethodName)) ∈ am_tb := am_in 880 (by decide +kernel) rfl
theorem tw_881 : (Jvm.Cond.instanceMethod ({ cls := "ShadowTaxModel", name := "<init>", desc := "()V" } : Jvm.MethodName)) ∈ am_tb := am_in 881 (by decide +kernel) rfl
theorem tw_882 : (Cond.code yX9_init cX9_init 1 (Option.none : Option Jvm.ClassFile.FieldType)) ∈ am_tb := am_in 882 (by decide +kernel) rfl
theorem tw_883 : (Jvm.Cond.methodLink "ShadowTaxModel" (1 : Nat) ({ cls := "java/lang/Object", name := "<init>", desc := "()V" } : Jvm.MethodName)) ∈ am_tb := am_in 883 (by decide +kernel) rfl
theorem tw_884 : (Jvm.Cond.fieldLink "ShadowTaxModel" (120 : Nat) "ShadowTaxModel" "wide" "I") ∈ am_tb := am_in 884 (by decide +kernel) rfl
theorem tw_885 : (Jvm.Cond.fieldLink "ShadowTaxModel" (127 : Nat) "ShadowTaxModel" "deep" "I") ∈ am_tb := am_in 885 (by decide +kernel) rfl
theorem tw_886 : (Jvm.Cond.fieldLink "ShadowTaxModel" (7 : Nat) "ShadowTaxModel" "house" "[I") ∈ am_tb := am_in 886 (by decide +kernel) rfl
theorem tw_887 : (Jvm.Cond.fieldLink "ShadowTaxModel" (133 : Nat) "ShadowTaxModel" "hours" "I") ∈ am_tb := am_in 887 (by decide +kernel) rfl
theorem tw_888 : (Jvm.Cond.fieldLink "ShadowTaxModel" (13 : Nat) "ShadowTaxModel" "goX" "[I") ∈ am_tb := am_in 888 (by decide +kernel) rfl
theorem tw_889 : (Jvm.Cond.fieldLink "ShadowTaxModel" (16 : Nat) "ShadowTaxModel" "goY" "[I") ∈ am_tb := am_in 889 (by decide +kernel) rfl
theorem tw_890 : (Jvm.Cond.fieldLink "ShadowTaxModel" (19 : Nat) "ShadowTaxModel" "length" "[I") ∈ am_tb := am_in 890 (by decide +kernel) rfl
theorem tw_891 : (Jvm.Cond.fieldLink "ShadowTaxModel" (22 : Nat) "ShadowTaxModel" "share" "[I") ∈ am_tb := am_in 891 (by decide +kernel) rfl
theorem tw_892 : (Jvm.Cond.fieldLink "ShadowTaxModel" (130 : Nat) "ShadowTaxModel" "persons" "I") ∈ am_tb := am_in 892 (by decide +kernel) rfl
theorem tw_893 : (Jvm.Cond.fieldLink "ShadowTaxModel" (25 : Nat) "ShadowTaxModel" "at" "[I") ∈ am_tb := am_in 893 (by decide +kernel) rfl
theorem tw_894 : (Jvm.Cond.fieldLink "ShadowTaxModel" (28 : Nat) "ShadowTaxModel" "tall" "[I") ∈ am_tb := am_in 894 (by decide +kernel) rfl
theorem tw_895 : (Jvm.Cond.fieldLink "ShadowTaxModel" (31 : Nat) "ShadowTaxModel" "isFolded" "[Z") ∈ am_tb := am_in 895 (by decide +kernel) rfl
theorem tw_896 : (Jvm.Cond.fieldLink "ShadowTaxModel" (35 : Nat) "ShadowTaxModel" "purse" "[I") ∈ am_tb := am_in 896 (by decide +kernel) rfl
theorem tw_897 : (Jvm.Cond.fieldLink "ShadowTaxModel" (249 : Nat) "ShadowTaxModel" "grey" "I") ∈ am_tb := am_in 897 (by decide +kernel) rfl
theorem tw_898 : (Jvm.Cond.fieldLink "ShadowTaxModel" (252 : Nat) "ShadowTaxModel" "treasury" "I") ∈ am_tb := am_in 898 (by decide +kernel) rfl
theorem tw_899 : (Jvm.Cond.fieldLink "ShadowTaxModel" (285 : Nat) "ShadowTaxModel" "law" "I") ∈ am_tb := am_in 899 (by decide +kernel) rfl
theorem tw_900 : (Jvm.Cond.fieldLink "ShadowTaxModel" (339 : Nat) "ShadowTaxModel" "seed" "I") ∈ am_tb := am_in 900 (by decide +kernel) rfl
theorem tw_901 : (Jvm.Cond.fieldLink "ShadowTaxModel" (38 : Nat) "ShadowTaxModel" "text" "[I") ∈ am_tb := am_in 901 (by decide +kernel) rfl
theorem tw_902 : (Jvm.Cond.fieldLink "ShadowTaxModel" (139 : Nat) "ShadowTaxModel" "texted" "I") ∈ am_tb := am_in 902 (by decide +kernel) rfl
theorem tw_903 : (Jvm.Cond.fieldLink "ShadowTaxModel" (41 : Nat) "ShadowTaxModel" "faultPlace" "I") ∈ am_tb := am_in 903 (by decide +kernel) rfl
theorem tw_904 : (Jvm.Cond.fieldLink "ShadowTaxModel" (145 : Nat) "ShadowTaxModel" "at0" "I") ∈ am_tb := am_in 904 (by decide +kernel) rfl
theorem tw_905 : (Jvm.Cond.fieldLink "ShadowTaxModel" (152 : Nat) "ShadowTaxModel" "said" "J") ∈ am_tb := am_in 905 (by decide +kernel) rfl
theorem tw_906 : (Jvm.Cond.fieldLink "ShadowTaxModel" (156 : Nat) "ShadowTaxModel" "wordEnd" "I") ∈ am_tb := am_in 906 (by decide +kernel) rfl
theorem tw_907 : (Jvm.Cond.fieldLink "ShadowTaxModel" (182 : Nat) "ShadowTaxModel" "number" "I") ∈ am_tb := am_in 907 (by decide +kernel) rfl
theorem tw_908 : (Jvm.Cond.fieldLink "ShadowTaxModel" (179 : Nat) "ShadowTaxModel" "numberAt" "I") ∈ am_tb := am_in 908 (by decide +kernel) rfl
theorem tw_909 : (Jvm.Cond.fieldLink "ShadowTaxModel" (188 : Nat) "ShadowTaxModel" "readWide" "I") ∈ am_tb := am_in 909 (by decide +kernel) rfl
theorem tw_910 : (Jvm.Cond.fieldLink "ShadowTaxModel" (191 : Nat) "ShadowTaxModel" "readDeep" "I") ∈ am_tb := am_in 910 (by decide +kernel) rfl
theorem tw_911 : (Jvm.Cond.fieldLink "ShadowTaxModel" (200 : Nat) "ShadowTaxModel" "readHouses" "I") ∈ am_tb := am_in 911 (by decide +kernel) rfl
theorem tw_912 : (Jvm.Cond.fieldLink "ShadowTaxModel" (45 : Nat) "ShadowTaxModel" "readHouse" "[I") ∈ am_tb := am_in 912 (by decide +kernel) rfl
theorem tw_913 : (Jvm.Cond.fieldLink "ShadowTaxModel" (214 : Nat) "ShadowTaxModel" "readHours" "I") ∈ am_tb := am_in 913 (by decide +kernel) rfl
theorem tw_914 : (Jvm.Cond.fieldLink "ShadowTaxModel" (48 : Nat) "ShadowTaxModel" "readX" "[I") ∈ am_tb := am_in 914 (by decide +kernel) rfl
theorem tw_915 : (Jvm.Cond.fieldLink "ShadowTaxModel" (51 : Nat) "ShadowTaxModel" "readY" "[I") ∈ am_tb := am_in 915 (by decide +kernel) rfl
theorem tw_916 : (Jvm.Cond.fieldLink "ShadowTaxModel" (54 : Nat) "ShadowTaxModel" "readLong" "[I") ∈ am_tb := am_in 916 (by decide +kernel) rfl
theorem tw_917 : (Jvm.Cond.fieldLink "ShadowTaxModel" (57 : Nat) "ShadowTaxModel" "readShare" "[I") ∈ am_tb := am_in 917 (by decide +kernel) rfl
theorem tw_918 : (Jvm.Cond.fieldLink "ShadowTaxModel" (197 : Nat) "ShadowTaxModel" "readPersons" "I") ∈ am_tb := am_in 918 (by decide +kernel) rfl
theorem tw_919 : (Jvm.Cond.fieldLink "ShadowTaxModel" (60 : Nat) "ShadowTaxModel" "readAt" "[I") ∈ am_tb := am_in 919 (by decide +kernel) rfl
theorem tw_920 : (Jvm.Cond.fieldLink "ShadowTaxModel" (63 : Nat) "ShadowTaxModel" "readTall" "[I") ∈ am_tb := am_in 920 (by decide +kernel) rfl
theorem tw_921 : (Jvm.Cond.fieldLink "ShadowTaxModel" (217 : Nat) "ShadowTaxModel" "readGrey" "I") ∈ am_tb := am_in 921 (by decide +kernel) rfl
theorem tw_922 : (Jvm.Cond.fieldLink "ShadowTaxModel" (194 : Nat) "ShadowTaxModel" "cellRead" "I") ∈ am_tb := am_in 922 (by decide +kernel) rfl
theorem tw_923 : (Jvm.Cond.fieldLink "ShadowTaxModel" (66 : Nat) "ShadowTaxModel" "noShadow" "I") ∈ am_tb := am_in 923 (by decide +kernel) rfl
theorem tw_924 : (Jvm.Cond.fieldLink "ShadowTaxModel" (69 : Nat) "ShadowTaxModel" "coupled" "I") ∈ am_tb := am_in 924 (by decide +kernel) rfl
theorem tw_925 : (Jvm.Cond.fieldLink "ShadowTaxModel" (274 : Nat) "ShadowTaxModel" "coupledTall" "I") ∈ am_tb := am_in 925 (by decide +kernel) rfl
theorem tw_926 : (Jvm.Cond.fieldLink "ShadowTaxModel" (72 : Nat) "ShadowTaxModel" "due" "[I") ∈ am_tb := am_in 926 (by decide +kernel) rfl
theorem tw_927 : (Jvm.Cond.fieldLink "ShadowTaxModel" (255 : Nat) "ShadowTaxModel" "errands" "I") ∈ am_tb := am_in 927 (by decide +kernel) rfl
theorem tw_928 : (Jvm.Cond.fieldLink "ShadowTaxModel" (75 : Nat) "ShadowTaxModel" "errandWho" "[I") ∈ am_tb := am_in 928 (by decide +kernel) rfl
theorem tw_929 : (Jvm.Cond.fieldLink "ShadowTaxModel" (78 : Nat) "ShadowTaxModel" "errandAt" "[I") ∈ am_tb := am_in 929 (by decide +kernel) rfl
theorem tw_930 : (Jvm.Cond.fieldLink "ShadowTaxModel" (81 : Nat) "ShadowTaxModel" "errandHour" "[I") ∈ am_tb := am_in 930 (by decide +kernel) rfl
theorem tw_931 : (Jvm.Cond.fieldLink "ShadowTaxModel" (84 : Nat) "ShadowTaxModel" "taxAt" "[I") ∈ am_tb := am_in 931 (by decide +kernel) rfl
theorem tw_932 : (Jvm.Cond.fieldLink "ShadowTaxModel" (87 : Nat) "ShadowTaxModel" "restAt" "[I") ∈ am_tb := am_in 932 (by decide +kernel) rfl
theorem tw_933 : (Jvm.Cond.fieldLink "ShadowTaxModel" (90 : Nat) "ShadowTaxModel" "worths" "[I") ∈ am_tb := am_in 933 (by decide +kernel) rfl
theorem tw_934 : (Jvm.Cond.fieldLink "ShadowTaxModel" (93 : Nat) "ShadowTaxModel" "partner" "[I") ∈ am_tb := am_in 934 (by decide +kernel) rfl
theorem tw_935 : (Jvm.Cond.fieldLink "ShadowTaxModel" (96 : Nat) "ShadowTaxModel" "bestPartner" "[I") ∈ am_tb := am_in 935 (by decide +kernel) rfl
theorem tw_936 : (Jvm.Cond.fieldLink "ShadowTaxModel" (258 : Nat) "ShadowTaxModel" "tells" "I") ∈ am_tb := am_in 936 (by decide +kernel) rfl
theorem tw_937 : (Jvm.Cond.fieldLink "ShadowTaxModel" (99 : Nat) "ShadowTaxModel" "tellHour" "[I") ∈ am_tb := am_in 937 (by decide +kernel) rfl
theorem tw_938 : (Jvm.Cond.fieldLink "ShadowTaxModel" (102 : Nat) "ShadowTaxModel" "tellSum" "[I") ∈ am_tb := am_in 938 (by decide +kernel) rfl
theorem tw_939 : (Jvm.Cond.fieldLink "ShadowTaxModel" (261 : Nat) "ShadowTaxModel" "booked" "I") ∈ am_tb := am_in 939 (by decide +kernel) rfl
theorem tw_940 : (Jvm.Cond.fieldLink "ShadowTaxModel" (105 : Nat) "ShadowTaxModel" "bookHour" "[I") ∈ am_tb := am_in 940 (by decide +kernel) rfl
theorem tw_941 : (Jvm.Cond.fieldLink "ShadowTaxModel" (108 : Nat) "ShadowTaxModel" "bookWho" "[I") ∈ am_tb := am_in 941 (by decide +kernel) rfl
theorem tw_942 : (Jvm.Cond.fieldLink "ShadowTaxModel" (111 : Nat) "ShadowTaxModel" "bookSum" "[I") ∈ am_tb := am_in 942 (by decide +kernel) rfl
theorem tw_943 : (Jvm.Cond.fieldLink "ShadowTaxModel" (114 : Nat) "ShadowTaxModel" "images" "[I") ∈ am_tb := am_in 943 (by decide +kernel) rfl
theorem tw_944 : (Jvm.Cond.fieldLink "ShadowTaxModel" (117 : Nat) "ShadowTaxModel" "isKept" "[Z") ∈ am_tb := am_in 944 (by decide +kernel) rfl
theorem tw_1068 : (Jvm.Cond.arrayClass Jvm.ClassFile.FieldType.boolean) ∈ am_tb := am_in 1068 (by decide +kernel) rfl
theorem tw_1069 : (Jvm.Cond.methodLink "ShadowTaxLaw" (19 : Nat) ({ cls := "ShadowTaxModel", name := "feed", desc := "(IJ)I" } : Jvm.MethodName)) ∈ am_tb := am_in 1069 (by decide +kernel) rfl
theorem tw_1070 : (Jvm.Cond.instanceMethod ({ cls := "ShadowTaxModel", name := "feed", desc := "(IJ)I" } : Jvm.MethodName)) ∈ am_tb := am_in 1070 (by decide +kernel) rfl
theorem tw_1071 : (Jvm.Cond.selects "ShadowTaxModel" ({ cls := "ShadowTaxModel", name := "feed", desc := "(IJ)I" } : Jvm.MethodName) ({ cls := "ShadowTaxModel", name := "feed", desc := "(IJ)I" } : Jvm.MethodName)) ∈ am_tb := am_in 1071 (by decide +kernel) rfl
theorem tw_1072 : (Cond.code yX9_feed cX9_feed 5 (Option.some Jvm.ClassFile.FieldType.int)) ∈ am_tb := am_in 1072 (by decide +kernel) rfl
theorem tw_1073 : (Jvm.Cond.constantLong "ShadowTaxModel" (136 : Nat) (8 : Int64)) ∈ am_tb := am_in 1073 (by decide +kernel) rfl
theorem tw_1074 : (Jvm.Cond.methodLink "ShadowTaxModel" (123 : Nat) ({ cls := "ShadowTaxModel", name := "in", desc := "(JJJ)Z" } : Jvm.MethodName)) ∈ am_tb := am_in 1074 (by decide +kernel) rfl
theorem tw_1075 : (Jvm.Cond.static ({ cls := "ShadowTaxModel", name := "in", desc := "(JJJ)Z" } : Jvm.MethodName)) ∈ am_tb := am_in 1075 (by decide +kernel) rfl
theorem tw_1076 : (Cond.code yX9_in cX9_in 6 (Option.some Jvm.ClassFile.FieldType.boolean)) ∈ am_tb := am_in 1076 (by decide +kernel) rfl
theorem tw_1077 : (Jvm.Cond.constant "ShadowTaxModel" (138 : Nat) (-1000000002 : Int32)) ∈ am_tb := am_in 1077 (by decide +kernel) rfl
theorem tw_1078 : (Jvm.Cond.constant "ShadowTaxModel" (142 : Nat) (-1000000004 : Int32)) ∈ am_tb := am_in 1078 (by decide +kernel) rfl
theorem tw_1079 : (Jvm.Cond.constantLong "ShadowTaxModel" (143 : Nat) (255 : Int64)) ∈ am_tb := am_in 1079 (by decide +kernel) rfl
theorem tw_1080 : (Jvm.Cond.methodLink "ShadowTaxLaw" (24 : Nat) ({ cls := "ShadowTaxModel", name := "ground", desc := "()I" } : Jvm.MethodName)) ∈ am_tb := am_in 1080 (by decide +kernel) rfl
theorem tw_1081 : (Jvm.Cond.instanceMethod ({ cls := "ShadowTaxModel", name := "ground", desc := "()I" } : Jvm.MethodName)) ∈ am_tb := am_in 1081 (by decide +kernel) rfl
theorem tw_1082 : (Jvm.Cond.selects "ShadowTaxModel" ({ cls := "ShadowTaxModel", name := "ground", desc := "()I" } : Jvm.MethodName) ({ cls := "ShadowTaxModel", name := "ground", desc := "()I" } : Jvm.MethodName)) ∈ am_tb := am_in 1082 (by decide +kernel) rfl
theorem tw_1083 : (Cond.code yX9_ground cX9_ground 3 (Option.some Jvm.ClassFile.FieldType.int)) ∈ am_tb := am_in 1083 (by decide +kernel) rfl
theorem tw_1084 : (Jvm.Cond.methodLink "ShadowTaxModel" (148 : Nat) ({ cls := "ShadowTaxModel", name := "here", desc := "()I" } : Jvm.MethodName)) ∈ am_tb := am_in 1084 (by decide +kernel) rfl
theorem tw_1086 : (Jvm.Cond.instanceMethod ({ cls := "ShadowTaxModel", name := "here", desc := "()I" } : Jvm.MethodName)) ∈ am_tb := am_in 1086 (by decide +kernel) rfl
theorem tw_1087 : (Cond.code yX9_here cX9_here 1 (Option.some Jvm.ClassFile.FieldType.int)) ∈ am_tb := am_in 1087 (by decide +kernel) rfl
theorem tw_1088 : (Jvm.Cond.methodLink "ShadowTaxModel" (246 : Nat) ({ cls := "ShadowTaxModel", name := "takeClause", desc := "()I" } : Jvm.MethodName)) ∈ am_tb := am_in 1088 (by decide +kernel) rfl
theorem tw_1090 : (Jvm.Cond.instanceMethod ({ cls := "ShadowTaxModel", name := "takeClause", desc := "()I" } : Jvm.MethodName)) ∈ am_tb := am_in 1090 (by decide +kernel) rfl
theorem tw_1091 : (Cond.code yX9_takeClause cX9_takeClause 5 (Option.some Jvm.ClassFile.FieldType.int)) ∈ am_tb := am_in 1091 (by decide +kernel) rfl
theorem tw_1092 : (Jvm.Cond.methodLink "ShadowTaxModel" (220 : Nat) ({ cls := "ShadowTaxModel", name := "readWord", desc := "()V" } : Jvm.MethodName)) ∈ am_tb := am_in 1092 (by decide +kernel) rfl
theorem tw_1094 : (Jvm.Cond.instanceMethod ({ cls := "ShadowTaxModel", name := "readWord", desc := "()V" } : Jvm.MethodName)) ∈ am_tb := am_in 1094 (by decide +kernel) rfl
theorem tw_1095 : (Cond.code yX9_readWord cX9_readWord 2 (Option.none : Option Jvm.ClassFile.FieldType)) ∈ am_tb := am_in 1095 (by decide +kernel) rfl
theorem tw_1096 : (Jvm.Cond.constantLong "ShadowTaxModel" (159 : Nat) (97 : Int64)) ∈ am_tb := am_in 1096 (by decide +kernel) rfl
theorem tw_1097 : (Jvm.Cond.constantLong "ShadowTaxModel" (161 : Nat) (122 : Int64)) ∈ am_tb := am_in 1097 (by decide +kernel) rfl
theorem tw_1098 : (Jvm.Cond.constantLong "ShadowTaxModel" (163 : Nat) (10000000000000 : Int64)) ∈ am_tb := am_in 1098 (by decide +kernel) rfl
theorem tw_1099 : (Jvm.Cond.constantLong "ShadowTaxModel" (165 : Nat) (20000000000000 : Int64)) ∈ am_tb := am_in 1099 (by decide +kernel) rfl
theorem tw_1100 : (Jvm.Cond.constantLong "ShadowTaxModel" (167 : Nat) (27 : Int64)) ∈ am_tb := am_in 1100 (by decide +kernel) rfl
theorem tw_1101 : (Jvm.Cond.constantLong "ShadowTaxModel" (169 : Nat) (96 : Int64)) ∈ am_tb := am_in 1101 (by decide +kernel) rfl
theorem tw_1102 : (Jvm.Cond.methodLink "ShadowTaxModel" (223 : Nat) ({ cls := "ShadowTaxModel", name := "code", desc := "(III)J" } : Jvm.MethodName)) ∈ am_tb := am_in 1102 (by decide +kernel) rfl
theorem tw_1103 : (Jvm.Cond.static ({ cls := "ShadowTaxModel", name := "code", desc := "(III)J" } : Jvm.MethodName)) ∈ am_tb := am_in 1103 (by decide +kernel) rfl
theorem tw_1104 : (Cond.code yX9_code cX9_code 3 (Option.some Jvm.ClassFile.FieldType.long)) ∈ am_tb := am_in 1104 (by decide +kernel) rfl
theorem tw_1105 : (Jvm.Cond.methodLink "ShadowTaxModel" (227 : Nat) ({ cls := "ShadowTaxModel", name := "longer", desc := "(JII)J" } : Jvm.MethodName)) ∈ am_tb := am_in 1105 (by decide +kernel) rfl
theorem tw_1106 : (Jvm.Cond.static ({ cls := "ShadowTaxModel", name := "longer", desc := "(JII)J" } : Jvm.MethodName)) ∈ am_tb := am_in 1106 (by decide +kernel) rfl
theorem tw_1107 : (Cond.code yX9_longer cX9_longer 4 (Option.some Jvm.ClassFile.FieldType.long)) ∈ am_tb := am_in 1107 (by decide +kernel) rfl
theorem tw_1108 : (Jvm.Cond.methodLink "ShadowTaxModel" (175 : Nat) ({ cls := "ShadowTaxModel", name := "fails", desc := "(II)I" } : Jvm.MethodName)) ∈ am_tb := am_in 1108 (by decide +kernel) rfl
theorem tw_1110 : (Jvm.Cond.instanceMethod ({ cls := "ShadowTaxModel", name := "fails", desc := "(II)I" } : Jvm.MethodName)) ∈ am_tb := am_in 1110 (by decide +kernel) rfl
theorem tw_1111 : (Cond.code yX9_fails cX9_fails 3 (Option.some Jvm.ClassFile.FieldType.int)) ∈ am_tb := am_in 1111 (by decide +kernel) rfl
theorem tw_1112 : (Jvm.Cond.methodLink "ShadowTaxModel" (231 : Nat) ({ cls := "ShadowTaxModel", name := "takeGround", desc := "()I" } : Jvm.MethodName)) ∈ am_tb := am_in 1112 (by decide +kernel) rfl
theorem tw_1114 : (Jvm.Cond.instanceMethod ({ cls := "ShadowTaxModel", name := "takeGround", desc := "()I" } : Jvm.MethodName)) ∈ am_tb := am_in 1114 (by decide +kernel) rfl
theorem tw_1115 : (Cond.code yX9_takeGround cX9_takeGround 3 (Option.some Jvm.ClassFile.FieldType.int)) ∈ am_tb := am_in 1115 (by decide +kernel) rfl
theorem tw_1116 : (Jvm.Cond.methodLink "ShadowTaxModel" (185 : Nat) ({ cls := "ShadowTaxModel", name := "takeNumber", desc := "(II)I" } : Jvm.MethodName)) ∈ am_tb := am_in 1116 (by decide +kernel) rfl
theorem tw_1118 : (Jvm.Cond.instanceMethod ({ cls := "ShadowTaxModel", name := "takeNumber", desc := "(II)I" } : Jvm.MethodName)) ∈ am_tb := am_in 1118 (by decide +kernel) rfl
theorem tw_1119 : (Cond.code yX9_takeNumber cX9_takeNumber 4 (Option.some Jvm.ClassFile.FieldType.int)) ∈ am_tb := am_in 1119 (by decide +kernel) rfl
theorem tw_1120 : (Jvm.Cond.constantLong "ShadowTaxModel" (171 : Nat) (48 : Int64)) ∈ am_tb := am_in 1120 (by decide +kernel) rfl
theorem tw_1121 : (Jvm.Cond.constantLong "ShadowTaxModel" (173 : Nat) (57 : Int64)) ∈ am_tb := am_in 1121 (by decide +kernel) rfl
theorem tw_1122 : (Jvm.Cond.methodLink "ShadowTaxModel" (234 : Nat) ({ cls := "ShadowTaxModel", name := "takeHouse", desc := "()I" } : Jvm.MethodName)) ∈ am_tb := am_in 1122 (by decide +kernel) rfl
theorem tw_1124 : (Jvm.Cond.instanceMethod ({ cls := "ShadowTaxModel", name := "takeHouse", desc := "()I" } : Jvm.MethodName)) ∈ am_tb := am_in 1124 (by decide +kernel) rfl
theorem tw_1125 : (Cond.code yX9_takeHouse cX9_takeHouse 2 (Option.some Jvm.ClassFile.FieldType.int)) ∈ am_tb := am_in 1125 (by decide +kernel) rfl
theorem tw_1126 : (Jvm.Cond.methodLink "ShadowTaxModel" (203 : Nat) ({ cls := "ShadowTaxModel", name := "takeCell", desc := "()I" } : Jvm.MethodName)) ∈ am_tb := am_in 1126 (by decide +kernel) rfl
theorem tw_1128 : (Jvm.Cond.instanceMethod ({ cls := "ShadowTaxModel", name := "takeCell", desc := "()I" } : Jvm.MethodName)) ∈ am_tb := am_in 1128 (by decide +kernel) rfl
theorem tw_1129 : (Cond.code yX9_takeCell cX9_takeCell 3 (Option.some Jvm.ClassFile.FieldType.int)) ∈ am_tb := am_in 1129 (by decide +kernel) rfl
theorem tw_1130 : (Jvm.Cond.methodLink "ShadowTaxModel" (206 : Nat) ({ cls := "ShadowTaxModel", name := "isReadPerson", desc := "(I)Z" } : Jvm.MethodName)) ∈ am_tb := am_in 1130 (by decide +kernel) rfl
theorem tw_1132 : (Jvm.Cond.instanceMethod ({ cls := "ShadowTaxModel", name := "isReadPerson", desc := "(I)Z" } : Jvm.MethodName)) ∈ am_tb := am_in 1132 (by decide +kernel) rfl
theorem tw_1133 : (Cond.code yX9_isReadPerson cX9_isReadPerson 4 (Option.some Jvm.ClassFile.FieldType.boolean)) ∈ am_tb := am_in 1133 (by decide +kernel) rfl
theorem tw_1134 : (Jvm.Cond.methodLink "ShadowTaxModel" (210 : Nat) ({ cls := "ShadowTaxModel", name := "into", desc := "([IIII)I" } : Jvm.MethodName)) ∈ am_tb := am_in 1134 (by decide +kernel) rfl
theorem tw_1136 : (Jvm.Cond.instanceMethod ({ cls := "ShadowTaxModel", name := "into", desc := "([IIII)I" } : Jvm.MethodName)) ∈ am_tb := am_in 1136 (by decide +kernel) rfl
theorem tw_1137 : (Cond.code yX9_into cX9_into 6 (Option.some Jvm.ClassFile.FieldType.int)) ∈ am_tb := am_in 1137 (by decide +kernel) rfl
theorem tw_1138 : (Jvm.Cond.methodLink "ShadowTaxModel" (237 : Nat) ({ cls := "ShadowTaxModel", name := "takeSun", desc := "()I" } : Jvm.MethodName)) ∈ am_tb := am_in 1138 (by decide +kernel) rfl
theorem tw_1140 : (Jvm.Cond.instanceMethod ({ cls := "ShadowTaxModel", name := "takeSun", desc := "()I" } : Jvm.MethodName)) ∈ am_tb := am_in 1140 (by decide +kernel) rfl
theorem tw_1141 : (Cond.code yX9_takeSun cX9_takeSun 3 (Option.some Jvm.ClassFile.FieldType.int)) ∈ am_tb := am_in 1141 (by decide +kernel) rfl
theorem tw_1142 : (Jvm.Cond.methodLink "ShadowTaxModel" (240 : Nat) ({ cls := "ShadowTaxModel", name := "takePerson", desc := "()I" } : Jvm.MethodName)) ∈ am_tb := am_in 1142 (by decide +kernel) rfl
theorem tw_1144 : (Jvm.Cond.instanceMethod ({ cls := "ShadowTaxModel", name := "takePerson", desc := "()I" } : Jvm.MethodName)) ∈ am_tb := am_in 1144 (by decide +kernel) rfl
theorem tw_1145 : (Cond.code yX9_takePerson cX9_takePerson 2 (Option.some Jvm.ClassFile.FieldType.int)) ∈ am_tb := am_in 1145 (by decide +kernel) rfl
theorem tw_1146 : (Jvm.Cond.methodLink "ShadowTaxModel" (243 : Nat) ({ cls := "ShadowTaxModel", name := "takeGrey", desc := "()I" } : Jvm.MethodName)) ∈ am_tb := am_in 1146 (by decide +kernel) rfl
theorem tw_1148 : (Jvm.Cond.instanceMethod ({ cls := "ShadowTaxModel", name := "takeGrey", desc := "()I" } : Jvm.MethodName)) ∈ am_tb := am_in 1148 (by decide +kernel) rfl
theorem tw_1149 : (Cond.code yX9_takeGrey cX9_takeGrey 2 (Option.some Jvm.ClassFile.FieldType.int)) ∈ am_tb := am_in 1149 (by decide +kernel) rfl
theorem tw_1150 : (Jvm.Cond.methodLink "ShadowTaxModel" (264 : Nat) ({ cls := "ShadowTaxModel", name := "cells", desc := "()I" } : Jvm.MethodName)) ∈ am_tb := am_in 1150 (by decide +kernel) rfl
theorem tw_1152 : (Jvm.Cond.instanceMethod ({ cls := "ShadowTaxModel", name := "cells", desc := "()I" } : Jvm.MethodName)) ∈ am_tb := am_in 1152 (by decide +kernel) rfl
theorem tw_1153 : (Cond.code yX9_cells cX9_cells 1 (Option.some Jvm.ClassFile.FieldType.int)) ∈ am_tb := am_in 1153 (by decide +kernel) rfl
theorem tw_1154 : (Jvm.Cond.methodLink "ShadowTaxLaw" (28 : Nat) ({ cls := "ShadowTaxModel", name := "fault", desc := "()I" } : Jvm.MethodName)) ∈ am_tb := am_in 1154 (by decide +kernel) rfl
theorem tw_1155 : (Jvm.Cond.instanceMethod ({ cls := "ShadowTaxModel", name := "fault", desc := "()I" } : Jvm.MethodName)) ∈ am_tb := am_in 1155 (by decide +kernel) rfl
theorem tw_1156 : (Jvm.Cond.selects "ShadowTaxModel" ({ cls := "ShadowTaxModel", name := "fault", desc := "()I" } : Jvm.MethodName) ({ cls := "ShadowTaxModel", name := "fault", desc := "()I" } : Jvm.MethodName)) ∈ am_tb := am_in 1156 (by decide +kernel) rfl
theorem tw_1157 : (Cond.code yX9_fault cX9_fault 1 (Option.some Jvm.ClassFile.FieldType.int)) ∈ am_tb := am_in 1157 (by decide +kernel) rfl
theorem tw_1158 : (Jvm.Cond.methodLink "ShadowTaxLaw" (33 : Nat) ({ cls := "ShadowTaxModel", name := "told", desc := "(I)I" } : Jvm.MethodName)) ∈ am_tb := am_in 1158 (by decide +kernel) rfl
theorem tw_1159 : (Jvm.Cond.instanceMethod ({ cls := "ShadowTaxModel", name := "told", desc := "(I)I" } : Jvm.MethodName)) ∈ am_tb := am_in 1159 (by decide +kernel) rfl
theorem tw_1160 : (Jvm.Cond.selects "ShadowTaxModel" ({ cls := "ShadowTaxModel", name := "told", desc := "(I)I" } : Jvm.MethodName) ({ cls := "ShadowTaxModel", name := "told", desc := "(I)I" } : Jvm.MethodName)) ∈ am_tb := am_in 1160 (by decide +kernel) rfl
theorem tw_1161 : (Cond.code yX9_told cX9_told 2 (Option.some Jvm.ClassFile.FieldType.int)) ∈ am_tb := am_in 1161 (by decide +kernel) rfl
theorem tw_1162 : (Jvm.Cond.methodLink "ShadowTaxModel" (311 : Nat) ({ cls := "ShadowTaxModel", name := "meanOfAll", desc := "()I" } : Jvm.MethodName)) ∈ am_tb := am_in 1162 (by decide +kernel) rfl
theorem tw_1164 : (Jvm.Cond.instanceMethod ({ cls := "ShadowTaxModel", name := "meanOfAll", desc := "()I" } : Jvm.MethodName)) ∈ am_tb := am_in 1164 (by decide +kernel) rfl
theorem tw_1165 : (Cond.code yX9_meanOfAll cX9_meanOfAll 3 (Option.some Jvm.ClassFile.FieldType.int)) ∈ am_tb := am_in 1165 (by decide +kernel) rfl
theorem tw_1166 : (Jvm.Cond.methodLink "ShadowTaxModel" (308 : Nat) ({ cls := "ShadowTaxModel", name := "meanOf", desc := "(I)I" } : Jvm.MethodName)) ∈ am_tb := am_in 1166 (by decide +kernel) rfl
theorem tw_1168 : (Jvm.Cond.instanceMethod ({ cls := "ShadowTaxModel", name := "meanOf", desc := "(I)I" } : Jvm.MethodName)) ∈ am_tb := am_in 1168 (by decide +kernel) rfl
theorem tw_1169 : (Cond.code yX9_meanOf cX9_meanOf 4 (Option.some Jvm.ClassFile.FieldType.int)) ∈ am_tb := am_in 1169 (by decide +kernel) rfl
theorem tw_1170 : (Jvm.Cond.methodLink "ShadowTaxModel" (305 : Nat) ({ cls := "ShadowTaxModel", name := "owedAt", desc := "(II)I" } : Jvm.MethodName)) ∈ am_tb := am_in 1170 (by decide +kernel) rfl
theorem tw_1172 : (Jvm.Cond.instanceMethod ({ cls := "ShadowTaxModel", name := "owedAt", desc := "(II)I" } : Jvm.MethodName)) ∈ am_tb := am_in 1172 (by decide +kernel) rfl
theorem tw_1173 : (Cond.code yX9_owedAt cX9_owedAt 8 (Option.some Jvm.ClassFile.FieldType.int)) ∈ am_tb := am_in 1173 (by decide +kernel) rfl
theorem tw_1174 : (Jvm.Cond.methodLink "ShadowTaxModel" (288 : Nat) ({ cls := "ShadowTaxModel", name := "darkAt", desc := "(I)J" } : Jvm.MethodName)) ∈ am_tb := am_in 1174 (by decide +kernel) rfl
theorem tw_1176 : (Jvm.Cond.instanceMethod ({ cls := "ShadowTaxModel", name := "darkAt", desc := "(I)J" } : Jvm.MethodName)) ∈ am_tb := am_in 1176 (by decide +kernel) rfl
theorem tw_1177 : (Cond.code yX9_darkAt cX9_darkAt 5 (Option.some Jvm.ClassFile.FieldType.long)) ∈ am_tb := am_in 1177 (by decide +kernel) rfl
theorem tw_1178 : (Jvm.Cond.methodLink "ShadowTaxModel" (271 : Nat) ({ cls := "ShadowTaxModel", name := "shadowOf", desc := "(III)J" } : Jvm.MethodName)) ∈ am_tb := am_in 1178 (by decide +kernel) rfl
theorem tw_1180 : (Jvm.Cond.instanceMethod ({ cls := "ShadowTaxModel", name := "shadowOf", desc := "(III)J" } : Jvm.MethodName)) ∈ am_tb := am_in 1180 (by decide +kernel) rfl
theorem tw_1181 : (Cond.code yX9_shadowOf cX9_shadowOf 9 (Option.some Jvm.ClassFile.FieldType.long)) ∈ am_tb := am_in 1181 (by decide +kernel) rfl
theorem tw_1182 : (Jvm.Cond.methodLink "ShadowTaxModel" (267 : Nat) ({ cls := "ShadowTaxModel", name := "isCell", desc := "(II)Z" } : Jvm.MethodName)) ∈ am_tb := am_in 1182 (by decide +kernel) rfl
theorem tw_1184 : (Jvm.Cond.instanceMethod ({ cls := "ShadowTaxModel", name := "isCell", desc := "(II)Z" } : Jvm.MethodName)) ∈ am_tb := am_in 1184 (by decide +kernel) rfl
theorem tw_1185 : (Cond.code yX9_isCell cX9_isCell 3 (Option.some Jvm.ClassFile.FieldType.boolean)) ∈ am_tb := am_in 1185 (by decide +kernel) rfl
theorem tw_1186 : (Jvm.Cond.methodLink "ShadowTaxModel" (292 : Nat) ({ cls := "ShadowTaxModel", name := "castBy", desc := "(IIJ)J" } : Jvm.MethodName)) ∈ am_tb := am_in 1186 (by decide +kernel) rfl
theorem tw_1188 : (Jvm.Cond.instanceMethod ({ cls := "ShadowTaxModel", name := "castBy", desc := "(IIJ)J" } : Jvm.MethodName)) ∈ am_tb := am_in 1188 (by decide +kernel) rfl
theorem tw_1189 : (Cond.code yX9_castBy cX9_castBy 5 (Option.some Jvm.ClassFile.FieldType.long)) ∈ am_tb := am_in 1189 (by decide +kernel) rfl
theorem tw_1190 : (Jvm.Cond.methodLink "ShadowTaxModel" (277 : Nat) ({ cls := "ShadowTaxModel", name := "has", desc := "(JI)Z" } : Jvm.MethodName)) ∈ am_tb := am_in 1190 (by decide +kernel) rfl
theorem tw_1191 : (Jvm.Cond.static ({ cls := "ShadowTaxModel", name := "has", desc := "(JI)Z" } : Jvm.MethodName)) ∈ am_tb := am_in 1191 (by decide +kernel) rfl
theorem tw_1192 : (Cond.code yX9_has cX9_has 3 (Option.some Jvm.ClassFile.FieldType.boolean)) ∈ am_tb := am_in 1192 (by decide +kernel) rfl
theorem tw_1193 : (Jvm.Cond.methodLink "ShadowTaxModel" (281 : Nat) ({ cls := "ShadowTaxModel", name := "tallOf", desc := "(I)I" } : Jvm.MethodName)) ∈ am_tb := am_in 1193 (by decide +kernel) rfl
theorem tw_1195 : (Jvm.Cond.instanceMethod ({ cls := "ShadowTaxModel", name := "tallOf", desc := "(I)I" } : Jvm.MethodName)) ∈ am_tb := am_in 1195 (by decide +kernel) rfl
theorem tw_1196 : (Cond.code yX9_tallOf cX9_tallOf 2 (Option.some Jvm.ClassFile.FieldType.int)) ∈ am_tb := am_in 1196 (by decide +kernel) rfl
theorem tw_1197 : (Jvm.Cond.constantLong "ShadowTaxModel" (296 : Nat) (-1 : Int64)) ∈ am_tb := am_in 1197 (by decide +kernel) rfl
theorem tw_1198 : (Jvm.Cond.methodLink "ShadowTaxModel" (298 : Nat) ({ cls := "ShadowTaxModel", name := "paysAhead", desc := "(II)Z" } : Jvm.MethodName)) ∈ am_tb := am_in 1198 (by decide +kernel) rfl
theorem tw_1200 : (Jvm.Cond.instanceMethod ({ cls := "ShadowTaxModel", name := "paysAhead", desc := "(II)Z" } : Jvm.MethodName)) ∈ am_tb := am_in 1200 (by decide +kernel) rfl
theorem tw_1201 : (Cond.code yX9_paysAhead cX9_paysAhead 3 (Option.some Jvm.ClassFile.FieldType.boolean)) ∈ am_tb := am_in 1201 (by decide +kernel) rfl
theorem tw_1202 : (Jvm.Cond.methodLink "ShadowTaxModel" (301 : Nat) ({ cls := "ShadowTaxModel", name := "bits", desc := "(J)I" } : Jvm.MethodName)) ∈ am_tb := am_in 1202 (by decide +kernel) rfl
theorem tw_1203 : (Jvm.Cond.static ({ cls := "ShadowTaxModel", name := "bits", desc := "(J)I" } : Jvm.MethodName)) ∈ am_tb := am_in 1203 (by decide +kernel) rfl
theorem tw_1204 : (Cond.code yX9_bits cX9_bits 4 (Option.some Jvm.ClassFile.FieldType.int)) ∈ am_tb := am_in 1204 (by decide +kernel) rfl
theorem tw_1205 : (Jvm.Cond.methodLink "ShadowTaxLaw" (38 : Nat) ({ cls := "ShadowTaxModel", name := "cell", desc := "(IIII)I" } : Jvm.MethodName)) ∈ am_tb := am_in 1205 (by decide +kernel) rfl
theorem tw_1206 : (Jvm.Cond.instanceMethod ({ cls := "ShadowTaxModel", name := "cell", desc := "(IIII)I" } : Jvm.MethodName)) ∈ am_tb := am_in 1206 (by decide +kernel) rfl
theorem tw_1207 : (Jvm.Cond.selects "ShadowTaxModel" ({ cls := "ShadowTaxModel", name := "cell", desc := "(IIII)I" } : Jvm.MethodName) ({ cls := "ShadowTaxModel", name := "cell", desc := "(IIII)I" } : Jvm.MethodName)) ∈ am_tb := am_in 1207 (by decide +kernel) rfl
theorem tw_1208 : (Cond.code yX9_cell cX9_cell 6 (Option.some Jvm.ClassFile.FieldType.int)) ∈ am_tb := am_in 1208 (by decide +kernel) rfl
theorem tw_1209 : (Jvm.Cond.methodLink "ShadowTaxModel" (317 : Nat) ({ cls := "ShadowTaxModel", name := "isHour", desc := "(I)Z" } : Jvm.MethodName)) ∈ am_tb := am_in 1209 (by decide +kernel) rfl
theorem tw_1211 : (Jvm.Cond.instanceMethod ({ cls := "ShadowTaxModel", name := "isHour", desc := "(I)Z" } : Jvm.MethodName)) ∈ am_tb := am_in 1211 (by decide +kernel) rfl
theorem tw_1212 : (Cond.code yX9_isHour cX9_isHour 2 (Option.some Jvm.ClassFile.FieldType.boolean)) ∈ am_tb := am_in 1212 (by decide +kernel) rfl
theorem tw_1213 : (Jvm.Cond.constant "ShadowTaxModel" (320 : Nat) (-1000000001 : Int32)) ∈ am_tb := am_in 1213 (by decide +kernel) rfl
theorem tw_1214 : (Jvm.Cond.methodLink "ShadowTaxModel" (314 : Nat) ({ cls := "ShadowTaxModel", name := "castersAt", desc := "(II)I" } : Jvm.MethodName)) ∈ am_tb := am_in 1214 (by decide +kernel) rfl
theorem tw_1216 : (Jvm.Cond.instanceMethod ({ cls := "ShadowTaxModel", name := "castersAt", desc := "(II)I" } : Jvm.MethodName)) ∈ am_tb := am_in 1216 (by decide +kernel) rfl
theorem tw_1217 : (Cond.code yX9_castersAt cX9_castersAt 7 (Option.some Jvm.ClassFile.FieldType.int)) ∈ am_tb := am_in 1217 (by decide +kernel) rfl
theorem tw_1218 : (Jvm.Cond.methodLink "ShadowTaxModel" (321 : Nat) ({ cls := "ShadowTaxModel", name := "payerAt", desc := "(II)I" } : Jvm.MethodName)) ∈ am_tb := am_in 1218 (by decide +kernel) rfl
theorem tw_1220 : (Jvm.Cond.instanceMethod ({ cls := "ShadowTaxModel", name := "payerAt", desc := "(II)I" } : Jvm.MethodName)) ∈ am_tb := am_in 1220 (by decide +kernel) rfl
theorem tw_1221 : (Cond.code yX9_payerAt cX9_payerAt 6 (Option.some Jvm.ClassFile.FieldType.int)) ∈ am_tb := am_in 1221 (by decide +kernel) rfl
theorem tw_1222 : (Jvm.Cond.methodLink "ShadowTaxLaw" (43 : Nat) ({ cls := "ShadowTaxModel", name := "person", desc := "(II)I" } : Jvm.MethodName)) ∈ am_tb := am_in 1222 (by decide +kernel) rfl
theorem tw_1223 : (Jvm.Cond.instanceMethod ({ cls := "ShadowTaxModel", name := "person", desc := "(II)I" } : Jvm.MethodName)) ∈ am_tb := am_in 1223 (by decide +kernel) rfl
theorem tw_1224 : (Jvm.Cond.selects "ShadowTaxModel" ({ cls := "ShadowTaxModel", name := "person", desc := "(II)I" } : Jvm.MethodName) ({ cls := "ShadowTaxModel", name := "person", desc := "(II)I" } : Jvm.MethodName)) ∈ am_tb := am_in 1224 (by decide +kernel) rfl
theorem tw_1225 : (Cond.code yX9_person cX9_person 3 (Option.some Jvm.ClassFile.FieldType.int)) ∈ am_tb := am_in 1225 (by decide +kernel) rfl
theorem tw_1226 : (Jvm.Cond.methodLink "ShadowTaxModel" (324 : Nat) ({ cls := "ShadowTaxModel", name := "isPerson", desc := "(I)Z" } : Jvm.MethodName)) ∈ am_tb := am_in 1226 (by decide +kernel) rfl
theorem tw_1228 : (Jvm.Cond.instanceMethod ({ cls := "ShadowTaxModel", name := "isPerson", desc := "(I)Z" } : Jvm.MethodName)) ∈ am_tb := am_in 1228 (by decide +kernel) rfl
theorem tw_1229 : (Cond.code yX9_isPerson cX9_isPerson 2 (Option.some Jvm.ClassFile.FieldType.boolean)) ∈ am_tb := am_in 1229 (by decide +kernel) rfl
theorem tw_1230 : (Jvm.Cond.methodLink "ShadowTaxModel" (327 : Nat) ({ cls := "ShadowTaxModel", name := "worstOf", desc := "(I)I" } : Jvm.MethodName)) ∈ am_tb := am_in 1230 (by decide +kernel) rfl
theorem tw_1232 : (Jvm.Cond.instanceMethod ({ cls := "ShadowTaxModel", name := "worstOf", desc := "(I)I" } : Jvm.MethodName)) ∈ am_tb := am_in 1232 (by decide +kernel) rfl
theorem tw_1233 : (Cond.code yX9_worstOf cX9_worstOf 5 (Option.some Jvm.ClassFile.FieldType.int)) ∈ am_tb := am_in 1233 (by decide +kernel) rfl
theorem tw_1234 : (Jvm.Cond.methodLink "ShadowTaxLaw" (47 : Nat) ({ cls := "ShadowTaxModel", name := "owed", desc := "(II)I" } : Jvm.MethodName)) ∈ am_tb := am_in 1234 (by decide +kernel) rfl
theorem tw_1235 : (Jvm.Cond.instanceMethod ({ cls := "ShadowTaxModel", name := "owed", desc := "(II)I" } : Jvm.MethodName)) ∈ am_tb := am_in 1235 (by decide +kernel) rfl
theorem tw_1236 : (Jvm.Cond.selects "ShadowTaxModel" ({ cls := "ShadowTaxModel", name := "owed", desc := "(II)I" } : Jvm.MethodName) ({ cls := "ShadowTaxModel", name := "owed", desc := "(II)I" } : Jvm.MethodName)) ∈ am_tb := am_in 1236 (by decide +kernel) rfl
theorem tw_1237 : (Cond.code yX9_owed cX9_owed 3 (Option.some Jvm.ClassFile.FieldType.int)) ∈ am_tb := am_in 1237 (by decide +kernel) rfl
theorem tw_1238 : (Jvm.Cond.methodLink "ShadowTaxLaw" (52 : Nat) ({ cls := "ShadowTaxModel", name := "go", desc := "(III)I" } : Jvm.MethodName)) ∈ am_tb := am_in 1238 (by decide +kernel) rfl
theorem tw_1239 : (Jvm.Cond.instanceMethod ({ cls := "ShadowTaxModel", name := "go", desc := "(III)I" } : Jvm.MethodName)) ∈ am_tb := am_in 1239 (by decide +kernel) rfl
theorem tw_1240 : (Jvm.Cond.selects "ShadowTaxModel" ({ cls := "ShadowTaxModel", name := "go", desc := "(III)I" } : Jvm.MethodName) ({ cls := "ShadowTaxModel", name := "go", desc := "(III)I" } : Jvm.MethodName)) ∈ am_tb := am_in 1240 (by decide +kernel) rfl
theorem tw_1241 : (Cond.code yX9_go cX9_go 5 (Option.some Jvm.ClassFile.FieldType.int)) ∈ am_tb := am_in 1241 (by decide +kernel) rfl
theorem tw_1242 : (Jvm.Cond.constant "ShadowTaxModel" (330 : Nat) (-1000000003 : Int32)) ∈ am_tb := am_in 1242 (by decide +kernel) rfl
theorem tw_1243 : (Jvm.Cond.methodLink "ShadowTaxModel" (331 : Nat) ({ cls := "ShadowTaxModel", name := "told10", desc := "(I)I" } : Jvm.MethodName)) ∈ am_tb := am_in 1243 (by decide +kernel) rfl
theorem tw_1245 : (Jvm.Cond.instanceMethod ({ cls := "ShadowTaxModel", name := "told10", desc := "(I)I" } : Jvm.MethodName)) ∈ am_tb := am_in 1245 (by decide +kernel) rfl
theorem tw_1246 : (Cond.code yX9_told10 cX9_told10 2 (Option.some Jvm.ClassFile.FieldType.int)) ∈ am_tb := am_in 1246 (by decide +kernel) rfl
theorem tw_1247 : (Jvm.Cond.methodLink "ShadowTaxLaw" (57 : Nat) ({ cls := "ShadowTaxModel", name := "fold", desc := "(IZ)I" } : Jvm.MethodName)) ∈ am_tb := am_in 1247 (by decide +kernel) rfl
theorem tw_1248 : (Jvm.Cond.instanceMethod ({ cls := "ShadowTaxModel", name := "fold", desc := "(IZ)I" } : Jvm.MethodName)) ∈ am_tb := am_in 1248 (by decide +kernel) rfl
theorem tw_1249 : (Jvm.Cond.selects "ShadowTaxModel" ({ cls := "ShadowTaxModel", name := "fold", desc := "(IZ)I" } : Jvm.MethodName) ({ cls := "ShadowTaxModel", name := "fold", desc := "(IZ)I" } : Jvm.MethodName)) ∈ am_tb := am_in 1249 (by decide +kernel) rfl
theorem tw_1250 : (Cond.code yX9_fold cX9_fold 4 (Option.some Jvm.ClassFile.FieldType.int)) ∈ am_tb := am_in 1250 (by decide +kernel) rfl
theorem tw_1251 : (Jvm.Cond.methodLink "ShadowTaxLaw" (61 : Nat) ({ cls := "ShadowTaxModel", name := "law", desc := "(I)I" } : Jvm.MethodName)) ∈ am_tb := am_in 1251 (by decide +kernel) rfl
theorem tw_1252 : (Jvm.Cond.instanceMethod ({ cls := "ShadowTaxModel", name := "law", desc := "(I)I" } : Jvm.MethodName)) ∈ am_tb := am_in 1252 (by decide +kernel) rfl
theorem tw_1253 : (Jvm.Cond.selects "ShadowTaxModel" ({ cls := "ShadowTaxModel", name := "law", desc := "(I)I" } : Jvm.MethodName) ({ cls := "ShadowTaxModel", name := "law", desc := "(I)I" } : Jvm.MethodName)) ∈ am_tb := am_in 1253 (by decide +kernel) rfl
theorem tw_1254 : (Cond.code yX9_law cX9_law 3 (Option.some Jvm.ClassFile.FieldType.int)) ∈ am_tb := am_in 1254 (by decide +kernel) rfl
theorem tw_1255 : (Jvm.Cond.methodLink "ShadowTaxLaw" (65 : Nat) ({ cls := "ShadowTaxModel", name := "build", desc := "(III)I" } : Jvm.MethodName)) ∈ am_tb := am_in 1255 (by decide +kernel) rfl
theorem tw_1256 : (Jvm.Cond.instanceMethod ({ cls := "ShadowTaxModel", name := "build", desc := "(III)I" } : Jvm.MethodName)) ∈ am_tb := am_in 1256 (by decide +kernel) rfl
theorem tw_1257 : (Jvm.Cond.selects "ShadowTaxModel" ({ cls := "ShadowTaxModel", name := "build", desc := "(III)I" } : Jvm.MethodName) ({ cls := "ShadowTaxModel", name := "build", desc := "(III)I" } : Jvm.MethodName)) ∈ am_tb := am_in 1257 (by decide +kernel) rfl
theorem tw_1258 : (Cond.code yX9_build cX9_build 6 (Option.some Jvm.ClassFile.FieldType.int)) ∈ am_tb := am_in 1258 (by decide +kernel) rfl
theorem tw_1259 : (Jvm.Cond.constantLong "ShadowTaxModel" (334 : Nat) (9 : Int64)) ∈ am_tb := am_in 1259 (by decide +kernel) rfl
theorem tw_1260 : (Jvm.Cond.methodLink "ShadowTaxModel" (336 : Nat) ({ cls := "ShadowTaxModel", name := "isSomebody", desc := "(I)Z" } : Jvm.MethodName)) ∈ am_tb := am_in 1260 (by decide +kernel) rfl
theorem tw_1262 : (Jvm.Cond.instanceMethod ({ cls := "ShadowTaxModel", name := "isSomebody", desc := "(I)Z" } : Jvm.MethodName)) ∈ am_tb := am_in 1262 (by decide +kernel) rfl
theorem tw_1263 : (Cond.code yX9_isSomebody cX9_isSomebody 4 (Option.some Jvm.ClassFile.FieldType.boolean)) ∈ am_tb := am_in 1263 (by decide +kernel) rfl
theorem tw_1264 : (Jvm.Cond.methodLink "ShadowTaxLaw" (69 : Nat) ({ cls := "ShadowTaxModel", name := "day", desc := "(I)I" } : Jvm.MethodName)) ∈ am_tb := am_in 1264 (by decide +kernel) rfl
theorem tw_1265 : (Jvm.Cond.instanceMethod ({ cls := "ShadowTaxModel", name := "day", desc := "(I)I" } : Jvm.MethodName)) ∈ am_tb := am_in 1265 (by decide +kernel) rfl
theorem tw_1266 : (Jvm.Cond.selects "ShadowTaxModel" ({ cls := "ShadowTaxModel", name := "day", desc := "(I)I" } : Jvm.MethodName) ({ cls := "ShadowTaxModel", name := "day", desc := "(I)I" } : Jvm.MethodName)) ∈ am_tb := am_in 1266 (by decide +kernel) rfl
theorem tw_1267 : (Cond.code yX9_day cX9_day 3 (Option.some Jvm.ClassFile.FieldType.int)) ∈ am_tb := am_in 1267 (by decide +kernel) rfl
theorem tw_1268 : (Jvm.Cond.constantLong "ShadowTaxModel" (359 : Nat) (99 : Int64)) ∈ am_tb := am_in 1268 (by decide +kernel) rfl
theorem tw_1269 : (Jvm.Cond.methodLink "ShadowTaxModel" (361 : Nat) ({ cls := "ShadowTaxModel", name := "dayNow", desc := "()V" } : Jvm.MethodName)) ∈ am_tb := am_in 1269 (by decide +kernel) rfl
theorem tw_1271 : (Jvm.Cond.instanceMethod ({ cls := "ShadowTaxModel", name := "dayNow", desc := "()V" } : Jvm.MethodName)) ∈ am_tb := am_in 1271 (by decide +kernel) rfl
theorem tw_1272 : (Cond.code yX9_dayNow cX9_dayNow 5 (Option.none : Option Jvm.ClassFile.FieldType)) ∈ am_tb := am_in 1272 (by decide +kernel) rfl
theorem tw_1273 : (Jvm.Cond.methodLink "ShadowTaxModel" (349 : Nat) ({ cls := "ShadowTaxModel", name := "draw", desc := "(I)I" } : Jvm.MethodName)) ∈ am_tb := am_in 1273 (by decide +kernel) rfl
theorem tw_1275 : (Jvm.Cond.instanceMethod ({ cls := "ShadowTaxModel", name := "draw", desc := "(I)I" } : Jvm.MethodName)) ∈ am_tb := am_in 1275 (by decide +kernel) rfl
theorem tw_1276 : (Cond.code yX9_draw cX9_draw 2 (Option.some Jvm.ClassFile.FieldType.int)) ∈ am_tb := am_in 1276 (by decide +kernel) rfl
theorem tw_1277 : (Jvm.Cond.constantLong "ShadowTaxModel" (342 : Nat) (1103515245 : Int64)) ∈ am_tb := am_in 1277 (by decide +kernel) rfl
theorem tw_1278 : (Jvm.Cond.constantLong "ShadowTaxModel" (344 : Nat) (12345 : Int64)) ∈ am_tb := am_in 1278 (by decide +kernel) rfl
theorem tw_1279 : (Jvm.Cond.constantLong "ShadowTaxModel" (346 : Nat) (2147483648 : Int64)) ∈ am_tb := am_in 1279 (by decide +kernel) rfl
theorem tw_1280 : (Jvm.Cond.constant "ShadowTaxModel" (348 : Nat) (65536 : Int32)) ∈ am_tb := am_in 1280 (by decide +kernel) rfl
theorem tw_1281 : (Jvm.Cond.methodLink "ShadowTaxModel" (352 : Nat) ({ cls := "ShadowTaxModel", name := "sharesTill", desc := "(I)I" } : Jvm.MethodName)) ∈ am_tb := am_in 1281 (by decide +kernel) rfl
theorem tw_1283 : (Jvm.Cond.instanceMethod ({ cls := "ShadowTaxModel", name := "sharesTill", desc := "(I)I" } : Jvm.MethodName)) ∈ am_tb := am_in 1283 (by decide +kernel) rfl
theorem tw_1284 : (Cond.code yX9_sharesTill cX9_sharesTill 4 (Option.some Jvm.ClassFile.FieldType.int)) ∈ am_tb := am_in 1284 (by decide +kernel) rfl
theorem tw_1285 : (Jvm.Cond.methodLink "ShadowTaxModel" (355 : Nat) ({ cls := "ShadowTaxModel", name := "payAt", desc := "(I)V" } : Jvm.MethodName)) ∈ am_tb := am_in 1285 (by decide +kernel) rfl
theorem tw_1287 : (Jvm.Cond.instanceMethod ({ cls := "ShadowTaxModel", name := "payAt", desc := "(I)V" } : Jvm.MethodName)) ∈ am_tb := am_in 1287 (by decide +kernel) rfl
theorem tw_1288 : (Cond.code yX9_payAt cX9_payAt 3 (Option.none : Option Jvm.ClassFile.FieldType)) ∈ am_tb := am_in 1288 (by decide +kernel) rfl
theorem tw_1289 : (Jvm.Cond.methodLink "ShadowTaxLaw" (73 : Nat) ({ cls := "ShadowTaxModel", name := "best", desc := "(II)I" } : Jvm.MethodName)) ∈ am_tb := am_in 1289 (by decide +kernel) rfl
theorem tw_1290 : (Jvm.Cond.instanceMethod ({ cls := "ShadowTaxModel", name := "best", desc := "(II)I" } : Jvm.MethodName)) ∈ am_tb := am_in 1290 (by decide +kernel) rfl
theorem tw_1291 : (Jvm.Cond.selects "ShadowTaxModel" ({ cls := "ShadowTaxModel", name := "best", desc := "(II)I" } : Jvm.MethodName) ({ cls := "ShadowTaxModel", name := "best", desc := "(II)I" } : Jvm.MethodName)) ∈ am_tb := am_in 1291 (by decide +kernel) rfl
theorem tw_1292 : (Cond.code yX9_best cX9_best 9 (Option.some Jvm.ClassFile.FieldType.int)) ∈ am_tb := am_in 1292 (by decide +kernel) rfl
theorem tw_1293 : (Jvm.Cond.methodLink "ShadowTaxLaw" (77 : Nat) ({ cls := "ShadowTaxModel", name := "errand", desc := "(IIII)I" } : Jvm.MethodName)) ∈ am_tb := am_in 1293 (by decide +kernel) rfl
theorem tw_1294 : (Jvm.Cond.instanceMethod ({ cls := "ShadowTaxModel", name := "errand", desc := "(IIII)I" } : Jvm.MethodName)) ∈ am_tb := am_in 1294 (by decide +kernel) rfl
theorem tw_1295 : (Jvm.Cond.selects "ShadowTaxModel" ({ cls := "ShadowTaxModel", name := "errand", desc := "(IIII)I" } : Jvm.MethodName) ({ cls := "ShadowTaxModel", name := "errand", desc := "(IIII)I" } : Jvm.MethodName)) ∈ am_tb := am_in 1295 (by decide +kernel) rfl
theorem tw_1296 : (Cond.code yX9_errand cX9_errand 5 (Option.some Jvm.ClassFile.FieldType.int)) ∈ am_tb := am_in 1296 (by decide +kernel) rfl
theorem tw_1297 : (Jvm.Cond.methodLink "ShadowTaxLaw" (81 : Nat) ({ cls := "ShadowTaxModel", name := "walk", desc := "(II)I" } : Jvm.MethodName)) ∈ am_tb := am_in 1297 (by decide +kernel) rfl
theorem tw_1298 : (Jvm.Cond.instanceMethod ({ cls := "ShadowTaxModel", name := "walk", desc := "(II)I" } : Jvm.MethodName)) ∈ am_tb := am_in 1298 (by decide +kernel) rfl
theorem tw_1299 : (Jvm.Cond.selects "ShadowTaxModel" ({ cls := "ShadowTaxModel", name := "walk", desc := "(II)I" } : Jvm.MethodName) ({ cls := "ShadowTaxModel", name := "walk", desc := "(II)I" } : Jvm.MethodName)) ∈ am_tb := am_in 1299 (by decide +kernel) rfl
theorem tw_1300 : (Cond.code yX9_walk cX9_walk 8 (Option.some Jvm.ClassFile.FieldType.int)) ∈ am_tb := am_in 1300 (by decide +kernel) rfl
theorem tw_1301 : (Jvm.Cond.methodLink "ShadowTaxModel" (372 : Nat) ({ cls := "ShadowTaxModel", name := "findWalk", desc := "(I)V" } : Jvm.MethodName)) ∈ am_tb := am_in 1301 (by decide +kernel) rfl
theorem tw_1303 : (Jvm.Cond.instanceMethod ({ cls := "ShadowTaxModel", name := "findWalk", desc := "(I)V" } : Jvm.MethodName)) ∈ am_tb := am_in 1303 (by decide +kernel) rfl
theorem tw_1304 : (Cond.code yX9_findWalk cX9_findWalk 8 (Option.none : Option Jvm.ClassFile.FieldType)) ∈ am_tb := am_in 1304 (by decide +kernel) rfl
theorem tw_1305 : (Jvm.Cond.methodLink "ShadowTaxModel" (364 : Nat) ({ cls := "ShadowTaxModel", name := "doesErrands", desc := "(III)Z" } : Jvm.MethodName)) ∈ am_tb := am_in 1305 (by decide +kernel) rfl
theorem tw_1307 : (Jvm.Cond.instanceMethod ({ cls := "ShadowTaxModel", name := "doesErrands", desc := "(III)Z" } : Jvm.MethodName)) ∈ am_tb := am_in 1307 (by decide +kernel) rfl
theorem tw_1308 : (Cond.code yX9_doesErrands cX9_doesErrands 6 (Option.some Jvm.ClassFile.FieldType.boolean)) ∈ am_tb := am_in 1308 (by decide +kernel) rfl
theorem tw_1309 : (Jvm.Cond.constant "ShadowTaxModel" (368 : Nat) (1000000000 : Int32)) ∈ am_tb := am_in 1309 (by decide +kernel) rfl
theorem tw_1310 : (Jvm.Cond.methodLink "ShadowTaxModel" (369 : Nat) ({ cls := "ShadowTaxModel", name := "isStep", desc := "(II)Z" } : Jvm.MethodName)) ∈ am_tb := am_in 1310 (by decide +kernel) rfl
theorem tw_1312 : (Jvm.Cond.instanceMethod ({ cls := "ShadowTaxModel", name := "isStep", desc := "(II)Z" } : Jvm.MethodName)) ∈ am_tb := am_in 1312 (by decide +kernel) rfl
theorem tw_1313 : (Cond.code yX9_isStep cX9_isStep 3 (Option.some Jvm.ClassFile.FieldType.boolean)) ∈ am_tb := am_in 1313 (by decide +kernel) rfl
theorem tw_1314 : (Jvm.Cond.methodLink "ShadowTaxLaw" (85 : Nat) ({ cls := "ShadowTaxModel", name := "couple", desc := "(II)I" } : Jvm.MethodName)) ∈ am_tb := am_in 1314 (by decide +kernel) rfl
theorem tw_1315 : (Jvm.Cond.instanceMethod ({ cls := "ShadowTaxModel", name := "couple", desc := "(II)I" } : Jvm.MethodName)) ∈ am_tb := am_in 1315 (by decide +kernel) rfl
theorem tw_1316 : (Jvm.Cond.selects "ShadowTaxModel" ({ cls := "ShadowTaxModel", name := "couple", desc := "(II)I" } : Jvm.MethodName) ({ cls := "ShadowTaxModel", name := "couple", desc := "(II)I" } : Jvm.MethodName)) ∈ am_tb := am_in 1316 (by decide +kernel) rfl
theorem tw_1317 : (Cond.code yX9_couple cX9_couple 3 (Option.some Jvm.ClassFile.FieldType.int)) ∈ am_tb := am_in 1317 (by decide +kernel) rfl
theorem tw_1318 : (Jvm.Cond.methodLink "ShadowTaxModel" (375 : Nat) ({ cls := "ShadowTaxModel", name := "coupleOf", desc := "(II)I" } : Jvm.MethodName)) ∈ am_tb := am_in 1318 (by decide +kernel) rfl
theorem tw_1320 : (Jvm.Cond.instanceMethod ({ cls := "ShadowTaxModel", name := "coupleOf", desc := "(II)I" } : Jvm.MethodName)) ∈ am_tb := am_in 1320 (by decide +kernel) rfl
theorem tw_1321 : (Cond.code yX9_coupleOf cX9_coupleOf 10 (Option.some Jvm.ClassFile.FieldType.int)) ∈ am_tb := am_in 1321 (by decide +kernel) rfl
theorem tw_1322 : (Jvm.Cond.methodLink "ShadowTaxLaw" (89 : Nat) ({ cls := "ShadowTaxModel", name := "couples", desc := "(I)I" } : Jvm.MethodName)) ∈ am_tb := am_in 1322 (by decide +kernel) rfl
theorem tw_1323 : (Jvm.Cond.instanceMethod ({ cls := "ShadowTaxModel", name := "couples", desc := "(I)I" } : Jvm.MethodName)) ∈ am_tb := am_in 1323 (by decide +kernel) rfl
theorem tw_1324 : (Jvm.Cond.selects "ShadowTaxModel" ({ cls := "ShadowTaxModel", name := "couples", desc := "(I)I" } : Jvm.MethodName) ({ cls := "ShadowTaxModel", name := "couples", desc := "(I)I" } : Jvm.MethodName)) ∈ am_tb := am_in 1324 (by decide +kernel) rfl
theorem tw_1325 : (Cond.code yX9_couples cX9_couples 8 (Option.some Jvm.ClassFile.FieldType.int)) ∈ am_tb := am_in 1325 (by decide +kernel) rfl
theorem tw_1326 : (Jvm.Cond.methodLink "ShadowTaxModel" (378 : Nat) ({ cls := "ShadowTaxModel", name := "setPartners", desc := "(I)Z" } : Jvm.MethodName)) ∈ am_tb := am_in 1326 (by decide +kernel) rfl
theorem tw_1328 : (Jvm.Cond.instanceMethod ({ cls := "ShadowTaxModel", name := "setPartners", desc := "(I)Z" } : Jvm.MethodName)) ∈ am_tb := am_in 1328 (by decide +kernel) rfl
theorem tw_1329 : (Cond.code yX9_setPartners cX9_setPartners 5 (Option.some Jvm.ClassFile.FieldType.boolean)) ∈ am_tb := am_in 1329 (by decide +kernel) rfl
theorem tw_1330 : (Jvm.Cond.methodLink "ShadowTaxLaw" (93 : Nat) ({ cls := "ShadowTaxModel", name := "wall", desc := "(III)I" } : Jvm.MethodName)) ∈ am_tb := am_in 1330 (by decide +kernel) rfl
theorem tw_1331 : (Jvm.Cond.instanceMethod ({ cls := "ShadowTaxModel", name := "wall", desc := "(III)I" } : Jvm.MethodName)) ∈ am_tb := am_in 1331 (by decide +kernel) rfl
theorem tw_1332 : (Jvm.Cond.selects "ShadowTaxModel" ({ cls := "ShadowTaxModel", name := "wall", desc := "(III)I" } : Jvm.MethodName) ({ cls := "ShadowTaxModel", name := "wall", desc := "(III)I" } : Jvm.MethodName)) ∈ am_tb := am_in 1332 (by decide +kernel) rfl
theorem tw_1333 : (Cond.code yX9_wall cX9_wall 7 (Option.some Jvm.ClassFile.FieldType.int)) ∈ am_tb := am_in 1333 (by decide +kernel) rfl
theorem tw_1334 : (Jvm.Cond.methodLink "ShadowTaxModel" (381 : Nat) ({ cls := "ShadowTaxModel", name := "isFree", desc := "(I)Z" } : Jvm.MethodName)) ∈ am_tb := am_in 1334 (by decide +kernel) rfl
theorem tw_1336 : (Jvm.Cond.instanceMethod ({ cls := "ShadowTaxModel", name := "isFree", desc := "(I)Z" } : Jvm.MethodName)) ∈ am_tb := am_in 1336 (by decide +kernel) rfl
theorem tw_1337 : (Cond.code yX9_isFree cX9_isFree 2 (Option.some Jvm.ClassFile.FieldType.boolean)) ∈ am_tb := am_in 1337 (by decide +kernel) rfl
theorem tw_1338 : (Jvm.Cond.methodLink "ShadowTaxLaw" (97 : Nat) ({ cls := "ShadowTaxModel", name := "bestWall", desc := "(III)I" } : Jvm.MethodName)) ∈ am_tb := am_in 1338 (by decide +kernel) rfl
theorem tw_1339 : (Jvm.Cond.instanceMethod ({ cls := "ShadowTaxModel", name := "bestWall", desc := "(III)I" } : Jvm.MethodName)) ∈ am_tb := am_in 1339 (by decide +kernel) rfl
theorem tw_1340 : (Jvm.Cond.selects "ShadowTaxModel" ({ cls := "ShadowTaxModel", name := "bestWall", desc := "(III)I" } : Jvm.MethodName) ({ cls := "ShadowTaxModel", name := "bestWall", desc := "(III)I" } : Jvm.MethodName)) ∈ am_tb := am_in 1340 (by decide +kernel) rfl
theorem tw_1341 : (Cond.code yX9_bestWall cX9_bestWall 9 (Option.some Jvm.ClassFile.FieldType.int)) ∈ am_tb := am_in 1341 (by decide +kernel) rfl
theorem tw_1342 : (Jvm.Cond.methodLink "ShadowTaxLaw" (101 : Nat) ({ cls := "ShadowTaxModel", name := "richest", desc := "(I)I" } : Jvm.MethodName)) ∈ am_tb := am_in 1342 (by decide +kernel) rfl
theorem tw_1343 : (Jvm.Cond.instanceMethod ({ cls := "ShadowTaxModel", name := "richest", desc := "(I)I" } : Jvm.MethodName)) ∈ am_tb := am_in 1343 (by decide +kernel) rfl
theorem tw_1344 : (Jvm.Cond.selects "ShadowTaxModel" ({ cls := "ShadowTaxModel", name := "richest", desc := "(I)I" } : Jvm.MethodName) ({ cls := "ShadowTaxModel", name := "richest", desc := "(I)I" } : Jvm.MethodName)) ∈ am_tb := am_in 1344 (by decide +kernel) rfl
theorem tw_1345 : (Cond.code yX9_richest cX9_richest 7 (Option.some Jvm.ClassFile.FieldType.int)) ∈ am_tb := am_in 1345 (by decide +kernel) rfl
theorem tw_1346 : (Jvm.Cond.methodLink "ShadowTaxLaw" (105 : Nat) ({ cls := "ShadowTaxModel", name := "tell", desc := "(II)I" } : Jvm.MethodName)) ∈ am_tb := am_in 1346 (by decide +kernel) rfl
theorem tw_1347 : (Jvm.Cond.instanceMethod ({ cls := "ShadowTaxModel", name := "tell", desc := "(II)I" } : Jvm.MethodName)) ∈ am_tb := am_in 1347 (by decide +kernel) rfl
theorem tw_1348 : (Jvm.Cond.selects "ShadowTaxModel" ({ cls := "ShadowTaxModel", name := "tell", desc := "(II)I" } : Jvm.MethodName) ({ cls := "ShadowTaxModel", name := "tell", desc := "(II)I" } : Jvm.MethodName)) ∈ am_tb := am_in 1348 (by decide +kernel) rfl
theorem tw_1349 : (Cond.code yX9_tell cX9_tell 3 (Option.some Jvm.ClassFile.FieldType.int)) ∈ am_tb := am_in 1349 (by decide +kernel) rfl
theorem tw_1350 : (Jvm.Cond.methodLink "ShadowTaxLaw" (109 : Nat) ({ cls := "ShadowTaxModel", name := "stood", desc := "(II)I" } : Jvm.MethodName)) ∈ am_tb := am_in 1350 (by decide +kernel) rfl
theorem tw_1351 : (Jvm.Cond.instanceMethod ({ cls := "ShadowTaxModel", name := "stood", desc := "(II)I" } : Jvm.MethodName)) ∈ am_tb := am_in 1351 (by decide +kernel) rfl
theorem tw_1352 : (Jvm.Cond.selects "ShadowTaxModel" ({ cls := "ShadowTaxModel", name := "stood", desc := "(II)I" } : Jvm.MethodName) ({ cls := "ShadowTaxModel", name := "stood", desc := "(II)I" } : Jvm.MethodName)) ∈ am_tb := am_in 1352 (by decide +kernel) rfl
theorem tw_1353 : (Cond.code yX9_stood cX9_stood 7 (Option.some Jvm.ClassFile.FieldType.int)) ∈ am_tb := am_in 1353 (by decide +kernel) rfl
theorem tw_1354 : (Jvm.Cond.methodLink "ShadowTaxModel" (384 : Nat) ({ cls := "ShadowTaxModel", name := "isAsTold", desc := "(I)Z" } : Jvm.MethodName)) ∈ am_tb := am_in 1354 (by decide +kernel) rfl
theorem tw_1356 : (Jvm.Cond.instanceMethod ({ cls := "ShadowTaxModel", name := "isAsTold", desc := "(I)Z" } : Jvm.MethodName)) ∈ am_tb := am_in 1356 (by decide +kernel) rfl
theorem tw_1357 : (Cond.code yX9_isAsTold cX9_isAsTold 4 (Option.some Jvm.ClassFile.FieldType.boolean)) ∈ am_tb := am_in 1357 (by decide +kernel) rfl
theorem tw_1358 : (Jvm.Cond.methodLink "ShadowTaxLaw" (113 : Nat) ({ cls := "ShadowTaxModel", name := "write", desc := "(III)I" } : Jvm.MethodName)) ∈ am_tb := am_in 1358 (by decide +kernel) rfl
theorem tw_1359 : (Jvm.Cond.instanceMethod ({ cls := "ShadowTaxModel", name := "write", desc := "(III)I" } : Jvm.MethodName)) ∈ am_tb := am_in 1359 (by decide +kernel) rfl
theorem tw_1360 : (Jvm.Cond.selects "ShadowTaxModel" ({ cls := "ShadowTaxModel", name := "write", desc := "(III)I" } : Jvm.MethodName) ({ cls := "ShadowTaxModel", name := "write", desc := "(III)I" } : Jvm.MethodName)) ∈ am_tb := am_in 1360 (by decide +kernel) rfl
theorem tw_1361 : (Cond.code yX9_write cX9_write 4 (Option.some Jvm.ClassFile.FieldType.int)) ∈ am_tb := am_in 1361 (by decide +kernel) rfl
theorem tw_1362 : (Jvm.Cond.methodLink "ShadowTaxLaw" (117 : Nat) ({ cls := "ShadowTaxModel", name := "tear", desc := "()I" } : Jvm.MethodName)) ∈ am_tb := am_in 1362 (by decide +kernel) rfl
theorem tw_1363 : (Jvm.Cond.instanceMethod ({ cls := "ShadowTaxModel", name := "tear", desc := "()I" } : Jvm.MethodName)) ∈ am_tb := am_in 1363 (by decide +kernel) rfl
theorem tw_1364 : (Jvm.Cond.selects "ShadowTaxModel" ({ cls := "ShadowTaxModel", name := "tear", desc := "()I" } : Jvm.MethodName) ({ cls := "ShadowTaxModel", name := "tear", desc := "()I" } : Jvm.MethodName)) ∈ am_tb := am_in 1364 (by decide +kernel) rfl
theorem tw_1365 : (Cond.code yX9_tear cX9_tear 2 (Option.some Jvm.ClassFile.FieldType.int)) ∈ am_tb := am_in 1365 (by decide +kernel) rfl
theorem tw_1366 : (Jvm.Cond.methodLink "ShadowTaxLaw" (121 : Nat) ({ cls := "ShadowTaxModel", name := "judge", desc := "()I" } : Jvm.MethodName)) ∈ am_tb := am_in 1366 (by decide +kernel) rfl
theorem tw_1367 : (Jvm.Cond.instanceMethod ({ cls := "ShadowTaxModel", name := "judge", desc := "()I" } : Jvm.MethodName)) ∈ am_tb := am_in 1367 (by decide +kernel) rfl
theorem tw_1368 : (Jvm.Cond.selects "ShadowTaxModel" ({ cls := "ShadowTaxModel", name := "judge", desc := "()I" } : Jvm.MethodName) ({ cls := "ShadowTaxModel", name := "judge", desc := "()I" } : Jvm.MethodName)) ∈ am_tb := am_in 1368 (by decide +kernel) rfl
theorem tw_1369 : (Cond.code yX9_judge cX9_judge 2 (Option.some Jvm.ClassFile.FieldType.int)) ∈ am_tb := am_in 1369 (by decide +kernel) rfl
theorem tw_1370 : (Jvm.Cond.methodLink "ShadowTaxLaw" (125 : Nat) ({ cls := "ShadowTaxModel", name := "seed", desc := "(I)I" } : Jvm.MethodName)) ∈ am_tb := am_in 1370 (by decide +kernel) rfl
theorem tw_1371 : (Jvm.Cond.instanceMethod ({ cls := "ShadowTaxModel", name := "seed", desc := "(I)I" } : Jvm.MethodName)) ∈ am_tb := am_in 1371 (by decide +kernel) rfl
theorem tw_1372 : (Jvm.Cond.selects "ShadowTaxModel" ({ cls := "ShadowTaxModel", name := "seed", desc := "(I)I" } : Jvm.MethodName) ({ cls := "ShadowTaxModel", name := "seed", desc := "(I)I" } : Jvm.MethodName)) ∈ am_tb := am_in 1372 (by decide +kernel) rfl
theorem tw_1373 : (Cond.code yX9_seed cX9_seed 3 (Option.some Jvm.ClassFile.FieldType.int)) ∈ am_tb := am_in 1373 (by decide +kernel) rfl
theorem tw_1374 : (Jvm.Cond.methodLink "ShadowTaxLaw" (129 : Nat) ({ cls := "ShadowTaxModel", name := "keep", desc := "(I)I" } : Jvm.MethodName)) ∈ am_tb := am_in 1374 (by decide +kernel) rfl
theorem tw_1375 : (Jvm.Cond.instanceMethod ({ cls := "ShadowTaxModel", name := "keep", desc := "(I)I" } : Jvm.MethodName)) ∈ am_tb := am_in 1375 (by decide +kernel) rfl
theorem tw_1376 : (Jvm.Cond.selects "ShadowTaxModel" ({ cls := "ShadowTaxModel", name := "keep", desc := "(I)I" } : Jvm.MethodName) ({ cls := "ShadowTaxModel", name := "keep", desc := "(I)I" } : Jvm.MethodName)) ∈ am_tb := am_in 1376 (by decide +kernel) rfl
theorem tw_1377 : (Cond.code yX9_keep cX9_keep 4 (Option.some Jvm.ClassFile.FieldType.int)) ∈ am_tb := am_in 1377 (by decide +kernel) rfl
theorem tw_1378 : (Jvm.Cond.methodLink "ShadowTaxLaw" (133 : Nat) ({ cls := "ShadowTaxModel", name := "goBack", desc := "(I)I" } : Jvm.MethodName)) ∈ am_tb := am_in 1378 (by decide +kernel) rfl
theorem tw_1379 : (Jvm.Cond.instanceMethod ({ cls := "ShadowTaxModel", name := "goBack", desc := "(I)I" } : Jvm.MethodName)) ∈ am_tb := am_in 1379 (by decide +kernel) rfl
theorem tw_1380 : (Jvm.Cond.selects "ShadowTaxModel" ({ cls := "ShadowTaxModel", name := "goBack", desc := "(I)I" } : Jvm.MethodName) ({ cls := "ShadowTaxModel", name := "goBack", desc := "(I)I" } : Jvm.MethodName)) ∈ am_tb := am_in 1380 (by decide +kernel) rfl
theorem tw_1381 : (Cond.code yX9_goBack cX9_goBack 4 (Option.some Jvm.ClassFile.FieldType.int)) ∈ am_tb := am_in 1381 (by decide +kernel) rfl
theorem tw_1382 : (Jvm.Cond.constantLong "ShadowTaxLaw" (13 : Nat) (4294967295 : Int64)) ∈ am_tb := am_in 1382 (by decide +kernel) rfl
theorem tw_1383 : (Jvm.Cond.fieldLink "java/lang/String" (9 : Nat) "java/lang/String" "value" "[B") ∈ am_tb := am_in 1383 (by decide +kernel) rfl
theorem tw_1384 : (Jvm.Cond.fieldLink "java/lang/String" (15 : Nat) "java/lang/String" "coder" "B") ∈ am_tb := am_in 1384 (by decide +kernel) rfl
theorem tp_0 : Cond.selects "ShadowTax$Reading" ⟨"ShadowTax$Reading", "skipBlanks", "()V"⟩ ⟨"ShadowTax$Reading", "skipBlanks", "()V"⟩ ∈ am_tb := am_inp (List.mem_of_getElem? (i := 0) (by decide +kernel)) rfl
theorem tp_1 : Cond.selects "ShadowTax$Reading" ⟨"ShadowTax$Reading", "readStatement", "(LShadowTax$Plan;)V"⟩ ⟨"ShadowTax$Reading", "readStatement", "(LShadowTax$Plan;)V"⟩ ∈ am_tb := am_inp (List.mem_of_getElem? (i := 1) (by decide +kernel)) rfl
theorem tp_2 : Cond.selects "ShadowTax$Reading" ⟨"ShadowTax$Reading", "skipLetters", "()V"⟩ ⟨"ShadowTax$Reading", "skipLetters", "()V"⟩ ∈ am_tb := am_inp (List.mem_of_getElem? (i := 2) (by decide +kernel)) rfl
theorem tp_3 : Cond.selects "ShadowTax$Reading" ⟨"ShadowTax$Reading", "readGround", "(LShadowTax$Plan;I)V"⟩ ⟨"ShadowTax$Reading", "readGround", "(LShadowTax$Plan;I)V"⟩ ∈ am_tb := am_inp (List.mem_of_getElem? (i := 3) (by decide +kernel)) rfl
theorem tp_4 : Cond.selects "ShadowTax$Reading" ⟨"ShadowTax$Reading", "isWord", "(ILjava/lang/String;)Z"⟩ ⟨"ShadowTax$Reading", "isWord", "(ILjava/lang/String;)Z"⟩ ∈ am_tb := am_inp (List.mem_of_getElem? (i := 4) (by decide +kernel)) rfl
theorem tp_5 : Cond.selects "ShadowTax$Reading" ⟨"ShadowTax$Reading", "fail", "(II)V"⟩ ⟨"ShadowTax$Reading", "fail", "(II)V"⟩ ∈ am_tb := am_inp (List.mem_of_getElem? (i := 5) (by decide +kernel)) rfl
theorem tp_6 : Cond.selects "ShadowTax$Reading" ⟨"ShadowTax$Reading", "readNumber", "(II)I"⟩ ⟨"ShadowTax$Reading", "readNumber", "(II)I"⟩ ∈ am_tb := am_inp (List.mem_of_getElem? (i := 6) (by decide +kernel)) rfl
theorem tp_7 : Cond.selects "ShadowTax$Reading" ⟨"ShadowTax$Reading", "isFigure", "(I)Z"⟩ ⟨"ShadowTax$Reading", "isFigure", "(I)Z"⟩ ∈ am_tb := am_inp (List.mem_of_getElem? (i := 7) (by decide +kernel)) rfl
theorem tp_8 : Cond.selects "ShadowTax$Reading" ⟨"ShadowTax$Reading", "readEnd", "()V"⟩ ⟨"ShadowTax$Reading", "readEnd", "()V"⟩ ∈ am_tb := am_inp (List.mem_of_getElem? (i := 8) (by decide +kernel)) rfl
theorem tp_9 : Cond.selects "ShadowTax$Reading" ⟨"ShadowTax$Reading", "readHouse", "(LShadowTax$Plan;I)V"⟩ ⟨"ShadowTax$Reading", "readHouse", "(LShadowTax$Plan;I)V"⟩ ∈ am_tb := am_inp (List.mem_of_getElem? (i := 9) (by decide +kernel)) rfl
theorem tp_10 : Cond.selects "ShadowTax$Reading" ⟨"ShadowTax$Reading", "readCell", "(LShadowTax$Plan;)I"⟩ ⟨"ShadowTax$Reading", "readCell", "(LShadowTax$Plan;)I"⟩ ∈ am_tb := am_inp (List.mem_of_getElem? (i := 10) (by decide +kernel)) rfl
theorem tp_11 : Cond.selects "ShadowTax$Reading" ⟨"ShadowTax$Reading", "readSun", "(LShadowTax$Plan;I)V"⟩ ⟨"ShadowTax$Reading", "readSun", "(LShadowTax$Plan;I)V"⟩ ∈ am_tb := am_inp (List.mem_of_getElem? (i := 11) (by decide +kernel)) rfl
theorem tp_12 : Cond.selects "ShadowTax$Reading" ⟨"ShadowTax$Reading", "readPerson", "(LShadowTax$Plan;I)V"⟩ ⟨"ShadowTax$Reading", "readPerson", "(LShadowTax$Plan;I)V"⟩ ∈ am_tb := am_inp (List.mem_of_getElem? (i := 12) (by decide +kernel)) rfl
theorem tp_13 : Cond.selects "ShadowTax$Reading" ⟨"ShadowTax$Reading", "readGrey", "(LShadowTax$Plan;I)V"⟩ ⟨"ShadowTax$Reading", "readGrey", "(LShadowTax$Plan;I)V"⟩ ∈ am_tb := am_inp (List.mem_of_getElem? (i := 13) (by decide +kernel)) rfl
theorem tp_14 : Cond.selects "ShadowTax$Shades" ⟨"ShadowTax$Shades", "shadowFrom", "(III)J"⟩ ⟨"ShadowTax$Shades", "shadowFrom", "(III)J"⟩ ∈ am_tb := am_inp (List.mem_of_getElem? (i := 14) (by decide +kernel)) rfl
theorem tp_15 : Cond.selects "ShadowTax" ⟨"ShadowTax", "clearNotes", "()V"⟩ ⟨"ShadowTax", "clearNotes", "()V"⟩ ∈ am_tb := am_inp (List.mem_of_getElem? (i := 15) (by decide +kernel)) rfl
theorem tp_16 : Cond.selects "ShadowTax$Shades" ⟨"ShadowTax$Shades", "owedCells", "(IIIII)J"⟩ ⟨"ShadowTax$Shades", "owedCells", "(IIIII)J"⟩ ∈ am_tb := am_inp (List.mem_of_getElem? (i := 16) (by decide +kernel)) rfl
theorem tp_17 : Cond.selects "ShadowTax$Shades" ⟨"ShadowTax$Shades", "isAhead", "(IIII)Z"⟩ ⟨"ShadowTax$Shades", "isAhead", "(IIII)Z"⟩ ∈ am_tb := am_inp (List.mem_of_getElem? (i := 17) (by decide +kernel)) rfl
theorem tp_18 : Cond.selects "ShadowTax" ⟨"ShadowTax", "drawHour", "()I"⟩ ⟨"ShadowTax", "drawHour", "()I"⟩ ∈ am_tb := am_inp (List.mem_of_getElem? (i := 18) (by decide +kernel)) rfl
theorem tp_19 : Cond.selects "ShadowTax" ⟨"ShadowTax", "payAt", "(I)V"⟩ ⟨"ShadowTax", "payAt", "(I)V"⟩ ∈ am_tb := am_inp (List.mem_of_getElem? (i := 19) (by decide +kernel)) rfl
theorem tp_20 : Cond.selects "ShadowTax" ⟨"ShadowTax", "wander", "()V"⟩ ⟨"ShadowTax", "wander", "()V"⟩ ∈ am_tb := am_inp (List.mem_of_getElem? (i := 20) (by decide +kernel)) rfl
theorem tp_21 : Cond.selects "ShadowTax$Walks" ⟨"ShadowTax$Walks", "leastFrom", "(III)I"⟩ ⟨"ShadowTax$Walks", "leastFrom", "(III)I"⟩ ∈ am_tb := am_inp (List.mem_of_getElem? (i := 21) (by decide +kernel)) rfl
theorem tp_22 : Cond.selects "ShadowTax$Walks" ⟨"ShadowTax$Walks", "mayBeOn", "(III)Z"⟩ ⟨"ShadowTax$Walks", "mayBeOn", "(III)Z"⟩ ∈ am_tb := am_inp (List.mem_of_getElem? (i := 22) (by decide +kernel)) rfl
theorem tp_23 : Cond.selects "ShadowTax$Walks" ⟨"ShadowTax$Walks", "bestNext", "(II)I"⟩ ⟨"ShadowTax$Walks", "bestNext", "(II)I"⟩ ∈ am_tb := am_inp (List.mem_of_getElem? (i := 23) (by decide +kernel)) rfl
theorem tp_24 : Cond.selects "ShadowTax$Couples" ⟨"ShadowTax$Couples", "lowestOf", "(I)I"⟩ ⟨"ShadowTax$Couples", "lowestOf", "(I)I"⟩ ∈ am_tb := am_inp (List.mem_of_getElem? (i := 24) (by decide +kernel)) rfl
theorem tp_25 : Cond.selects "ShadowTax$Couples" ⟨"ShadowTax$Couples", "choice", "(II)I"⟩ ⟨"ShadowTax$Couples", "choice", "(II)I"⟩ ∈ am_tb := am_inp (List.mem_of_getElem? (i := 25) (by decide +kernel)) rfl
theorem tp_26 : Cond.selects "ShadowTax$Couples" ⟨"ShadowTax$Couples", "sumWith", "(III)I"⟩ ⟨"ShadowTax$Couples", "sumWith", "(III)I"⟩ ∈ am_tb := am_inp (List.mem_of_getElem? (i := 26) (by decide +kernel)) rfl
theorem tp_27 : Cond.selects "ShadowTax$Places" ⟨"ShadowTax$Places", "mayHaveStood", "(IILShadowTax$Rows;)Z"⟩ ⟨"ShadowTax$Places", "mayHaveStood", "(IILShadowTax$Rows;)Z"⟩ ∈ am_tb := am_inp (List.mem_of_getElem? (i := 27) (by decide +kernel)) rfl
theorem tp_28 : Cond.selects "ShadowTax" ⟨"ShadowTax", "imageOf", "(I)LShadowTax$State;"⟩ ⟨"ShadowTax", "imageOf", "(I)LShadowTax$State;"⟩ ∈ am_tb := am_inp (List.mem_of_getElem? (i := 28) (by decide +kernel)) rfl
theorem tp_29 : Cond.selects "ShadowTaxModel" ⟨"ShadowTaxModel", "here", "()I"⟩ ⟨"ShadowTaxModel", "here", "()I"⟩ ∈ am_tb := am_inp (List.mem_of_getElem? (i := 29) (by decide +kernel)) rfl
theorem tp_30 : Cond.selects "ShadowTaxModel" ⟨"ShadowTaxModel", "takeClause", "()I"⟩ ⟨"ShadowTaxModel", "takeClause", "()I"⟩ ∈ am_tb := am_inp (List.mem_of_getElem? (i := 30) (by decide +kernel)) rfl
theorem tp_31 : Cond.selects "ShadowTaxModel" ⟨"ShadowTaxModel", "readWord", "()V"⟩ ⟨"ShadowTaxModel", "readWord", "()V"⟩ ∈ am_tb := am_inp (List.mem_of_getElem? (i := 31) (by decide +kernel)) rfl
theorem tp_32 : Cond.selects "ShadowTaxModel" ⟨"ShadowTaxModel", "fails", "(II)I"⟩ ⟨"ShadowTaxModel", "fails", "(II)I"⟩ ∈ am_tb := am_inp (List.mem_of_getElem? (i := 32) (by decide +kernel)) rfl
theorem tp_33 : Cond.selects "ShadowTaxModel" ⟨"ShadowTaxModel", "takeGround", "()I"⟩ ⟨"ShadowTaxModel", "takeGround", "()I"⟩ ∈ am_tb := am_inp (List.mem_of_getElem? (i := 33) (by decide +kernel)) rfl
theorem tp_34 : Cond.selects "ShadowTaxModel" ⟨"ShadowTaxModel", "takeNumber", "(II)I"⟩ ⟨"ShadowTaxModel", "takeNumber", "(II)I"⟩ ∈ am_tb := am_inp (List.mem_of_getElem? (i := 34) (by decide +kernel)) rfl
theorem tp_35 : Cond.selects "ShadowTaxModel" ⟨"ShadowTaxModel", "takeHouse", "()I"⟩ ⟨"ShadowTaxModel", "takeHouse", "()I"⟩ ∈ am_tb := am_inp (List.mem_of_getElem? (i := 35) (by decide +kernel)) rfl
theorem tp_36 : Cond.selects "ShadowTaxModel" ⟨"ShadowTaxModel", "takeCell", "()I"⟩ ⟨"ShadowTaxModel", "takeCell", "()I"⟩ ∈ am_tb := am_inp (List.mem_of_getElem? (i := 36) (by decide +kernel)) rfl
theorem tp_37 : Cond.selects "ShadowTaxModel" ⟨"ShadowTaxModel", "isReadPerson", "(I)Z"⟩ ⟨"ShadowTaxModel", "isReadPerson", "(I)Z"⟩ ∈ am_tb := am_inp (List.mem_of_getElem? (i := 37) (by decide +kernel)) rfl
theorem tp_38 : Cond.selects "ShadowTaxModel" ⟨"ShadowTaxModel", "into", "([IIII)I"⟩ ⟨"ShadowTaxModel", "into", "([IIII)I"⟩ ∈ am_tb := am_inp (List.mem_of_getElem? (i := 38) (by decide +kernel)) rfl
theorem tp_39 : Cond.selects "ShadowTaxModel" ⟨"ShadowTaxModel", "takeSun", "()I"⟩ ⟨"ShadowTaxModel", "takeSun", "()I"⟩ ∈ am_tb := am_inp (List.mem_of_getElem? (i := 39) (by decide +kernel)) rfl
theorem tp_40 : Cond.selects "ShadowTaxModel" ⟨"ShadowTaxModel", "takePerson", "()I"⟩ ⟨"ShadowTaxModel", "takePerson", "()I"⟩ ∈ am_tb := am_inp (List.mem_of_getElem? (i := 40) (by decide +kernel)) rfl
theorem tp_41 : Cond.selects "ShadowTaxModel" ⟨"ShadowTaxModel", "takeGrey", "()I"⟩ ⟨"ShadowTaxModel", "takeGrey", "()I"⟩ ∈ am_tb := am_inp (List.mem_of_getElem? (i := 41) (by decide +kernel)) rfl
theorem tp_42 : Cond.selects "ShadowTaxModel" ⟨"ShadowTaxModel", "cells", "()I"⟩ ⟨"ShadowTaxModel", "cells", "()I"⟩ ∈ am_tb := am_inp (List.mem_of_getElem? (i := 42) (by decide +kernel)) rfl
theorem tp_43 : Cond.selects "ShadowTaxModel" ⟨"ShadowTaxModel", "meanOfAll", "()I"⟩ ⟨"ShadowTaxModel", "meanOfAll", "()I"⟩ ∈ am_tb := am_inp (List.mem_of_getElem? (i := 43) (by decide +kernel)) rfl
theorem tp_44 : Cond.selects "ShadowTaxModel" ⟨"ShadowTaxModel", "meanOf", "(I)I"⟩ ⟨"ShadowTaxModel", "meanOf", "(I)I"⟩ ∈ am_tb := am_inp (List.mem_of_getElem? (i := 44) (by decide +kernel)) rfl
theorem tp_45 : Cond.selects "ShadowTaxModel" ⟨"ShadowTaxModel", "owedAt", "(II)I"⟩ ⟨"ShadowTaxModel", "owedAt", "(II)I"⟩ ∈ am_tb := am_inp (List.mem_of_getElem? (i := 45) (by decide +kernel)) rfl
theorem tp_46 : Cond.selects "ShadowTaxModel" ⟨"ShadowTaxModel", "darkAt", "(I)J"⟩ ⟨"ShadowTaxModel", "darkAt", "(I)J"⟩ ∈ am_tb := am_inp (List.mem_of_getElem? (i := 46) (by decide +kernel)) rfl
theorem tp_47 : Cond.selects "ShadowTaxModel" ⟨"ShadowTaxModel", "shadowOf", "(III)J"⟩ ⟨"ShadowTaxModel", "shadowOf", "(III)J"⟩ ∈ am_tb := am_inp (List.mem_of_getElem? (i := 47) (by decide +kernel)) rfl
theorem tp_48 : Cond.selects "ShadowTaxModel" ⟨"ShadowTaxModel", "isCell", "(II)Z"⟩ ⟨"ShadowTaxModel", "isCell", "(II)Z"⟩ ∈ am_tb := am_inp (List.mem_of_getElem? (i := 48) (by decide +kernel)) rfl
theorem tp_49 : Cond.selects "ShadowTaxModel" ⟨"ShadowTaxModel", "castBy", "(IIJ)J"⟩ ⟨"ShadowTaxModel", "castBy", "(IIJ)J"⟩ ∈ am_tb := am_inp (List.mem_of_getElem? (i := 49) (by decide +kernel)) rfl
theorem tp_50 : Cond.selects "ShadowTaxModel" ⟨"ShadowTaxModel", "tallOf", "(I)I"⟩ ⟨"ShadowTaxModel", "tallOf", "(I)I"⟩ ∈ am_tb := am_inp (List.mem_of_getElem? (i := 50) (by decide +kernel)) rfl
theorem tp_51 : Cond.selects "ShadowTaxModel" ⟨"ShadowTaxModel", "paysAhead", "(II)Z"⟩ ⟨"ShadowTaxModel", "paysAhead", "(II)Z"⟩ ∈ am_tb := am_inp (List.mem_of_getElem? (i := 51) (by decide +kernel)) rfl
theorem tp_52 : Cond.selects "ShadowTaxModel" ⟨"ShadowTaxModel", "isHour", "(I)Z"⟩ ⟨"ShadowTaxModel", "isHour", "(I)Z"⟩ ∈ am_tb := am_inp (List.mem_of_getElem? (i := 52) (by decide +kernel)) rfl
theorem tp_53 : Cond.selects "ShadowTaxModel" ⟨"ShadowTaxModel", "castersAt", "(II)I"⟩ ⟨"ShadowTaxModel", "castersAt", "(II)I"⟩ ∈ am_tb := am_inp (List.mem_of_getElem? (i := 53) (by decide +kernel)) rfl
theorem tp_54 : Cond.selects "ShadowTaxModel" ⟨"ShadowTaxModel", "payerAt", "(II)I"⟩ ⟨"ShadowTaxModel", "payerAt", "(II)I"⟩ ∈ am_tb := am_inp (List.mem_of_getElem? (i := 54) (by decide +kernel)) rfl
theorem tp_55 : Cond.selects "ShadowTaxModel" ⟨"ShadowTaxModel", "isPerson", "(I)Z"⟩ ⟨"ShadowTaxModel", "isPerson", "(I)Z"⟩ ∈ am_tb := am_inp (List.mem_of_getElem? (i := 55) (by decide +kernel)) rfl
theorem tp_56 : Cond.selects "ShadowTaxModel" ⟨"ShadowTaxModel", "worstOf", "(I)I"⟩ ⟨"ShadowTaxModel", "worstOf", "(I)I"⟩ ∈ am_tb := am_inp (List.mem_of_getElem? (i := 56) (by decide +kernel)) rfl
theorem tp_57 : Cond.selects "ShadowTaxModel" ⟨"ShadowTaxModel", "told10", "(I)I"⟩ ⟨"ShadowTaxModel", "told10", "(I)I"⟩ ∈ am_tb := am_inp (List.mem_of_getElem? (i := 57) (by decide +kernel)) rfl
theorem tp_58 : Cond.selects "ShadowTaxModel" ⟨"ShadowTaxModel", "isSomebody", "(I)Z"⟩ ⟨"ShadowTaxModel", "isSomebody", "(I)Z"⟩ ∈ am_tb := am_inp (List.mem_of_getElem? (i := 58) (by decide +kernel)) rfl
theorem tp_59 : Cond.selects "ShadowTaxModel" ⟨"ShadowTaxModel", "dayNow", "()V"⟩ ⟨"ShadowTaxModel", "dayNow", "()V"⟩ ∈ am_tb := am_inp (List.mem_of_getElem? (i := 59) (by decide +kernel)) rfl
theorem tp_60 : Cond.selects "ShadowTaxModel" ⟨"ShadowTaxModel", "draw", "(I)I"⟩ ⟨"ShadowTaxModel", "draw", "(I)I"⟩ ∈ am_tb := am_inp (List.mem_of_getElem? (i := 60) (by decide +kernel)) rfl
theorem tp_61 : Cond.selects "ShadowTaxModel" ⟨"ShadowTaxModel", "sharesTill", "(I)I"⟩ ⟨"ShadowTaxModel", "sharesTill", "(I)I"⟩ ∈ am_tb := am_inp (List.mem_of_getElem? (i := 61) (by decide +kernel)) rfl
theorem tp_62 : Cond.selects "ShadowTaxModel" ⟨"ShadowTaxModel", "payAt", "(I)V"⟩ ⟨"ShadowTaxModel", "payAt", "(I)V"⟩ ∈ am_tb := am_inp (List.mem_of_getElem? (i := 62) (by decide +kernel)) rfl
theorem tp_63 : Cond.selects "ShadowTaxModel" ⟨"ShadowTaxModel", "findWalk", "(I)V"⟩ ⟨"ShadowTaxModel", "findWalk", "(I)V"⟩ ∈ am_tb := am_inp (List.mem_of_getElem? (i := 63) (by decide +kernel)) rfl
theorem tp_64 : Cond.selects "ShadowTaxModel" ⟨"ShadowTaxModel", "doesErrands", "(III)Z"⟩ ⟨"ShadowTaxModel", "doesErrands", "(III)Z"⟩ ∈ am_tb := am_inp (List.mem_of_getElem? (i := 64) (by decide +kernel)) rfl
theorem tp_65 : Cond.selects "ShadowTaxModel" ⟨"ShadowTaxModel", "isStep", "(II)Z"⟩ ⟨"ShadowTaxModel", "isStep", "(II)Z"⟩ ∈ am_tb := am_inp (List.mem_of_getElem? (i := 65) (by decide +kernel)) rfl
theorem tp_66 : Cond.selects "ShadowTaxModel" ⟨"ShadowTaxModel", "coupleOf", "(II)I"⟩ ⟨"ShadowTaxModel", "coupleOf", "(II)I"⟩ ∈ am_tb := am_inp (List.mem_of_getElem? (i := 66) (by decide +kernel)) rfl
theorem tp_67 : Cond.selects "ShadowTaxModel" ⟨"ShadowTaxModel", "setPartners", "(I)Z"⟩ ⟨"ShadowTaxModel", "setPartners", "(I)Z"⟩ ∈ am_tb := am_inp (List.mem_of_getElem? (i := 67) (by decide +kernel)) rfl
theorem tp_68 : Cond.selects "ShadowTaxModel" ⟨"ShadowTaxModel", "isFree", "(I)Z"⟩ ⟨"ShadowTaxModel", "isFree", "(I)Z"⟩ ∈ am_tb := am_inp (List.mem_of_getElem? (i := 68) (by decide +kernel)) rfl
theorem tp_69 : Cond.selects "ShadowTaxModel" ⟨"ShadowTaxModel", "isAsTold", "(I)Z"⟩ ⟨"ShadowTaxModel", "isAsTold", "(I)Z"⟩ ∈ am_tb := am_inp (List.mem_of_getElem? (i := 69) (by decide +kernel)) rfl
