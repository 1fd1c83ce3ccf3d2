theorem q1_0 : (Jvm.Cond.initialized "CashLinkLaw") ∈ x_Wd := x_i1 0 (Eq.refl _) rfl
theorem q1_1 : (Jvm.Cond.initialized "CashLink") ∈ x_Wd := x_i1 1 (Eq.refl _) rfl
theorem q1_2 : (Jvm.Cond.initialized "CashLink$Network") ∈ x_Wd := x_i1 2 (Eq.refl _) rfl
theorem q1_3 : (Jvm.Cond.initialized "java/util/AbstractCollection") ∈ x_Wd := x_i1 3 (Eq.refl _) rfl
theorem q1_4 : (Jvm.Cond.initialized "java/util/AbstractList") ∈ x_Wd := x_i1 4 (Eq.refl _) rfl
theorem q1_5 : (Jvm.Cond.initialized "java/util/ArrayList") ∈ x_Wd := x_i1 5 (Eq.refl _) rfl
theorem q1_6 : (Jvm.Cond.initialized "CashLink$Bank") ∈ x_Wd := x_i1 6 (Eq.refl _) rfl
theorem q1_7 : (Jvm.Cond.initialized "CashLink$Journal") ∈ x_Wd := x_i1 7 (Eq.refl _) rfl
theorem q1_8 : (Jvm.Cond.initialized "CashLink$Machine") ∈ x_Wd := x_i1 8 (Eq.refl _) rfl
theorem q1_9 : (Jvm.Cond.initialized "CashLink$Dispenser") ∈ x_Wd := x_i1 9 (Eq.refl _) rfl
theorem q1_12 : (Jvm.Cond.initialized "CashLinkModel") ∈ x_Wd := x_i1 12 (Eq.refl _) rfl
theorem q1_18 : (Jvm.Cond.initialized "java/lang/Math") ∈ x_Wd := x_i1 18 (Eq.refl _) rfl
theorem q1_20 : (Jvm.Cond.initialized "java/lang/Record") ∈ x_Wd := x_i1 20 (Eq.refl _) rfl
theorem q1_21 : (Jvm.Cond.initialized "CashLink$Entry") ∈ x_Wd := x_i1 21 (Eq.refl _) rfl
theorem q1_22 : (Jvm.Cond.initialized "jdk/internal/util/ArraysSupport") ∈ x_Wd := x_i1 22 (Eq.refl _) rfl
theorem q1_23 : (Jvm.Cond.initialized "java/util/Arrays") ∈ x_Wd := x_i1 23 (Eq.refl _) rfl
theorem q1_24 : (Jvm.Cond.initialized "java/lang/System") ∈ x_Wd := x_i1 24 (Eq.refl _) rfl
theorem q1_27 : (Jvm.Cond.initialized "CashLink$Message") ∈ x_Wd := x_i1 27 (Eq.refl _) rfl
theorem q1_28 : (Jvm.Cond.initialized "java/util/Objects") ∈ x_Wd := x_i1 28 (Eq.refl _) rfl
theorem q1_29 : (Jvm.Cond.initialized "jdk/internal/util/Preconditions") ∈ x_Wd := x_i1 29 (Eq.refl _) rfl
theorem q1_31 : (Jvm.Cond.initialized "java/lang/AbstractStringBuilder") ∈ x_Wd := x_i1 31 (Eq.refl _) rfl
theorem q1_32 : (Jvm.Cond.initialized "java/lang/StringBuilder") ∈ x_Wd := x_i1 32 (Eq.refl _) rfl
theorem q1_33 : (Jvm.Cond.initialized "java/lang/String") ∈ x_Wd := x_i1 33 (Eq.refl _) rfl
theorem q1_35 : (Jvm.Cond.initialized "java/lang/StringLatin1") ∈ x_Wd := x_i1 35 (Eq.refl _) rfl
theorem q1_36 : (Jvm.Cond.classLink "CashLinkLaw" (8 : Nat) "CashLink") ∈ x_Wd := x_i1 36 (Eq.refl _) rfl
theorem q1_37 : (Jvm.Cond.instantiable "CashLink" (4 : Nat)) ∈ x_Wd := x_i1 37 (Eq.refl _) rfl
theorem q1_38 : (Jvm.Cond.methodLink "CashLinkLaw" (77 : Nat) ({ cls := "CashLink", name := "<init>", desc := "()V" } : Jvm.MethodName)) ∈ x_Wd := x_i1 38 (Eq.refl _) rfl
theorem q1_39 : (Jvm.Cond.instanceMethod ({ cls := "CashLink", name := "<init>", desc := "()V" } : Jvm.MethodName)) ∈ x_Wd := x_i1 39 (Eq.refl _) rfl
theorem q1_40 : (Jvm.Cond.code ({ cls := "CashLink", name := "<init>", desc := "()V" } : Jvm.MethodName) prog_1_method_1_code (4 : Nat) (Option.none : Option Jvm.ClassFile.FieldType)) ∈ x_Wd := x_i1 40 (Eq.refl _) rfl
theorem q1_41 : (Jvm.Cond.methodLink "CashLink" (1 : Nat) ({ cls := "java/lang/Object", name := "<init>", desc := "()V" } : Jvm.MethodName)) ∈ x_Wd := x_i1 41 (Eq.refl _) rfl
theorem q1_42 : (Jvm.Cond.instanceMethod ({ cls := "java/lang/Object", name := "<init>", desc := "()V" } : Jvm.MethodName)) ∈ x_Wd := x_i1 42 (Eq.refl _) rfl
theorem q1_43 : (Jvm.Cond.code ({ cls := "java/lang/Object", name := "<init>", desc := "()V" } : Jvm.MethodName) object_method_1_code (1 : Nat) (Option.none : Option Jvm.ClassFile.FieldType)) ∈ x_Wd := x_i1 43 (Eq.refl _) rfl
theorem q1_44 : (Jvm.Cond.classLink "CashLink" (9 : Nat) "CashLink$Machine") ∈ x_Wd := x_i1 44 (Eq.refl _) rfl
theorem q1_45 : (Jvm.Cond.arrayOver (Jvm.ClassFile.FieldType.object "CashLink$Machine")) ∈ x_Wd := x_i1 45 (Eq.refl _) rfl
theorem q1_46 : (Jvm.Cond.classLink "CashLink" (15 : Nat) "CashLink$Network") ∈ x_Wd := x_i1 46 (Eq.refl _) rfl
theorem q1_47 : (Jvm.Cond.instantiable "CashLink$Network" (1 : Nat)) ∈ x_Wd := x_i1 47 (Eq.refl _) rfl
theorem q1_48 : (Jvm.Cond.methodLinkNest "CashLink" (17 : Nat) ({ cls := "CashLink$Network", name := "<init>", desc := "()V" } : Jvm.MethodName) "CashLink") ∈ x_Wd := x_i1 48 (Eq.refl _) rfl
theorem q1_49 : (Jvm.Cond.instanceMethod ({ cls := "CashLink$Network", name := "<init>", desc := "()V" } : Jvm.MethodName)) ∈ x_Wd := x_i1 49 (Eq.refl _) rfl
theorem q1_50 : (Jvm.Cond.code ({ cls := "CashLink$Network", name := "<init>", desc := "()V" } : Jvm.MethodName) prog_8_method_1_code (1 : Nat) (Option.none : Option Jvm.ClassFile.FieldType)) ∈ x_Wd := x_i1 50 (Eq.refl _) rfl
theorem q1_51 : (Jvm.Cond.methodLink "CashLink$Network" (1 : Nat) ({ cls := "java/lang/Object", name := "<init>", desc := "()V" } : Jvm.MethodName)) ∈ x_Wd := x_i1 51 (Eq.refl _) rfl
theorem q1_52 : (Jvm.Cond.classLink "CashLink$Network" (7 : Nat) "java/util/ArrayList") ∈ x_Wd := x_i1 52 (Eq.refl _) rfl
theorem q1_53 : (Jvm.Cond.instantiable "java/util/ArrayList" (3 : Nat)) ∈ x_Wd := x_i1 53 (Eq.refl _) rfl
theorem q1_54 : (Jvm.Cond.methodLink "CashLink$Network" (9 : Nat) ({ cls := "java/util/ArrayList", name := "<init>", desc := "()V" } : Jvm.MethodName)) ∈ x_Wd := x_i1 54 (Eq.refl _) rfl
theorem q1_55 : (Jvm.Cond.instanceMethod ({ cls := "java/util/ArrayList", name := "<init>", desc := "()V" } : Jvm.MethodName)) ∈ x_Wd := x_i1 55 (Eq.refl _) rfl
theorem q1_56 : (Jvm.Cond.code ({ cls := "java/util/ArrayList", name := "<init>", desc := "()V" } : Jvm.MethodName) prog_35_method_2_code (1 : Nat) (Option.none : Option Jvm.ClassFile.FieldType)) ∈ x_Wd := x_i1 56 (Eq.refl _) rfl
theorem q1_57 : (Jvm.Cond.methodLink "java/util/ArrayList" (1 : Nat) ({ cls := "java/util/AbstractList", name := "<init>", desc := "()V" } : Jvm.MethodName)) ∈ x_Wd := x_i1 57 (Eq.refl _) rfl
theorem q1_58 : (Jvm.Cond.instanceMethod ({ cls := "java/util/AbstractList", name := "<init>", desc := "()V" } : Jvm.MethodName)) ∈ x_Wd := x_i1 58 (Eq.refl _) rfl
theorem q1_59 : (Jvm.Cond.code ({ cls := "java/util/AbstractList", name := "<init>", desc := "()V" } : Jvm.MethodName) prog_34_method_1_code (1 : Nat) (Option.none : Option Jvm.ClassFile.FieldType)) ∈ x_Wd := x_i1 59 (Eq.refl _) rfl
theorem q1_60 : (Jvm.Cond.methodLink "java/util/AbstractList" (1 : Nat) ({ cls := "java/util/AbstractCollection", name := "<init>", desc := "()V" } : Jvm.MethodName)) ∈ x_Wd := x_i1 60 (Eq.refl _) rfl
theorem q1_61 : (Jvm.Cond.instanceMethod ({ cls := "java/util/AbstractCollection", name := "<init>", desc := "()V" } : Jvm.MethodName)) ∈ x_Wd := x_i1 61 (Eq.refl _) rfl
theorem q1_62 : (Jvm.Cond.code ({ cls := "java/util/AbstractCollection", name := "<init>", desc := "()V" } : Jvm.MethodName) prog_33_method_1_code (1 : Nat) (Option.none : Option Jvm.ClassFile.FieldType)) ∈ x_Wd := x_i1 62 (Eq.refl _) rfl
theorem q1_63 : (Jvm.Cond.methodLink "java/util/AbstractCollection" (1 : Nat) ({ cls := "java/lang/Object", name := "<init>", desc := "()V" } : Jvm.MethodName)) ∈ x_Wd := x_i1 63 (Eq.refl _) rfl
theorem q1_64 : (Jvm.Cond.fieldLink "java/util/ArrayList" (39 : Nat) "java/util/ArrayList" "DEFAULTCAPACITY_EMPTY_ELEMENTDATA" "[Ljava/lang/Object;") ∈ x_Wd := x_i1 64 (Eq.refl _) rfl
theorem q1_66 : (Jvm.Cond.fieldLink "java/util/ArrayList" (9 : Nat) "java/util/ArrayList" "elementData" "[Ljava/lang/Object;") ∈ x_Wd := x_i1 66 (Eq.refl _) rfl
theorem q1_67 : (Jvm.Cond.fieldLink "java/util/ArrayList" (48 : Nat) "java/util/ArrayList" "size" "I") ∈ x_Wd := x_i1 67 (Eq.refl _) rfl
theorem q1_68 : (Jvm.Cond.fieldLink "java/util/AbstractList" (7 : Nat) "java/util/AbstractList" "modCount" "I") ∈ x_Wd := x_i1 68 (Eq.refl _) rfl
theorem q1_69 : (Jvm.Cond.fieldLink "java/util/ArrayList" (63 : Nat) "java/util/ArrayList" "modCount" "I") ∈ x_Wd := x_i1 69 (Eq.refl _) rfl
theorem q1_70 : (Jvm.Cond.sameField "java/util/ArrayList" "java/util/AbstractList" "modCount" "I") ∈ x_Wd := x_i1 70 (Eq.refl _) rfl
theorem q1_78 : (Jvm.Cond.fieldLink "CashLink$Network" (10 : Nat) "CashLink$Network" "messages" "Ljava/util/ArrayList;") ∈ x_Wd := x_i1 78 (Eq.refl _) rfl
theorem q1_82 : (Jvm.Cond.classLink "CashLink" (26 : Nat) "CashLink$Bank") ∈ x_Wd := x_i1 82 (Eq.refl _) rfl
theorem q1_83 : (Jvm.Cond.instantiable "CashLink$Bank" (5 : Nat)) ∈ x_Wd := x_i1 83 (Eq.refl _) rfl
theorem q1_84 : (Jvm.Cond.methodLink "CashLink" (28 : Nat) ({ cls := "CashLink$Bank", name := "<init>", desc := "(LCashLink$Network;)V" } : Jvm.MethodName)) ∈ x_Wd := x_i1 84 (Eq.refl _) rfl
theorem q1_85 : (Jvm.Cond.instanceMethod ({ cls := "CashLink$Bank", name := "<init>", desc := "(LCashLink$Network;)V" } : Jvm.MethodName)) ∈ x_Wd := x_i1 85 (Eq.refl _) rfl
theorem q1_86 : (Jvm.Cond.code ({ cls := "CashLink$Bank", name := "<init>", desc := "(LCashLink$Network;)V" } : Jvm.MethodName) prog_2_method_1_code (3 : Nat) (Option.none : Option Jvm.ClassFile.FieldType)) ∈ x_Wd := x_i1 86 (Eq.refl _) rfl
theorem q1_87 : (Jvm.Cond.methodLink "CashLink$Bank" (3 : Nat) ({ cls := "java/lang/Object", name := "<init>", desc := "()V" } : Jvm.MethodName)) ∈ x_Wd := x_i1 87 (Eq.refl _) rfl
theorem q1_88 : (Jvm.Cond.classLink "CashLink$Bank" (9 : Nat) "CashLink$Journal") ∈ x_Wd := x_i1 88 (Eq.refl _) rfl
theorem q1_89 : (Jvm.Cond.instantiable "CashLink$Journal" (5 : Nat)) ∈ x_Wd := x_i1 89 (Eq.refl _) rfl
theorem q1_90 : (Jvm.Cond.methodLink "CashLink$Bank" (13 : Nat) ({ cls := "CashLink$Journal", name := "<init>", desc := "(I)V" } : Jvm.MethodName)) ∈ x_Wd := x_i1 90 (Eq.refl _) rfl
theorem q1_91 : (Jvm.Cond.instanceMethod ({ cls := "CashLink$Journal", name := "<init>", desc := "(I)V" } : Jvm.MethodName)) ∈ x_Wd := x_i1 91 (Eq.refl _) rfl
theorem q1_92 : (Jvm.Cond.code ({ cls := "CashLink$Journal", name := "<init>", desc := "(I)V" } : Jvm.MethodName) prog_5_method_1_code (2 : Nat) (Option.none : Option Jvm.ClassFile.FieldType)) ∈ x_Wd := x_i1 92 (Eq.refl _) rfl
theorem q1_93 : (Jvm.Cond.methodLink "CashLink$Journal" (1 : Nat) ({ cls := "java/lang/Object", name := "<init>", desc := "()V" } : Jvm.MethodName)) ∈ x_Wd := x_i1 93 (Eq.refl _) rfl
theorem q1_94 : (Jvm.Cond.classLink "CashLink$Journal" (7 : Nat) "java/util/ArrayList") ∈ x_Wd := x_i1 94 (Eq.refl _) rfl
theorem q1_95 : (Jvm.Cond.methodLink "CashLink$Journal" (9 : Nat) ({ cls := "java/util/ArrayList", name := "<init>", desc := "()V" } : Jvm.MethodName)) ∈ x_Wd := x_i1 95 (Eq.refl _) rfl
theorem q1_96 : (Jvm.Cond.fieldLink "CashLink$Journal" (10 : Nat) "CashLink$Journal" "entries" "Ljava/util/ArrayList;") ∈ x_Wd := x_i1 96 (Eq.refl _) rfl
theorem q1_97 : (Jvm.Cond.fieldLink "CashLink$Journal" (24 : Nat) "CashLink$Journal" "limit" "I") ∈ x_Wd := x_i1 97 (Eq.refl _) rfl
theorem q1_98 : (Jvm.Cond.fieldLink "CashLink$Journal" (16 : Nat) "CashLink$Journal" "powered" "Z") ∈ x_Wd := x_i1 98 (Eq.refl _) rfl
theorem q1_99 : (Jvm.Cond.fieldLink "CashLink$Journal" (37 : Nat) "CashLink$Journal" "recordsBeforeFailure" "I") ∈ x_Wd := x_i1 99 (Eq.refl _) rfl
theorem q1_100 : (Jvm.Cond.fieldLink "CashLink$Journal" (20 : Nat) "CashLink$Journal" "bytesAtFailure" "I") ∈ x_Wd := x_i1 100 (Eq.refl _) rfl
theorem q1_112 : (Jvm.Cond.arrayClass Jvm.ClassFile.FieldType.int) ∈ x_Wd := x_i1 112 (Eq.refl _) rfl
theorem q1_113 : (Jvm.Cond.fieldLink "CashLink$Bank" (24 : Nat) "CashLink$Bank" "network" "LCashLink$Network;") ∈ x_Wd := x_i1 113 (Eq.refl _) rfl
theorem q1_114 : (Jvm.Cond.fieldLink "CashLink$Bank" (16 : Nat) "CashLink$Bank" "journal" "LCashLink$Journal;") ∈ x_Wd := x_i1 114 (Eq.refl _) rfl
theorem q1_115 : (Jvm.Cond.fieldLink "CashLink" (117 : Nat) "CashLink$Bank" "journal" "LCashLink$Journal;") ∈ x_Wd := x_i1 115 (Eq.refl _) rfl
theorem q1_116 : (Jvm.Cond.fieldLink "CashLink$Bank" (20 : Nat) "CashLink$Bank" "balances" "[I") ∈ x_Wd := x_i1 116 (Eq.refl _) rfl
theorem q1_117 : (Jvm.Cond.fieldLink "CashLink$Bank" (35 : Nat) "CashLink$Bank" "booked" "I") ∈ x_Wd := x_i1 117 (Eq.refl _) rfl
theorem q1_118 : (Jvm.Cond.fieldLink "CashLink$Bank" (144 : Nat) "CashLink$Bank" "wrongTotals" "I") ∈ x_Wd := x_i1 118 (Eq.refl _) rfl
theorem q1_119 : (Jvm.Cond.fieldLink "CashLink" (178 : Nat) "CashLink$Bank" "wrongTotals" "I") ∈ x_Wd := x_i1 119 (Eq.refl _) rfl
theorem q1_131 : (Jvm.Cond.instantiable "CashLink$Machine" (11 : Nat)) ∈ x_Wd := x_i1 131 (Eq.refl _) rfl
theorem q1_132 : (Jvm.Cond.methodLink "CashLink" (35 : Nat) ({ cls := "CashLink$Machine", name := "<init>", desc := "(ILCashLink$Network;[I)V" } : Jvm.MethodName)) ∈ x_Wd := x_i1 132 (Eq.refl _) rfl
theorem q1_133 : (Jvm.Cond.instanceMethod ({ cls := "CashLink$Machine", name := "<init>", desc := "(ILCashLink$Network;[I)V" } : Jvm.MethodName)) ∈ x_Wd := x_i1 133 (Eq.refl _) rfl
theorem q1_134 : (Jvm.Cond.code ({ cls := "CashLink$Machine", name := "<init>", desc := "(ILCashLink$Network;[I)V" } : Jvm.MethodName) prog_6_method_1_code (4 : Nat) (Option.none : Option Jvm.ClassFile.FieldType)) ∈ x_Wd := x_i1 134 (Eq.refl _) rfl
theorem q1_135 : (Jvm.Cond.methodLink "CashLink$Machine" (1 : Nat) ({ cls := "java/lang/Object", name := "<init>", desc := "()V" } : Jvm.MethodName)) ∈ x_Wd := x_i1 135 (Eq.refl _) rfl
theorem q1_136 : (Jvm.Cond.classLink "CashLink$Machine" (7 : Nat) "CashLink$Journal") ∈ x_Wd := x_i1 136 (Eq.refl _) rfl
theorem q1_137 : (Jvm.Cond.methodLink "CashLink$Machine" (11 : Nat) ({ cls := "CashLink$Journal", name := "<init>", desc := "(I)V" } : Jvm.MethodName)) ∈ x_Wd := x_i1 137 (Eq.refl _) rfl
theorem q1_138 : (Jvm.Cond.classLink "CashLink$Machine" (18 : Nat) "CashLink$Dispenser") ∈ x_Wd := x_i1 138 (Eq.refl _) rfl
theorem q1_139 : (Jvm.Cond.instantiable "CashLink$Dispenser" (5 : Nat)) ∈ x_Wd := x_i1 139 (Eq.refl _) rfl
theorem q1_140 : (Jvm.Cond.methodLinkNest "CashLink$Machine" (20 : Nat) ({ cls := "CashLink$Dispenser", name := "<init>", desc := "()V" } : Jvm.MethodName) "CashLink") ∈ x_Wd := x_i1 140 (Eq.refl _) rfl
theorem q1_141 : (Jvm.Cond.instanceMethod ({ cls := "CashLink$Dispenser", name := "<init>", desc := "()V" } : Jvm.MethodName)) ∈ x_Wd := x_i1 141 (Eq.refl _) rfl
theorem q1_142 : (Jvm.Cond.code ({ cls := "CashLink$Dispenser", name := "<init>", desc := "()V" } : Jvm.MethodName) prog_3_method_1_code (1 : Nat) (Option.none : Option Jvm.ClassFile.FieldType)) ∈ x_Wd := x_i1 142 (Eq.refl _) rfl
theorem q1_143 : (Jvm.Cond.methodLink "CashLink$Dispenser" (3 : Nat) ({ cls := "java/lang/Object", name := "<init>", desc := "()V" } : Jvm.MethodName)) ∈ x_Wd := x_i1 143 (Eq.refl _) rfl
theorem q1_144 : (Jvm.Cond.fieldLink "CashLink$Dispenser" (9 : Nat) "CashLink$Dispenser" "notes" "[I") ∈ x_Wd := x_i1 144 (Eq.refl _) rfl
theorem q1_145 : (Jvm.Cond.fieldLink "CashLink$Dispenser" (15 : Nat) "CashLink$Dispenser" "jamAfter" "I") ∈ x_Wd := x_i1 145 (Eq.refl _) rfl
theorem q1_146 : (Jvm.Cond.fieldLink "CashLink" (104 : Nat) "CashLink$Dispenser" "jamAfter" "I") ∈ x_Wd := x_i1 146 (Eq.refl _) rfl
theorem q1_147 : (Jvm.Cond.fieldLink "CashLink$Dispenser" (29 : Nat) "CashLink$Dispenser" "lastTrace" "I") ∈ x_Wd := x_i1 147 (Eq.refl _) rfl
theorem q1_148 : (Jvm.Cond.fieldLink "CashLink$Dispenser" (38 : Nat) "CashLink$Dispenser" "lastValue" "I") ∈ x_Wd := x_i1 148 (Eq.refl _) rfl
theorem q1_149 : (Jvm.Cond.fieldLink "CashLink$Dispenser" (41 : Nat) "CashLink$Dispenser" "allValue" "I") ∈ x_Wd := x_i1 149 (Eq.refl _) rfl
theorem q1_161 : (Jvm.Cond.fieldLink "CashLink$Machine" (25 : Nat) "CashLink$State" "EMPTY" "LCashLink$State;") ∈ x_Wd := x_i1 161 (Eq.refl _) rfl
theorem q1_163 : (Jvm.Cond.classLink "CashLink$Machine" (34 : Nat) "java/util/ArrayList") ∈ x_Wd := x_i1 163 (Eq.refl _) rfl
theorem q1_164 : (Jvm.Cond.methodLink "CashLink$Machine" (36 : Nat) ({ cls := "java/util/ArrayList", name := "<init>", desc := "()V" } : Jvm.MethodName)) ∈ x_Wd := x_i1 164 (Eq.refl _) rfl
theorem q1_165 : (Jvm.Cond.fieldLink "CashLink$Machine" (41 : Nat) "CashLink$Machine" "id" "I") ∈ x_Wd := x_i1 165 (Eq.refl _) rfl
theorem q1_166 : (Jvm.Cond.fieldLink "CashLink$Machine" (45 : Nat) "CashLink$Machine" "network" "LCashLink$Network;") ∈ x_Wd := x_i1 166 (Eq.refl _) rfl
theorem q1_167 : (Jvm.Cond.fieldLink "CashLink$Machine" (49 : Nat) "CashLink$Machine" "takenBy" "[I") ∈ x_Wd := x_i1 167 (Eq.refl _) rfl
theorem q1_168 : (Jvm.Cond.fieldLink "CashLink$Machine" (14 : Nat) "CashLink$Machine" "journal" "LCashLink$Journal;") ∈ x_Wd := x_i1 168 (Eq.refl _) rfl
theorem q1_169 : (Jvm.Cond.fieldLink "CashLink" (121 : Nat) "CashLink$Machine" "journal" "LCashLink$Journal;") ∈ x_Wd := x_i1 169 (Eq.refl _) rfl
theorem q1_170 : (Jvm.Cond.fieldLink "CashLink$Machine" (21 : Nat) "CashLink$Machine" "dispenser" "LCashLink$Dispenser;") ∈ x_Wd := x_i1 170 (Eq.refl _) rfl
theorem q1_171 : (Jvm.Cond.fieldLink "CashLink" (100 : Nat) "CashLink$Machine" "dispenser" "LCashLink$Dispenser;") ∈ x_Wd := x_i1 171 (Eq.refl _) rfl
theorem q1_172 : (Jvm.Cond.fieldLink "CashLink$Machine" (31 : Nat) "CashLink$Machine" "state" "LCashLink$State;") ∈ x_Wd := x_i1 172 (Eq.refl _) rfl
theorem q1_173 : (Jvm.Cond.fieldLink "CashLink$Machine" (63 : Nat) "CashLink$Machine" "account" "I") ∈ x_Wd := x_i1 173 (Eq.refl _) rfl
theorem q1_174 : (Jvm.Cond.fieldLink "CashLink$Machine" (66 : Nat) "CashLink$Machine" "wrongPins" "I") ∈ x_Wd := x_i1 174 (Eq.refl _) rfl
theorem q1_175 : (Jvm.Cond.fieldLink "CashLink$Machine" (96 : Nat) "CashLink$Machine" "trace" "I") ∈ x_Wd := x_i1 175 (Eq.refl _) rfl
theorem q1_176 : (Jvm.Cond.fieldLink "CashLink$Machine" (106 : Nat) "CashLink$Machine" "amount" "I") ∈ x_Wd := x_i1 176 (Eq.refl _) rfl
theorem q1_177 : (Jvm.Cond.fieldLink "CashLink$Machine" (37 : Nat) "CashLink$Machine" "voids" "Ljava/util/ArrayList;") ∈ x_Wd := x_i1 177 (Eq.refl _) rfl
theorem q1_201 : (Jvm.Cond.fieldLink "CashLink" (18 : Nat) "CashLink" "network" "LCashLink$Network;") ∈ x_Wd := x_i1 201 (Eq.refl _) rfl
theorem q1_202 : (Jvm.Cond.fieldLink "CashLink" (31 : Nat) "CashLink" "bank" "LCashLink$Bank;") ∈ x_Wd := x_i1 202 (Eq.refl _) rfl
theorem q1_203 : (Jvm.Cond.fieldLink "CashLink" (11 : Nat) "CashLink" "machines" "[LCashLink$Machine;") ∈ x_Wd := x_i1 203 (Eq.refl _) rfl
theorem q1_204 : (Jvm.Cond.fieldLink "CashLink" (22 : Nat) "CashLink" "takenBy" "[I") ∈ x_Wd := x_i1 204 (Eq.refl _) rfl
theorem q1_214 : (Jvm.Cond.methodLink "CashLinkLaw" (81 : Nat) ({ cls := "CashLinkLaw", name := "card", desc := "(LCashLink;II)I" } : Jvm.MethodName)) ∈ x_Wd := x_i1 214 (Eq.refl _) rfl
theorem q1_215 : (Jvm.Cond.static ({ cls := "CashLinkLaw", name := "card", desc := "(LCashLink;II)I" } : Jvm.MethodName)) ∈ x_Wd := x_i1 215 (Eq.refl _) rfl
theorem q1_216 : (Jvm.Cond.codeWith ({ cls := "CashLinkLaw", name := "card", desc := "(LCashLink;II)I" } : Jvm.MethodName) method_3_code (4 : Nat) (Option.some Jvm.ClassFile.FieldType.int) [((0 : Nat), (6 : Nat), (9 : Nat), (13 : Nat)), ((0 : Nat), (6 : Nat), (12 : Nat), (15 : Nat))]) ∈ x_Wd := x_i1 216 (Eq.refl _) rfl
theorem q1_217 : (Jvm.Cond.classLink "CashLinkLaw" (13 : Nat) "java/lang/IllegalArgumentException") ∈ x_Wd := x_i1 217 (Eq.refl _) rfl
theorem q1_218 : (Jvm.Cond.classLink "CashLinkLaw" (15 : Nat) "java/lang/IllegalStateException") ∈ x_Wd := x_i1 218 (Eq.refl _) rfl
theorem q1_219 : (Jvm.Cond.methodLink "CashLinkLaw" (7 : Nat) ({ cls := "CashLink", name := "card", desc := "(II)V" } : Jvm.MethodName)) ∈ x_Wd := x_i1 219 (Eq.refl _) rfl
theorem q1_220 : (Jvm.Cond.instanceMethod ({ cls := "CashLink", name := "card", desc := "(II)V" } : Jvm.MethodName)) ∈ x_Wd := x_i1 220 (Eq.refl _) rfl
theorem q1_221 : (Jvm.Cond.selects "CashLink" ({ cls := "CashLink", name := "card", desc := "(II)V" } : Jvm.MethodName) ({ cls := "CashLink", name := "card", desc := "(II)V" } : Jvm.MethodName)) ∈ x_Wd := x_i1 221 (Eq.refl _) rfl
theorem q1_222 : (Jvm.Cond.code ({ cls := "CashLink", name := "card", desc := "(II)V" } : Jvm.MethodName) prog_1_method_2_code (4 : Nat) (Option.none : Option Jvm.ClassFile.FieldType)) ∈ x_Wd := x_i1 222 (Eq.refl _) rfl
theorem q1_223 : (Jvm.Cond.methodLink "CashLink" (38 : Nat) ({ cls := "CashLink", name := "machineAt", desc := "(I)LCashLink$Machine;" } : Jvm.MethodName)) ∈ x_Wd := x_i1 223 (Eq.refl _) rfl
theorem q1_225 : (Jvm.Cond.instanceMethod ({ cls := "CashLink", name := "machineAt", desc := "(I)LCashLink$Machine;" } : Jvm.MethodName)) ∈ x_Wd := x_i1 225 (Eq.refl _) rfl
theorem q1_226 : (Jvm.Cond.code ({ cls := "CashLink", name := "machineAt", desc := "(I)LCashLink$Machine;" } : Jvm.MethodName) prog_1_method_19_code (2 : Nat) (Option.some (Jvm.ClassFile.FieldType.object "CashLink$Machine"))) ∈ x_Wd := x_i1 226 (Eq.refl _) rfl
theorem q1_227 : (Jvm.Cond.methodLink "CashLink" (46 : Nat) ({ cls := "CashLink", name := "allow", desc := "(Z)V" } : Jvm.MethodName)) ∈ x_Wd := x_i1 227 (Eq.refl _) rfl
theorem q1_228 : (Jvm.Cond.static ({ cls := "CashLink", name := "allow", desc := "(Z)V" } : Jvm.MethodName)) ∈ x_Wd := x_i1 228 (Eq.refl _) rfl
theorem q1_229 : (Jvm.Cond.code ({ cls := "CashLink", name := "allow", desc := "(Z)V" } : Jvm.MethodName) prog_1_method_26_code (1 : Nat) (Option.none : Option Jvm.ClassFile.FieldType)) ∈ x_Wd := x_i1 229 (Eq.refl _) rfl
theorem q2_59 : (Jvm.Cond.arrayClass Jvm.ClassFile.FieldType.byte) ∈ x_Wd := x_i2 59 (Eq.refl _) rfl
theorem q2_60 : (Jvm.Cond.methodLink "CashLink" (42 : Nat) ({ cls := "CashLink", name := "isAccount", desc := "(I)Z" } : Jvm.MethodName)) ∈ x_Wd := x_i2 60 (Eq.refl _) rfl
theorem q2_61 : (Jvm.Cond.static ({ cls := "CashLink", name := "isAccount", desc := "(I)Z" } : Jvm.MethodName)) ∈ x_Wd := x_i2 61 (Eq.refl _) rfl
theorem q2_62 : (Jvm.Cond.code ({ cls := "CashLink", name := "isAccount", desc := "(I)Z" } : Jvm.MethodName) prog_1_method_24_code (1 : Nat) (Option.some Jvm.ClassFile.FieldType.boolean)) ∈ x_Wd := x_i2 62 (Eq.refl _) rfl
theorem q2_63 : (Jvm.Cond.methodLink "CashLink" (50 : Nat) ({ cls := "CashLink$Machine", name := "insert", desc := "(I)V" } : Jvm.MethodName)) ∈ x_Wd := x_i2 63 (Eq.refl _) rfl
theorem q2_64 : (Jvm.Cond.instanceMethod ({ cls := "CashLink$Machine", name := "insert", desc := "(I)V" } : Jvm.MethodName)) ∈ x_Wd := x_i2 64 (Eq.refl _) rfl
theorem q2_65 : (Jvm.Cond.selects "CashLink$Machine" ({ cls := "CashLink$Machine", name := "insert", desc := "(I)V" } : Jvm.MethodName) ({ cls := "CashLink$Machine", name := "insert", desc := "(I)V" } : Jvm.MethodName)) ∈ x_Wd := x_i2 65 (Eq.refl _) rfl
theorem q2_66 : (Jvm.Cond.code ({ cls := "CashLink$Machine", name := "insert", desc := "(I)V" } : Jvm.MethodName) prog_6_method_2_code (2 : Nat) (Option.none : Option Jvm.ClassFile.FieldType)) ∈ x_Wd := x_i2 66 (Eq.refl _) rfl
theorem q2_67 : (Jvm.Cond.methodLink "CashLink$Machine" (53 : Nat) ({ cls := "CashLink$Journal", name := "isOn", desc := "()Z" } : Jvm.MethodName)) ∈ x_Wd := x_i2 67 (Eq.refl _) rfl
theorem q2_68 : (Jvm.Cond.instanceMethod ({ cls := "CashLink$Journal", name := "isOn", desc := "()Z" } : Jvm.MethodName)) ∈ x_Wd := x_i2 68 (Eq.refl _) rfl
theorem q2_69 : (Jvm.Cond.selects "CashLink$Journal" ({ cls := "CashLink$Journal", name := "isOn", desc := "()Z" } : Jvm.MethodName) ({ cls := "CashLink$Journal", name := "isOn", desc := "()Z" } : Jvm.MethodName)) ∈ x_Wd := x_i2 69 (Eq.refl _) rfl
theorem q2_70 : (Jvm.Cond.code ({ cls := "CashLink$Journal", name := "isOn", desc := "()Z" } : Jvm.MethodName) prog_5_method_5_code (1 : Nat) (Option.some Jvm.ClassFile.FieldType.boolean)) ∈ x_Wd := x_i2 70 (Eq.refl _) rfl
theorem q2_71 : (Jvm.Cond.methodLinkNest "CashLink$Machine" (57 : Nat) ({ cls := "CashLink", name := "demand", desc := "(Z)V" } : Jvm.MethodName) "CashLink") ∈ x_Wd := x_i2 71 (Eq.refl _) rfl
theorem q2_72 : (Jvm.Cond.static ({ cls := "CashLink", name := "demand", desc := "(Z)V" } : Jvm.MethodName)) ∈ x_Wd := x_i2 72 (Eq.refl _) rfl
theorem q2_73 : (Jvm.Cond.code ({ cls := "CashLink", name := "demand", desc := "(Z)V" } : Jvm.MethodName) prog_1_method_27_code (1 : Nat) (Option.none : Option Jvm.ClassFile.FieldType)) ∈ x_Wd := x_i2 73 (Eq.refl _) rfl
theorem q2_90 : (Jvm.Cond.fieldLink "CashLink$Machine" (69 : Nat) "CashLink$State" "CARD" "LCashLink$State;") ∈ x_Wd := x_i2 90 (Eq.refl _) rfl
theorem q2_92 : (Jvm.Cond.methodLink "CashLinkLaw" (91 : Nat) ({ cls := "CashLinkLaw", name := "pin", desc := "(LCashLink;II[J)I" } : Jvm.MethodName)) ∈ x_Wd := x_i2 92 (Eq.refl _) rfl
theorem q2_93 : (Jvm.Cond.static ({ cls := "CashLinkLaw", name := "pin", desc := "(LCashLink;II[J)I" } : Jvm.MethodName)) ∈ x_Wd := x_i2 93 (Eq.refl _) rfl
theorem q2_94 : (Jvm.Cond.codeWith ({ cls := "CashLinkLaw", name := "pin", desc := "(LCashLink;II[J)I" } : Jvm.MethodName) method_4_code (5 : Nat) (Option.some Jvm.ClassFile.FieldType.int) [((0 : Nat), (17 : Nat), (20 : Nat), (13 : Nat)), ((0 : Nat), (17 : Nat), (24 : Nat), (15 : Nat))]) ∈ x_Wd := x_i2 94 (Eq.refl _) rfl
theorem q2_95 : (Jvm.Cond.methodLink "CashLinkLaw" (17 : Nat) ({ cls := "CashLink", name := "pin", desc := "(II)Z" } : Jvm.MethodName)) ∈ x_Wd := x_i2 95 (Eq.refl _) rfl
theorem q2_96 : (Jvm.Cond.instanceMethod ({ cls := "CashLink", name := "pin", desc := "(II)Z" } : Jvm.MethodName)) ∈ x_Wd := x_i2 96 (Eq.refl _) rfl
theorem q2_97 : (Jvm.Cond.selects "CashLink" ({ cls := "CashLink", name := "pin", desc := "(II)Z" } : Jvm.MethodName) ({ cls := "CashLink", name := "pin", desc := "(II)Z" } : Jvm.MethodName)) ∈ x_Wd := x_i2 97 (Eq.refl _) rfl
theorem q2_98 : (Jvm.Cond.code ({ cls := "CashLink", name := "pin", desc := "(II)Z" } : Jvm.MethodName) prog_1_method_3_code (3 : Nat) (Option.some Jvm.ClassFile.FieldType.boolean)) ∈ x_Wd := x_i2 98 (Eq.refl _) rfl
theorem q2_99 : (Jvm.Cond.methodLink "CashLink" (54 : Nat) ({ cls := "CashLink$Machine", name := "enter", desc := "(I)Z" } : Jvm.MethodName)) ∈ x_Wd := x_i2 99 (Eq.refl _) rfl
theorem q2_100 : (Jvm.Cond.instanceMethod ({ cls := "CashLink$Machine", name := "enter", desc := "(I)Z" } : Jvm.MethodName)) ∈ x_Wd := x_i2 100 (Eq.refl _) rfl
theorem q2_101 : (Jvm.Cond.selects "CashLink$Machine" ({ cls := "CashLink$Machine", name := "enter", desc := "(I)Z" } : Jvm.MethodName) ({ cls := "CashLink$Machine", name := "enter", desc := "(I)Z" } : Jvm.MethodName)) ∈ x_Wd := x_i2 101 (Eq.refl _) rfl
theorem q2_102 : (Jvm.Cond.code ({ cls := "CashLink$Machine", name := "enter", desc := "(I)Z" } : Jvm.MethodName) prog_6_method_3_code (2 : Nat) (Option.some Jvm.ClassFile.FieldType.boolean)) ∈ x_Wd := x_i2 102 (Eq.refl _) rfl
theorem q2_103 : (Jvm.Cond.fieldLink "CashLink$Machine" (72 : Nat) "CashLink$State" "READY" "LCashLink$State;") ∈ x_Wd := x_i2 103 (Eq.refl _) rfl
theorem q2_105 : (Jvm.Cond.methodLink "CashLinkLaw" (95 : Nat) ({ cls := "CashLinkLaw", name := "ask", desc := "(LCashLink;II[J)I" } : Jvm.MethodName)) ∈ x_Wd := x_i2 105 (Eq.refl _) rfl
theorem q2_106 : (Jvm.Cond.static ({ cls := "CashLinkLaw", name := "ask", desc := "(LCashLink;II[J)I" } : Jvm.MethodName)) ∈ x_Wd := x_i2 106 (Eq.refl _) rfl
theorem q2_107 : (Jvm.Cond.codeWith ({ cls := "CashLinkLaw", name := "ask", desc := "(LCashLink;II[J)I" } : Jvm.MethodName) method_5_code (5 : Nat) (Option.some Jvm.ClassFile.FieldType.int) [((0 : Nat), (10 : Nat), (13 : Nat), (13 : Nat)), ((0 : Nat), (10 : Nat), (17 : Nat), (15 : Nat)), ((0 : Nat), (10 : Nat), (21 : Nat), (25 : Nat)), ((0 : Nat), (10 : Nat), (25 : Nat), (27 : Nat))]) ∈ x_Wd := x_i2 107 (Eq.refl _) rfl
theorem q2_108 : (Jvm.Cond.classLink "CashLinkLaw" (25 : Nat) "java/lang/UnsupportedOperationException") ∈ x_Wd := x_i2 108 (Eq.refl _) rfl
theorem q2_109 : (Jvm.Cond.classLink "CashLinkLaw" (27 : Nat) "java/lang/ArithmeticException") ∈ x_Wd := x_i2 109 (Eq.refl _) rfl
theorem q2_110 : (Jvm.Cond.methodLink "CashLinkLaw" (21 : Nat) ({ cls := "CashLink", name := "ask", desc := "(II)I" } : Jvm.MethodName)) ∈ x_Wd := x_i2 110 (Eq.refl _) rfl
theorem q2_111 : (Jvm.Cond.instanceMethod ({ cls := "CashLink", name := "ask", desc := "(II)I" } : Jvm.MethodName)) ∈ x_Wd := x_i2 111 (Eq.refl _) rfl
theorem q2_112 : (Jvm.Cond.selects "CashLink" ({ cls := "CashLink", name := "ask", desc := "(II)I" } : Jvm.MethodName) ({ cls := "CashLink", name := "ask", desc := "(II)I" } : Jvm.MethodName)) ∈ x_Wd := x_i2 112 (Eq.refl _) rfl
theorem q2_113 : (Jvm.Cond.code ({ cls := "CashLink", name := "ask", desc := "(II)I" } : Jvm.MethodName) prog_1_method_4_code (4 : Nat) (Option.some Jvm.ClassFile.FieldType.int)) ∈ x_Wd := x_i2 113 (Eq.refl _) rfl
theorem q2_114 : (Jvm.Cond.methodLink "CashLink" (57 : Nat) ({ cls := "CashLink$Machine", name := "request", desc := "(I)I" } : Jvm.MethodName)) ∈ x_Wd := x_i2 114 (Eq.refl _) rfl
theorem q2_115 : (Jvm.Cond.instanceMethod ({ cls := "CashLink$Machine", name := "request", desc := "(I)I" } : Jvm.MethodName)) ∈ x_Wd := x_i2 115 (Eq.refl _) rfl
theorem q2_116 : (Jvm.Cond.selects "CashLink$Machine" ({ cls := "CashLink$Machine", name := "request", desc := "(I)I" } : Jvm.MethodName) ({ cls := "CashLink$Machine", name := "request", desc := "(I)I" } : Jvm.MethodName)) ∈ x_Wd := x_i2 116 (Eq.refl _) rfl
theorem q2_117 : (Jvm.Cond.code ({ cls := "CashLink$Machine", name := "request", desc := "(I)I" } : Jvm.MethodName) prog_6_method_4_code (3 : Nat) (Option.some Jvm.ClassFile.FieldType.int)) ∈ x_Wd := x_i2 117 (Eq.refl _) rfl
theorem q2_118 : (Jvm.Cond.methodLink "CashLink$Machine" (75 : Nat) ({ cls := "CashLink$Dispenser", name := "mixOf", desc := "(I)I" } : Jvm.MethodName)) ∈ x_Wd := x_i2 118 (Eq.refl _) rfl
theorem q2_119 : (Jvm.Cond.instanceMethod ({ cls := "CashLink$Dispenser", name := "mixOf", desc := "(I)I" } : Jvm.MethodName)) ∈ x_Wd := x_i2 119 (Eq.refl _) rfl
theorem q2_120 : (Jvm.Cond.selects "CashLink$Dispenser" ({ cls := "CashLink$Dispenser", name := "mixOf", desc := "(I)I" } : Jvm.MethodName) ({ cls := "CashLink$Dispenser", name := "mixOf", desc := "(I)I" } : Jvm.MethodName)) ∈ x_Wd := x_i2 120 (Eq.refl _) rfl
theorem q2_121 : (Jvm.Cond.code ({ cls := "CashLink$Dispenser", name := "mixOf", desc := "(I)I" } : Jvm.MethodName) prog_3_method_3_code (10 : Nat) (Option.some Jvm.ClassFile.FieldType.int)) ∈ x_Wd := x_i2 121 (Eq.refl _) rfl
theorem q2_122 : (Jvm.Cond.methodLink "CashLink$Dispenser" (23 : Nat) ({ cls := "java/lang/Math", name := "min", desc := "(II)I" } : Jvm.MethodName)) ∈ x_Wd := x_i2 122 (Eq.refl _) rfl
theorem q2_123 : (Jvm.Cond.static ({ cls := "java/lang/Math", name := "min", desc := "(II)I" } : Jvm.MethodName)) ∈ x_Wd := x_i2 123 (Eq.refl _) rfl
theorem q2_124 : (Jvm.Cond.code ({ cls := "java/lang/Math", name := "min", desc := "(II)I" } : Jvm.MethodName) prog_23_method_69_code (2 : Nat) (Option.some Jvm.ClassFile.FieldType.int)) ∈ x_Wd := x_i2 124 (Eq.refl _) rfl
theorem q2_125 : (Jvm.Cond.methodLink "CashLink$Machine" (79 : Nat) ({ cls := "java/util/ArrayList", name := "size", desc := "()I" } : Jvm.MethodName)) ∈ x_Wd := x_i2 125 (Eq.refl _) rfl
theorem q2_126 : (Jvm.Cond.instanceMethod ({ cls := "java/util/ArrayList", name := "size", desc := "()I" } : Jvm.MethodName)) ∈ x_Wd := x_i2 126 (Eq.refl _) rfl
theorem q2_127 : (Jvm.Cond.selects "java/util/ArrayList" ({ cls := "java/util/ArrayList", name := "size", desc := "()I" } : Jvm.MethodName) ({ cls := "java/util/ArrayList", name := "size", desc := "()I" } : Jvm.MethodName)) ∈ x_Wd := x_i2 127 (Eq.refl _) rfl
theorem q2_128 : (Jvm.Cond.code ({ cls := "java/util/ArrayList", name := "size", desc := "()I" } : Jvm.MethodName) prog_35_method_8_code (1 : Nat) (Option.some Jvm.ClassFile.FieldType.int)) ∈ x_Wd := x_i2 128 (Eq.refl _) rfl
theorem q2_129 : (Jvm.Cond.methodLink "CashLink$Machine" (83 : Nat) ({ cls := "CashLink$Journal", name := "hasRoomFor", desc := "(I)Z" } : Jvm.MethodName)) ∈ x_Wd := x_i2 129 (Eq.refl _) rfl
theorem q2_130 : (Jvm.Cond.instanceMethod ({ cls := "CashLink$Journal", name := "hasRoomFor", desc := "(I)Z" } : Jvm.MethodName)) ∈ x_Wd := x_i2 130 (Eq.refl _) rfl
theorem q2_131 : (Jvm.Cond.selects "CashLink$Journal" ({ cls := "CashLink$Journal", name := "hasRoomFor", desc := "(I)Z" } : Jvm.MethodName) ({ cls := "CashLink$Journal", name := "hasRoomFor", desc := "(I)Z" } : Jvm.MethodName)) ∈ x_Wd := x_i2 131 (Eq.refl _) rfl
theorem q2_132 : (Jvm.Cond.code ({ cls := "CashLink$Journal", name := "hasRoomFor", desc := "(I)Z" } : Jvm.MethodName) prog_5_method_4_code (2 : Nat) (Option.some Jvm.ClassFile.FieldType.boolean)) ∈ x_Wd := x_i2 132 (Eq.refl _) rfl
theorem q2_133 : (Jvm.Cond.methodLink "CashLink$Journal" (27 : Nat) ({ cls := "java/util/ArrayList", name := "size", desc := "()I" } : Jvm.MethodName)) ∈ x_Wd := x_i2 133 (Eq.refl _) rfl
theorem q2_150 : (Jvm.Cond.classLink "CashLink$Machine" (94 : Nat) "CashLink$Entry") ∈ x_Wd := x_i2 150 (Eq.refl _) rfl
theorem q2_151 : (Jvm.Cond.instantiable "CashLink$Entry" (6 : Nat)) ∈ x_Wd := x_i2 151 (Eq.refl _) rfl
theorem q2_152 : (Jvm.Cond.methodLinkNest "CashLink$Machine" (99 : Nat) ({ cls := "CashLink$Entry", name := "<init>", desc := "(IIIIII)V" } : Jvm.MethodName) "CashLink") ∈ x_Wd := x_i2 152 (Eq.refl _) rfl
theorem q2_153 : (Jvm.Cond.instanceMethod ({ cls := "CashLink$Entry", name := "<init>", desc := "(IIIIII)V" } : Jvm.MethodName)) ∈ x_Wd := x_i2 153 (Eq.refl _) rfl
theorem q2_154 : (Jvm.Cond.code ({ cls := "CashLink$Entry", name := "<init>", desc := "(IIIIII)V" } : Jvm.MethodName) prog_4_method_2_code (7 : Nat) (Option.none : Option Jvm.ClassFile.FieldType)) ∈ x_Wd := x_i2 154 (Eq.refl _) rfl
theorem q2_155 : (Jvm.Cond.methodLink "CashLink$Entry" (1 : Nat) ({ cls := "java/lang/Record", name := "<init>", desc := "()V" } : Jvm.MethodName)) ∈ x_Wd := x_i2 155 (Eq.refl _) rfl
theorem q2_156 : (Jvm.Cond.instanceMethod ({ cls := "java/lang/Record", name := "<init>", desc := "()V" } : Jvm.MethodName)) ∈ x_Wd := x_i2 156 (Eq.refl _) rfl
theorem q2_157 : (Jvm.Cond.code ({ cls := "java/lang/Record", name := "<init>", desc := "()V" } : Jvm.MethodName) prog_24_method_1_code (1 : Nat) (Option.none : Option Jvm.ClassFile.FieldType)) ∈ x_Wd := x_i2 157 (Eq.refl _) rfl
theorem q2_158 : (Jvm.Cond.methodLink "java/lang/Record" (1 : Nat) ({ cls := "java/lang/Object", name := "<init>", desc := "()V" } : Jvm.MethodName)) ∈ x_Wd := x_i2 158 (Eq.refl _) rfl
theorem q2_159 : (Jvm.Cond.fieldLink "CashLink$Entry" (7 : Nat) "CashLink$Entry" "kind" "I") ∈ x_Wd := x_i2 159 (Eq.refl _) rfl
theorem q2_160 : (Jvm.Cond.fieldLink "CashLink$Entry" (13 : Nat) "CashLink$Entry" "machine" "I") ∈ x_Wd := x_i2 160 (Eq.refl _) rfl
theorem q2_161 : (Jvm.Cond.fieldLink "CashLink$Entry" (16 : Nat) "CashLink$Entry" "trace" "I") ∈ x_Wd := x_i2 161 (Eq.refl _) rfl
theorem q2_162 : (Jvm.Cond.fieldLink "CashLink$Entry" (19 : Nat) "CashLink$Entry" "account" "I") ∈ x_Wd := x_i2 162 (Eq.refl _) rfl
theorem q2_163 : (Jvm.Cond.fieldLink "CashLink$Entry" (22 : Nat) "CashLink$Entry" "value" "I") ∈ x_Wd := x_i2 163 (Eq.refl _) rfl
theorem q2_164 : (Jvm.Cond.fieldLink "CashLink$Entry" (25 : Nat) "CashLink$Entry" "answer" "I") ∈ x_Wd := x_i2 164 (Eq.refl _) rfl
theorem q2_178 : (Jvm.Cond.methodLink "CashLink$Machine" (102 : Nat) ({ cls := "CashLink$Journal", name := "write", desc := "(LCashLink$Entry;)V" } : Jvm.MethodName)) ∈ x_Wd := x_i2 178 (Eq.refl _) rfl
theorem q2_179 : (Jvm.Cond.instanceMethod ({ cls := "CashLink$Journal", name := "write", desc := "(LCashLink$Entry;)V" } : Jvm.MethodName)) ∈ x_Wd := x_i2 179 (Eq.refl _) rfl
theorem q2_180 : (Jvm.Cond.selects "CashLink$Journal" ({ cls := "CashLink$Journal", name := "write", desc := "(LCashLink$Entry;)V" } : Jvm.MethodName) ({ cls := "CashLink$Journal", name := "write", desc := "(LCashLink$Entry;)V" } : Jvm.MethodName)) ∈ x_Wd := x_i2 180 (Eq.refl _) rfl
theorem q2_181 : (Jvm.Cond.code ({ cls := "CashLink$Journal", name := "write", desc := "(LCashLink$Entry;)V" } : Jvm.MethodName) prog_5_method_8_code (3 : Nat) (Option.none : Option Jvm.ClassFile.FieldType)) ∈ x_Wd := x_i2 181 (Eq.refl _) rfl
theorem q2_182 : (Jvm.Cond.methodLink "CashLink$Journal" (40 : Nat) ({ cls := "java/util/ArrayList", name := "add", desc := "(Ljava/lang/Object;)Z" } : Jvm.MethodName)) ∈ x_Wd := x_i2 182 (Eq.refl _) rfl
theorem q2_183 : (Jvm.Cond.instanceMethod ({ cls := "java/util/ArrayList", name := "add", desc := "(Ljava/lang/Object;)Z" } : Jvm.MethodName)) ∈ x_Wd := x_i2 183 (Eq.refl _) rfl
theorem q2_184 : (Jvm.Cond.selects "java/util/ArrayList" ({ cls := "java/util/ArrayList", name := "add", desc := "(Ljava/lang/Object;)Z" } : Jvm.MethodName) ({ cls := "java/util/ArrayList", name := "add", desc := "(Ljava/lang/Object;)Z" } : Jvm.MethodName)) ∈ x_Wd := x_i2 184 (Eq.refl _) rfl
theorem q2_185 : (Jvm.Cond.code ({ cls := "java/util/ArrayList", name := "add", desc := "(Ljava/lang/Object;)Z" } : Jvm.MethodName) prog_35_method_25_code (2 : Nat) (Option.some Jvm.ClassFile.FieldType.boolean)) ∈ x_Wd := x_i2 185 (Eq.refl _) rfl
theorem q2_186 : (Jvm.Cond.methodLink "java/util/ArrayList" (131 : Nat) ({ cls := "java/util/ArrayList", name := "add", desc := "(Ljava/lang/Object;[Ljava/lang/Object;I)V" } : Jvm.MethodName)) ∈ x_Wd := x_i2 186 (Eq.refl _) rfl
theorem q2_188 : (Jvm.Cond.instanceMethod ({ cls := "java/util/ArrayList", name := "add", desc := "(Ljava/lang/Object;[Ljava/lang/Object;I)V" } : Jvm.MethodName)) ∈ x_Wd := x_i2 188 (Eq.refl _) rfl
theorem q2_189 : (Jvm.Cond.code ({ cls := "java/util/ArrayList", name := "add", desc := "(Ljava/lang/Object;[Ljava/lang/Object;I)V" } : Jvm.MethodName) prog_35_method_24_code (4 : Nat) (Option.none : Option Jvm.ClassFile.FieldType)) ∈ x_Wd := x_i2 189 (Eq.refl _) rfl
theorem q2_190 : (Jvm.Cond.methodLink "java/util/ArrayList" (129 : Nat) ({ cls := "java/util/ArrayList", name := "grow", desc := "()[Ljava/lang/Object;" } : Jvm.MethodName)) ∈ x_Wd := x_i2 190 (Eq.refl _) rfl
theorem q2_192 : (Jvm.Cond.instanceMethod ({ cls := "java/util/ArrayList", name := "grow", desc := "()[Ljava/lang/Object;" } : Jvm.MethodName)) ∈ x_Wd := x_i2 192 (Eq.refl _) rfl
theorem q2_193 : (Jvm.Cond.code ({ cls := "java/util/ArrayList", name := "grow", desc := "()[Ljava/lang/Object;" } : Jvm.MethodName) prog_35_method_7_code (1 : Nat) (Option.some (Jvm.ClassFile.FieldType.array (Jvm.ClassFile.FieldType.object "java/lang/Object")))) ∈ x_Wd := x_i2 193 (Eq.refl _) rfl
theorem q2_194 : (Jvm.Cond.methodLink "java/util/ArrayList" (69 : Nat) ({ cls := "java/util/ArrayList", name := "grow", desc := "(I)[Ljava/lang/Object;" } : Jvm.MethodName)) ∈ x_Wd := x_i2 194 (Eq.refl _) rfl
theorem q2_196 : (Jvm.Cond.instanceMethod ({ cls := "java/util/ArrayList", name := "grow", desc := "(I)[Ljava/lang/Object;" } : Jvm.MethodName)) ∈ x_Wd := x_i2 196 (Eq.refl _) rfl
theorem q2_197 : (Jvm.Cond.code ({ cls := "java/util/ArrayList", name := "grow", desc := "(I)[Ljava/lang/Object;" } : Jvm.MethodName) prog_35_method_6_code (4 : Nat) (Option.some (Jvm.ClassFile.FieldType.array (Jvm.ClassFile.FieldType.object "java/lang/Object")))) ∈ x_Wd := x_i2 197 (Eq.refl _) rfl
theorem q2_198 : (Jvm.Cond.methodLink "java/util/ArrayList" (73 : Nat) ({ cls := "jdk/internal/util/ArraysSupport", name := "newLength", desc := "(III)I" } : Jvm.MethodName)) ∈ x_Wd := x_i2 198 (Eq.refl _) rfl
theorem q2_199 : (Jvm.Cond.static ({ cls := "jdk/internal/util/ArraysSupport", name := "newLength", desc := "(III)I" } : Jvm.MethodName)) ∈ x_Wd := x_i2 199 (Eq.refl _) rfl
theorem q2_200 : (Jvm.Cond.code ({ cls := "jdk/internal/util/ArraysSupport", name := "newLength", desc := "(III)I" } : Jvm.MethodName) prog_42_method_27_code (4 : Nat) (Option.some Jvm.ClassFile.FieldType.int)) ∈ x_Wd := x_i2 200 (Eq.refl _) rfl
theorem q2_201 : (Jvm.Cond.methodLink "jdk/internal/util/ArraysSupport" (194 : Nat) ({ cls := "java/lang/Math", name := "max", desc := "(II)I" } : Jvm.MethodName)) ∈ x_Wd := x_i2 201 (Eq.refl _) rfl
theorem q2_202 : (Jvm.Cond.static ({ cls := "java/lang/Math", name := "max", desc := "(II)I" } : Jvm.MethodName)) ∈ x_Wd := x_i2 202 (Eq.refl _) rfl
theorem q2_203 : (Jvm.Cond.code ({ cls := "java/lang/Math", name := "max", desc := "(II)I" } : Jvm.MethodName) prog_23_method_65_code (2 : Nat) (Option.some Jvm.ClassFile.FieldType.int)) ∈ x_Wd := x_i2 203 (Eq.refl _) rfl
theorem q2_204 : (Jvm.Cond.constant "jdk/internal/util/ArraysSupport" (200 : Nat) (2147483639 : Int32)) ∈ x_Wd := x_i2 204 (Eq.refl _) rfl
theorem q2_208 : (Jvm.Cond.methodLink "java/util/ArrayList" (66 : Nat) ({ cls := "java/util/Arrays", name := "copyOf", desc := "([Ljava/lang/Object;I)[Ljava/lang/Object;" } : Jvm.MethodName)) ∈ x_Wd := x_i2 208 (Eq.refl _) rfl
theorem q2_209 : (Jvm.Cond.static ({ cls := "java/util/Arrays", name := "copyOf", desc := "([Ljava/lang/Object;I)[Ljava/lang/Object;" } : Jvm.MethodName)) ∈ x_Wd := x_i2 209 (Eq.refl _) rfl
theorem q2_210 : (Jvm.Cond.code ({ cls := "java/util/Arrays", name := "copyOf", desc := "([Ljava/lang/Object;I)[Ljava/lang/Object;" } : Jvm.MethodName) prog_36_method_119_code (2 : Nat) (Option.some (Jvm.ClassFile.FieldType.array (Jvm.ClassFile.FieldType.object "java/lang/Object")))) ∈ x_Wd := x_i2 210 (Eq.refl _) rfl
theorem q2_211 : (Jvm.Cond.methodLink "java/util/Arrays" (86 : Nat) ({ cls := "java/lang/Object", name := "getClass", desc := "()Ljava/lang/Class;" } : Jvm.MethodName)) ∈ x_Wd := x_i2 211 (Eq.refl _) rfl
theorem q2_212 : (Jvm.Cond.instanceMethod ({ cls := "java/lang/Object", name := "getClass", desc := "()Ljava/lang/Class;" } : Jvm.MethodName)) ∈ x_Wd := x_i2 212 (Eq.refl _) rfl
theorem q2_232 : (Jvm.Cond.native ({ cls := "java/lang/Object", name := "getClass", desc := "()Ljava/lang/Class;" } : Jvm.MethodName)) ∈ x_Wd := x_i2 232 (Eq.refl _) rfl
theorem q2_233 : (Jvm.Cond.methodLink "java/util/Arrays" (300 : Nat) ({ cls := "java/util/Arrays", name := "copyOf", desc := "([Ljava/lang/Object;ILjava/lang/Class;)[Ljava/lang/Object;" } : Jvm.MethodName)) ∈ x_Wd := x_i2 233 (Eq.refl _) rfl
theorem q2_234 : (Jvm.Cond.static ({ cls := "java/util/Arrays", name := "copyOf", desc := "([Ljava/lang/Object;ILjava/lang/Class;)[Ljava/lang/Object;" } : Jvm.MethodName)) ∈ x_Wd := x_i2 234 (Eq.refl _) rfl
theorem q2_235 : (Jvm.Cond.code ({ cls := "java/util/Arrays", name := "copyOf", desc := "([Ljava/lang/Object;ILjava/lang/Class;)[Ljava/lang/Object;" } : Jvm.MethodName) prog_36_method_120_code (4 : Nat) (Option.some (Jvm.ClassFile.FieldType.array (Jvm.ClassFile.FieldType.object "java/lang/Object")))) ∈ x_Wd := x_i2 235 (Eq.refl _) rfl
theorem q2_236 : (Jvm.Cond.classLink "java/util/Arrays" (110 : Nat) "[Ljava/lang/Object;") ∈ x_Wd := x_i2 236 (Eq.refl _) rfl
theorem q2_237 : (Jvm.Cond.arrayOver (Jvm.ClassFile.FieldType.object "java/lang/Object")) ∈ x_Wd := x_i2 237 (Eq.refl _) rfl
theorem q2_238 : (Jvm.Cond.classLink "java/util/Arrays" (2 : Nat) "java/lang/Object") ∈ x_Wd := x_i2 238 (Eq.refl _) rfl
theorem q2_239 : (Jvm.Cond.methodLink "java/util/Arrays" (304 : Nat) ({ cls := "java/lang/Math", name := "min", desc := "(II)I" } : Jvm.MethodName)) ∈ x_Wd := x_i2 239 (Eq.refl _) rfl
theorem q3_0 : (Jvm.Cond.methodLink "java/util/Arrays" (150 : Nat) ({ cls := "java/lang/System", name := "arraycopy", desc := "(Ljava/lang/Object;ILjava/lang/Object;II)V" } : Jvm.MethodName)) ∈ x_Wd := x_i3 0 (Eq.refl _) rfl
theorem q3_1 : (Jvm.Cond.static ({ cls := "java/lang/System", name := "arraycopy", desc := "(Ljava/lang/Object;ILjava/lang/Object;II)V" } : Jvm.MethodName)) ∈ x_Wd := x_i3 1 (Eq.refl _) rfl
theorem q3_2 : (Jvm.Cond.native ({ cls := "java/lang/System", name := "arraycopy", desc := "(Ljava/lang/Object;ILjava/lang/Object;II)V" } : Jvm.MethodName)) ∈ x_Wd := x_i3 2 (Eq.refl _) rfl
theorem q3_3 : (Jvm.Cond.methodLink "java/util/ArrayList" (79 : Nat) ({ cls := "java/lang/Math", name := "max", desc := "(II)I" } : Jvm.MethodName)) ∈ x_Wd := x_i3 3 (Eq.refl _) rfl
theorem q3_4 : (Jvm.Cond.classLink "java/util/ArrayList" (7 : Nat) "java/lang/Object") ∈ x_Wd := x_i3 4 (Eq.refl _) rfl
theorem q3_21 : (Jvm.Cond.fieldLink "CashLink$Machine" (109 : Nat) "CashLink$Type" "REQUEST" "LCashLink$Type;") ∈ x_Wd := x_i3 21 (Eq.refl _) rfl
theorem q3_23 : (Jvm.Cond.methodLink "CashLink$Machine" (115 : Nat) ({ cls := "CashLink$Network", name := "send", desc := "(LCashLink$Type;IIIII)Z" } : Jvm.MethodName)) ∈ x_Wd := x_i3 23 (Eq.refl _) rfl
theorem q3_24 : (Jvm.Cond.instanceMethod ({ cls := "CashLink$Network", name := "send", desc := "(LCashLink$Type;IIIII)Z" } : Jvm.MethodName)) ∈ x_Wd := x_i3 24 (Eq.refl _) rfl
theorem q3_25 : (Jvm.Cond.selects "CashLink$Network" ({ cls := "CashLink$Network", name := "send", desc := "(LCashLink$Type;IIIII)Z" } : Jvm.MethodName) ({ cls := "CashLink$Network", name := "send", desc := "(LCashLink$Type;IIIII)Z" } : Jvm.MethodName)) ∈ x_Wd := x_i3 25 (Eq.refl _) rfl
theorem q3_26 : (Jvm.Cond.code ({ cls := "CashLink$Network", name := "send", desc := "(LCashLink$Type;IIIII)Z" } : Jvm.MethodName) prog_8_method_4_code (7 : Nat) (Option.some Jvm.ClassFile.FieldType.boolean)) ∈ x_Wd := x_i3 26 (Eq.refl _) rfl
theorem q3_27 : (Jvm.Cond.methodLink "CashLink$Network" (16 : Nat) ({ cls := "java/util/ArrayList", name := "size", desc := "()I" } : Jvm.MethodName)) ∈ x_Wd := x_i3 27 (Eq.refl _) rfl
theorem q3_28 : (Jvm.Cond.classLink "CashLink$Network" (24 : Nat) "CashLink$Message") ∈ x_Wd := x_i3 28 (Eq.refl _) rfl
theorem q3_29 : (Jvm.Cond.instantiable "CashLink$Message" (6 : Nat)) ∈ x_Wd := x_i3 29 (Eq.refl _) rfl
theorem q3_30 : (Jvm.Cond.methodLinkNest "CashLink$Network" (26 : Nat) ({ cls := "CashLink$Message", name := "<init>", desc := "(LCashLink$Type;IIIII)V" } : Jvm.MethodName) "CashLink") ∈ x_Wd := x_i3 30 (Eq.refl _) rfl
theorem q3_31 : (Jvm.Cond.instanceMethod ({ cls := "CashLink$Message", name := "<init>", desc := "(LCashLink$Type;IIIII)V" } : Jvm.MethodName)) ∈ x_Wd := x_i3 31 (Eq.refl _) rfl
theorem q3_32 : (Jvm.Cond.code ({ cls := "CashLink$Message", name := "<init>", desc := "(LCashLink$Type;IIIII)V" } : Jvm.MethodName) prog_7_method_1_code (7 : Nat) (Option.none : Option Jvm.ClassFile.FieldType)) ∈ x_Wd := x_i3 32 (Eq.refl _) rfl
theorem q3_33 : (Jvm.Cond.methodLink "CashLink$Message" (1 : Nat) ({ cls := "java/lang/Record", name := "<init>", desc := "()V" } : Jvm.MethodName)) ∈ x_Wd := x_i3 33 (Eq.refl _) rfl
theorem q3_34 : (Jvm.Cond.fieldLink "CashLink$Message" (7 : Nat) "CashLink$Message" "type" "LCashLink$Type;") ∈ x_Wd := x_i3 34 (Eq.refl _) rfl
theorem q3_35 : (Jvm.Cond.fieldLink "CashLink$Message" (13 : Nat) "CashLink$Message" "machine" "I") ∈ x_Wd := x_i3 35 (Eq.refl _) rfl
theorem q3_36 : (Jvm.Cond.fieldLink "CashLink$Message" (17 : Nat) "CashLink$Message" "trace" "I") ∈ x_Wd := x_i3 36 (Eq.refl _) rfl
theorem q3_37 : (Jvm.Cond.fieldLink "CashLink$Message" (20 : Nat) "CashLink$Message" "account" "I") ∈ x_Wd := x_i3 37 (Eq.refl _) rfl
theorem q3_38 : (Jvm.Cond.fieldLink "CashLink$Message" (23 : Nat) "CashLink$Message" "amount" "I") ∈ x_Wd := x_i3 38 (Eq.refl _) rfl
theorem q3_39 : (Jvm.Cond.fieldLink "CashLink$Message" (26 : Nat) "CashLink$Message" "answer" "I") ∈ x_Wd := x_i3 39 (Eq.refl _) rfl
theorem q3_53 : (Jvm.Cond.methodLink "CashLink$Network" (29 : Nat) ({ cls := "java/util/ArrayList", name := "add", desc := "(Ljava/lang/Object;)Z" } : Jvm.MethodName)) ∈ x_Wd := x_i3 53 (Eq.refl _) rfl
theorem q3_54 : (Jvm.Cond.fieldLink "CashLink$Machine" (121 : Nat) "CashLink$State" "WAITS" "LCashLink$State;") ∈ x_Wd := x_i3 54 (Eq.refl _) rfl
theorem q3_56 : (Jvm.Cond.methodLink "CashLinkLaw" (98 : Nat) ({ cls := "CashLinkLaw", name := "cancel", desc := "(LCashLink;I)I" } : Jvm.MethodName)) ∈ x_Wd := x_i3 56 (Eq.refl _) rfl
theorem q3_57 : (Jvm.Cond.static ({ cls := "CashLinkLaw", name := "cancel", desc := "(LCashLink;I)I" } : Jvm.MethodName)) ∈ x_Wd := x_i3 57 (Eq.refl _) rfl
theorem q3_58 : (Jvm.Cond.codeWith ({ cls := "CashLinkLaw", name := "cancel", desc := "(LCashLink;I)I" } : Jvm.MethodName) method_6_code (3 : Nat) (Option.some Jvm.ClassFile.FieldType.int) [((0 : Nat), (5 : Nat), (8 : Nat), (13 : Nat)), ((0 : Nat), (5 : Nat), (11 : Nat), (15 : Nat)), ((0 : Nat), (5 : Nat), (14 : Nat), (27 : Nat))]) ∈ x_Wd := x_i3 58 (Eq.refl _) rfl
theorem q3_59 : (Jvm.Cond.methodLink "CashLinkLaw" (29 : Nat) ({ cls := "CashLink", name := "cancel", desc := "(I)V" } : Jvm.MethodName)) ∈ x_Wd := x_i3 59 (Eq.refl _) rfl
theorem q3_60 : (Jvm.Cond.instanceMethod ({ cls := "CashLink", name := "cancel", desc := "(I)V" } : Jvm.MethodName)) ∈ x_Wd := x_i3 60 (Eq.refl _) rfl
theorem q3_61 : (Jvm.Cond.selects "CashLink" ({ cls := "CashLink", name := "cancel", desc := "(I)V" } : Jvm.MethodName) ({ cls := "CashLink", name := "cancel", desc := "(I)V" } : Jvm.MethodName)) ∈ x_Wd := x_i3 61 (Eq.refl _) rfl
theorem q3_62 : (Jvm.Cond.code ({ cls := "CashLink", name := "cancel", desc := "(I)V" } : Jvm.MethodName) prog_1_method_5_code (2 : Nat) (Option.none : Option Jvm.ClassFile.FieldType)) ∈ x_Wd := x_i3 62 (Eq.refl _) rfl
theorem q3_63 : (Jvm.Cond.methodLink "CashLink" (61 : Nat) ({ cls := "CashLink$Machine", name := "giveUp", desc := "()V" } : Jvm.MethodName)) ∈ x_Wd := x_i3 63 (Eq.refl _) rfl
theorem q3_64 : (Jvm.Cond.instanceMethod ({ cls := "CashLink$Machine", name := "giveUp", desc := "()V" } : Jvm.MethodName)) ∈ x_Wd := x_i3 64 (Eq.refl _) rfl
theorem q3_65 : (Jvm.Cond.selects "CashLink$Machine" ({ cls := "CashLink$Machine", name := "giveUp", desc := "()V" } : Jvm.MethodName) ({ cls := "CashLink$Machine", name := "giveUp", desc := "()V" } : Jvm.MethodName)) ∈ x_Wd := x_i3 65 (Eq.refl _) rfl
theorem q3_66 : (Jvm.Cond.code ({ cls := "CashLink$Machine", name := "giveUp", desc := "()V" } : Jvm.MethodName) prog_6_method_5_code (1 : Nat) (Option.none : Option Jvm.ClassFile.FieldType)) ∈ x_Wd := x_i3 66 (Eq.refl _) rfl
theorem q3_67 : (Jvm.Cond.methodLink "CashLink$Machine" (124 : Nat) ({ cls := "CashLink$Machine", name := "voidRest", desc := "(I)V" } : Jvm.MethodName)) ∈ x_Wd := x_i3 67 (Eq.refl _) rfl
theorem q3_69 : (Jvm.Cond.instanceMethod ({ cls := "CashLink$Machine", name := "voidRest", desc := "(I)V" } : Jvm.MethodName)) ∈ x_Wd := x_i3 69 (Eq.refl _) rfl
theorem q3_70 : (Jvm.Cond.code ({ cls := "CashLink$Machine", name := "voidRest", desc := "(I)V" } : Jvm.MethodName) prog_6_method_12_code (4 : Nat) (Option.none : Option Jvm.ClassFile.FieldType)) ∈ x_Wd := x_i3 70 (Eq.refl _) rfl
theorem q3_71 : (Jvm.Cond.methodLink "CashLink$Machine" (178 : Nat) ({ cls := "CashLink$Entry", name := "<init>", desc := "(IIII)V" } : Jvm.MethodName)) ∈ x_Wd := x_i3 71 (Eq.refl _) rfl
theorem q3_72 : (Jvm.Cond.instanceMethod ({ cls := "CashLink$Entry", name := "<init>", desc := "(IIII)V" } : Jvm.MethodName)) ∈ x_Wd := x_i3 72 (Eq.refl _) rfl
theorem q3_73 : (Jvm.Cond.code ({ cls := "CashLink$Entry", name := "<init>", desc := "(IIII)V" } : Jvm.MethodName) prog_4_method_1_code (5 : Nat) (Option.none : Option Jvm.ClassFile.FieldType)) ∈ x_Wd := x_i3 73 (Eq.refl _) rfl
theorem q3_74 : (Jvm.Cond.methodLink "CashLink$Entry" (28 : Nat) ({ cls := "CashLink$Entry", name := "<init>", desc := "(IIIIII)V" } : Jvm.MethodName)) ∈ x_Wd := x_i3 74 (Eq.refl _) rfl
theorem q3_75 : (Jvm.Cond.methodLink "CashLink$Machine" (191 : Nat) ({ cls := "java/util/ArrayList", name := "add", desc := "(Ljava/lang/Object;)Z" } : Jvm.MethodName)) ∈ x_Wd := x_i3 75 (Eq.refl _) rfl
theorem q3_76 : (Jvm.Cond.fieldLink "CashLink$Machine" (131 : Nat) "CashLink$Type" "REVERSAL" "LCashLink$Type;") ∈ x_Wd := x_i3 76 (Eq.refl _) rfl
theorem q3_78 : (Jvm.Cond.methodLink "CashLinkLaw" (102 : Nat) ({ cls := "CashLinkLaw", name := "again", desc := "(LCashLink;I[J)I" } : Jvm.MethodName)) ∈ x_Wd := x_i3 78 (Eq.refl _) rfl
theorem q3_79 : (Jvm.Cond.static ({ cls := "CashLinkLaw", name := "again", desc := "(LCashLink;I[J)I" } : Jvm.MethodName)) ∈ x_Wd := x_i3 79 (Eq.refl _) rfl
theorem q3_80 : (Jvm.Cond.codeWith ({ cls := "CashLinkLaw", name := "again", desc := "(LCashLink;I[J)I" } : Jvm.MethodName) method_7_code (4 : Nat) (Option.some Jvm.ClassFile.FieldType.int) [((0 : Nat), (9 : Nat), (12 : Nat), (13 : Nat)), ((0 : Nat), (9 : Nat), (15 : Nat), (15 : Nat))]) ∈ x_Wd := x_i3 80 (Eq.refl _) rfl
theorem q3_81 : (Jvm.Cond.methodLink "CashLinkLaw" (33 : Nat) ({ cls := "CashLink", name := "again", desc := "(I)I" } : Jvm.MethodName)) ∈ x_Wd := x_i3 81 (Eq.refl _) rfl
theorem q3_82 : (Jvm.Cond.instanceMethod ({ cls := "CashLink", name := "again", desc := "(I)I" } : Jvm.MethodName)) ∈ x_Wd := x_i3 82 (Eq.refl _) rfl
theorem q3_83 : (Jvm.Cond.selects "CashLink" ({ cls := "CashLink", name := "again", desc := "(I)I" } : Jvm.MethodName) ({ cls := "CashLink", name := "again", desc := "(I)I" } : Jvm.MethodName)) ∈ x_Wd := x_i3 83 (Eq.refl _) rfl
theorem q3_84 : (Jvm.Cond.code ({ cls := "CashLink", name := "again", desc := "(I)I" } : Jvm.MethodName) prog_1_method_6_code (2 : Nat) (Option.some Jvm.ClassFile.FieldType.int)) ∈ x_Wd := x_i3 84 (Eq.refl _) rfl
theorem q3_85 : (Jvm.Cond.methodLink "CashLink" (64 : Nat) ({ cls := "CashLink$Machine", name := "repeatReversals", desc := "()I" } : Jvm.MethodName)) ∈ x_Wd := x_i3 85 (Eq.refl _) rfl
theorem q3_86 : (Jvm.Cond.instanceMethod ({ cls := "CashLink$Machine", name := "repeatReversals", desc := "()I" } : Jvm.MethodName)) ∈ x_Wd := x_i3 86 (Eq.refl _) rfl
theorem q3_87 : (Jvm.Cond.selects "CashLink$Machine" ({ cls := "CashLink$Machine", name := "repeatReversals", desc := "()I" } : Jvm.MethodName) ({ cls := "CashLink$Machine", name := "repeatReversals", desc := "()I" } : Jvm.MethodName)) ∈ x_Wd := x_i3 87 (Eq.refl _) rfl
theorem q3_88 : (Jvm.Cond.code ({ cls := "CashLink$Machine", name := "repeatReversals", desc := "()I" } : Jvm.MethodName) prog_6_method_6_code (3 : Nat) (Option.some Jvm.ClassFile.FieldType.int)) ∈ x_Wd := x_i3 88 (Eq.refl _) rfl
theorem q3_89 : (Jvm.Cond.methodLink "CashLink$Machine" (127 : Nat) ({ cls := "java/util/ArrayList", name := "get", desc := "(I)Ljava/lang/Object;" } : Jvm.MethodName)) ∈ x_Wd := x_i3 89 (Eq.refl _) rfl
theorem q3_90 : (Jvm.Cond.instanceMethod ({ cls := "java/util/ArrayList", name := "get", desc := "(I)Ljava/lang/Object;" } : Jvm.MethodName)) ∈ x_Wd := x_i3 90 (Eq.refl _) rfl
theorem q3_91 : (Jvm.Cond.selects "java/util/ArrayList" ({ cls := "java/util/ArrayList", name := "get", desc := "(I)Ljava/lang/Object;" } : Jvm.MethodName) ({ cls := "java/util/ArrayList", name := "get", desc := "(I)Ljava/lang/Object;" } : Jvm.MethodName)) ∈ x_Wd := x_i3 91 (Eq.refl _) rfl
theorem q3_92 : (Jvm.Cond.code ({ cls := "java/util/ArrayList", name := "get", desc := "(I)Ljava/lang/Object;" } : Jvm.MethodName) prog_35_method_20_code (2 : Nat) (Option.some (Jvm.ClassFile.FieldType.object "java/lang/Object"))) ∈ x_Wd := x_i3 92 (Eq.refl _) rfl
theorem q3_93 : (Jvm.Cond.methodLink "java/util/ArrayList" (118 : Nat) ({ cls := "java/util/Objects", name := "checkIndex", desc := "(II)I" } : Jvm.MethodName)) ∈ x_Wd := x_i3 93 (Eq.refl _) rfl
theorem q3_94 : (Jvm.Cond.static ({ cls := "java/util/Objects", name := "checkIndex", desc := "(II)I" } : Jvm.MethodName)) ∈ x_Wd := x_i3 94 (Eq.refl _) rfl
theorem q3_95 : (Jvm.Cond.code ({ cls := "java/util/Objects", name := "checkIndex", desc := "(II)I" } : Jvm.MethodName) prog_39_method_17_code (2 : Nat) (Option.some Jvm.ClassFile.FieldType.int)) ∈ x_Wd := x_i3 95 (Eq.refl _) rfl
theorem q3_96 : (Jvm.Cond.methodLink "java/util/Objects" (105 : Nat) ({ cls := "jdk/internal/util/Preconditions", name := "checkIndex", desc := "(IILjava/util/function/BiFunction;)I" } : Jvm.MethodName)) ∈ x_Wd := x_i3 96 (Eq.refl _) rfl
theorem q3_97 : (Jvm.Cond.static ({ cls := "jdk/internal/util/Preconditions", name := "checkIndex", desc := "(IILjava/util/function/BiFunction;)I" } : Jvm.MethodName)) ∈ x_Wd := x_i3 97 (Eq.refl _) rfl
theorem q3_98 : (Jvm.Cond.code ({ cls := "jdk/internal/util/Preconditions", name := "checkIndex", desc := "(IILjava/util/function/BiFunction;)I" } : Jvm.MethodName) prog_43_method_11_code (3 : Nat) (Option.some Jvm.ClassFile.FieldType.int)) ∈ x_Wd := x_i3 98 (Eq.refl _) rfl
theorem q3_99 : (Jvm.Cond.methodLink "java/util/ArrayList" (123 : Nat) ({ cls := "java/util/ArrayList", name := "elementData", desc := "(I)Ljava/lang/Object;" } : Jvm.MethodName)) ∈ x_Wd := x_i3 99 (Eq.refl _) rfl
theorem q3_100 : (Jvm.Cond.instanceMethod ({ cls := "java/util/ArrayList", name := "elementData", desc := "(I)Ljava/lang/Object;" } : Jvm.MethodName)) ∈ x_Wd := x_i3 100 (Eq.refl _) rfl
theorem q3_101 : (Jvm.Cond.selects "java/util/ArrayList" ({ cls := "java/util/ArrayList", name := "elementData", desc := "(I)Ljava/lang/Object;" } : Jvm.MethodName) ({ cls := "java/util/ArrayList", name := "elementData", desc := "(I)Ljava/lang/Object;" } : Jvm.MethodName)) ∈ x_Wd := x_i3 101 (Eq.refl _) rfl
theorem q3_102 : (Jvm.Cond.code ({ cls := "java/util/ArrayList", name := "elementData", desc := "(I)Ljava/lang/Object;" } : Jvm.MethodName) prog_35_method_18_code (2 : Nat) (Option.some (Jvm.ClassFile.FieldType.object "java/lang/Object"))) ∈ x_Wd := x_i3 102 (Eq.refl _) rfl
theorem q3_103 : (Jvm.Cond.methodLink "CashLink$Machine" (134 : Nat) ({ cls := "CashLink$Entry", name := "trace", desc := "()I" } : Jvm.MethodName)) ∈ x_Wd := x_i3 103 (Eq.refl _) rfl
theorem q3_104 : (Jvm.Cond.instanceMethod ({ cls := "CashLink$Entry", name := "trace", desc := "()I" } : Jvm.MethodName)) ∈ x_Wd := x_i3 104 (Eq.refl _) rfl
theorem q3_105 : (Jvm.Cond.selects "CashLink$Entry" ({ cls := "CashLink$Entry", name := "trace", desc := "()I" } : Jvm.MethodName) ({ cls := "CashLink$Entry", name := "trace", desc := "()I" } : Jvm.MethodName)) ∈ x_Wd := x_i3 105 (Eq.refl _) rfl
theorem q3_106 : (Jvm.Cond.code ({ cls := "CashLink$Entry", name := "trace", desc := "()I" } : Jvm.MethodName) prog_4_method_9_code (1 : Nat) (Option.some Jvm.ClassFile.FieldType.int)) ∈ x_Wd := x_i3 106 (Eq.refl _) rfl
theorem q3_107 : (Jvm.Cond.methodLink "CashLink$Machine" (136 : Nat) ({ cls := "CashLink$Entry", name := "value", desc := "()I" } : Jvm.MethodName)) ∈ x_Wd := x_i3 107 (Eq.refl _) rfl
theorem q3_108 : (Jvm.Cond.instanceMethod ({ cls := "CashLink$Entry", name := "value", desc := "()I" } : Jvm.MethodName)) ∈ x_Wd := x_i3 108 (Eq.refl _) rfl
theorem q3_109 : (Jvm.Cond.selects "CashLink$Entry" ({ cls := "CashLink$Entry", name := "value", desc := "()I" } : Jvm.MethodName) ({ cls := "CashLink$Entry", name := "value", desc := "()I" } : Jvm.MethodName)) ∈ x_Wd := x_i3 109 (Eq.refl _) rfl
theorem q3_110 : (Jvm.Cond.code ({ cls := "CashLink$Entry", name := "value", desc := "()I" } : Jvm.MethodName) prog_4_method_11_code (1 : Nat) (Option.some Jvm.ClassFile.FieldType.int)) ∈ x_Wd := x_i3 110 (Eq.refl _) rfl
theorem q3_111 : (Jvm.Cond.methodLink "CashLinkLaw" (106 : Nat) ({ cls := "CashLinkLaw", name := "settle", desc := "(LCashLink;I[J)I" } : Jvm.MethodName)) ∈ x_Wd := x_i3 111 (Eq.refl _) rfl
theorem q3_112 : (Jvm.Cond.static ({ cls := "CashLinkLaw", name := "settle", desc := "(LCashLink;I[J)I" } : Jvm.MethodName)) ∈ x_Wd := x_i3 112 (Eq.refl _) rfl
theorem q3_113 : (Jvm.Cond.codeWith ({ cls := "CashLinkLaw", name := "settle", desc := "(LCashLink;I[J)I" } : Jvm.MethodName) method_8_code (4 : Nat) (Option.some Jvm.ClassFile.FieldType.int) [((0 : Nat), (9 : Nat), (12 : Nat), (13 : Nat)), ((0 : Nat), (9 : Nat), (15 : Nat), (15 : Nat))]) ∈ x_Wd := x_i3 113 (Eq.refl _) rfl
theorem q3_114 : (Jvm.Cond.methodLink "CashLinkLaw" (37 : Nat) ({ cls := "CashLink", name := "settle", desc := "(I)I" } : Jvm.MethodName)) ∈ x_Wd := x_i3 114 (Eq.refl _) rfl
theorem q3_115 : (Jvm.Cond.instanceMethod ({ cls := "CashLink", name := "settle", desc := "(I)I" } : Jvm.MethodName)) ∈ x_Wd := x_i3 115 (Eq.refl _) rfl
theorem q3_116 : (Jvm.Cond.selects "CashLink" ({ cls := "CashLink", name := "settle", desc := "(I)I" } : Jvm.MethodName) ({ cls := "CashLink", name := "settle", desc := "(I)I" } : Jvm.MethodName)) ∈ x_Wd := x_i3 116 (Eq.refl _) rfl
theorem q3_117 : (Jvm.Cond.code ({ cls := "CashLink", name := "settle", desc := "(I)I" } : Jvm.MethodName) prog_1_method_7_code (2 : Nat) (Option.some Jvm.ClassFile.FieldType.int)) ∈ x_Wd := x_i3 117 (Eq.refl _) rfl
theorem q3_118 : (Jvm.Cond.methodLink "CashLink" (68 : Nat) ({ cls := "CashLink$Machine", name := "sendTotals", desc := "()I" } : Jvm.MethodName)) ∈ x_Wd := x_i3 118 (Eq.refl _) rfl
theorem q3_119 : (Jvm.Cond.instanceMethod ({ cls := "CashLink$Machine", name := "sendTotals", desc := "()I" } : Jvm.MethodName)) ∈ x_Wd := x_i3 119 (Eq.refl _) rfl
theorem q3_120 : (Jvm.Cond.selects "CashLink$Machine" ({ cls := "CashLink$Machine", name := "sendTotals", desc := "()I" } : Jvm.MethodName) ({ cls := "CashLink$Machine", name := "sendTotals", desc := "()I" } : Jvm.MethodName)) ∈ x_Wd := x_i3 120 (Eq.refl _) rfl
theorem q3_121 : (Jvm.Cond.code ({ cls := "CashLink$Machine", name := "sendTotals", desc := "()I" } : Jvm.MethodName) prog_6_method_7_code (4 : Nat) (Option.some Jvm.ClassFile.FieldType.int)) ∈ x_Wd := x_i3 121 (Eq.refl _) rfl
theorem q3_122 : (Jvm.Cond.methodLink "CashLink$Machine" (139 : Nat) ({ cls := "CashLink$Machine", name := "isQuiet", desc := "()Z" } : Jvm.MethodName)) ∈ x_Wd := x_i3 122 (Eq.refl _) rfl
theorem q3_123 : (Jvm.Cond.instanceMethod ({ cls := "CashLink$Machine", name := "isQuiet", desc := "()Z" } : Jvm.MethodName)) ∈ x_Wd := x_i3 123 (Eq.refl _) rfl
theorem q3_124 : (Jvm.Cond.selects "CashLink$Machine" ({ cls := "CashLink$Machine", name := "isQuiet", desc := "()Z" } : Jvm.MethodName) ({ cls := "CashLink$Machine", name := "isQuiet", desc := "()Z" } : Jvm.MethodName)) ∈ x_Wd := x_i3 124 (Eq.refl _) rfl
theorem q3_125 : (Jvm.Cond.code ({ cls := "CashLink$Machine", name := "isQuiet", desc := "()Z" } : Jvm.MethodName) prog_6_method_20_code (1 : Nat) (Option.some Jvm.ClassFile.FieldType.boolean)) ∈ x_Wd := x_i3 125 (Eq.refl _) rfl
theorem q3_126 : (Jvm.Cond.methodLink "CashLink$Machine" (223 : Nat) ({ cls := "java/util/ArrayList", name := "isEmpty", desc := "()Z" } : Jvm.MethodName)) ∈ x_Wd := x_i3 126 (Eq.refl _) rfl
theorem q3_127 : (Jvm.Cond.instanceMethod ({ cls := "java/util/ArrayList", name := "isEmpty", desc := "()Z" } : Jvm.MethodName)) ∈ x_Wd := x_i3 127 (Eq.refl _) rfl
theorem q3_128 : (Jvm.Cond.selects "java/util/ArrayList" ({ cls := "java/util/ArrayList", name := "isEmpty", desc := "()Z" } : Jvm.MethodName) ({ cls := "java/util/ArrayList", name := "isEmpty", desc := "()Z" } : Jvm.MethodName)) ∈ x_Wd := x_i3 128 (Eq.refl _) rfl
theorem q3_129 : (Jvm.Cond.code ({ cls := "java/util/ArrayList", name := "isEmpty", desc := "()Z" } : Jvm.MethodName) prog_35_method_9_code (1 : Nat) (Option.some Jvm.ClassFile.FieldType.boolean)) ∈ x_Wd := x_i3 129 (Eq.refl _) rfl
theorem q3_130 : (Jvm.Cond.methodLink "CashLink$Machine" (142 : Nat) ({ cls := "CashLink$Journal", name := "size", desc := "()I" } : Jvm.MethodName)) ∈ x_Wd := x_i3 130 (Eq.refl _) rfl
theorem q3_131 : (Jvm.Cond.instanceMethod ({ cls := "CashLink$Journal", name := "size", desc := "()I" } : Jvm.MethodName)) ∈ x_Wd := x_i3 131 (Eq.refl _) rfl
theorem q3_132 : (Jvm.Cond.selects "CashLink$Journal" ({ cls := "CashLink$Journal", name := "size", desc := "()I" } : Jvm.MethodName) ({ cls := "CashLink$Journal", name := "size", desc := "()I" } : Jvm.MethodName)) ∈ x_Wd := x_i3 132 (Eq.refl _) rfl
theorem q3_133 : (Jvm.Cond.code ({ cls := "CashLink$Journal", name := "size", desc := "()I" } : Jvm.MethodName) prog_5_method_2_code (1 : Nat) (Option.some Jvm.ClassFile.FieldType.int)) ∈ x_Wd := x_i3 133 (Eq.refl _) rfl
theorem q3_134 : (Jvm.Cond.methodLink "CashLink$Machine" (143 : Nat) ({ cls := "CashLink$Journal", name := "entry", desc := "(I)LCashLink$Entry;" } : Jvm.MethodName)) ∈ x_Wd := x_i3 134 (Eq.refl _) rfl
theorem q3_135 : (Jvm.Cond.instanceMethod ({ cls := "CashLink$Journal", name := "entry", desc := "(I)LCashLink$Entry;" } : Jvm.MethodName)) ∈ x_Wd := x_i3 135 (Eq.refl _) rfl
theorem q3_136 : (Jvm.Cond.selects "CashLink$Journal" ({ cls := "CashLink$Journal", name := "entry", desc := "(I)LCashLink$Entry;" } : Jvm.MethodName) ({ cls := "CashLink$Journal", name := "entry", desc := "(I)LCashLink$Entry;" } : Jvm.MethodName)) ∈ x_Wd := x_i3 136 (Eq.refl _) rfl
theorem q3_137 : (Jvm.Cond.code ({ cls := "CashLink$Journal", name := "entry", desc := "(I)LCashLink$Entry;" } : Jvm.MethodName) prog_5_method_3_code (2 : Nat) (Option.some (Jvm.ClassFile.FieldType.object "CashLink$Entry"))) ∈ x_Wd := x_i3 137 (Eq.refl _) rfl
theorem q3_138 : (Jvm.Cond.methodLink "CashLink$Journal" (31 : Nat) ({ cls := "java/util/ArrayList", name := "get", desc := "(I)Ljava/lang/Object;" } : Jvm.MethodName)) ∈ x_Wd := x_i3 138 (Eq.refl _) rfl
theorem q3_139 : (Jvm.Cond.classLink "CashLink$Journal" (35 : Nat) "CashLink$Entry") ∈ x_Wd := x_i3 139 (Eq.refl _) rfl
theorem q3_140 : (Jvm.Cond.methodLink "CashLink$Machine" (147 : Nat) ({ cls := "CashLink$Entry", name := "kind", desc := "()I" } : Jvm.MethodName)) ∈ x_Wd := x_i3 140 (Eq.refl _) rfl
theorem q3_141 : (Jvm.Cond.instanceMethod ({ cls := "CashLink$Entry", name := "kind", desc := "()I" } : Jvm.MethodName)) ∈ x_Wd := x_i3 141 (Eq.refl _) rfl
theorem q3_142 : (Jvm.Cond.selects "CashLink$Entry" ({ cls := "CashLink$Entry", name := "kind", desc := "()I" } : Jvm.MethodName) ({ cls := "CashLink$Entry", name := "kind", desc := "()I" } : Jvm.MethodName)) ∈ x_Wd := x_i3 142 (Eq.refl _) rfl
theorem q3_143 : (Jvm.Cond.code ({ cls := "CashLink$Entry", name := "kind", desc := "()I" } : Jvm.MethodName) prog_4_method_7_code (1 : Nat) (Option.some Jvm.ClassFile.FieldType.int)) ∈ x_Wd := x_i3 143 (Eq.refl _) rfl
theorem q3_144 : (Jvm.Cond.fieldLink "CashLink$Machine" (150 : Nat) "CashLink$Type" "TOTALS" "LCashLink$Type;") ∈ x_Wd := x_i3 144 (Eq.refl _) rfl
theorem q3_146 : (Jvm.Cond.methodLink "CashLinkLaw" (109 : Nat) ({ cls := "CashLinkLaw", name := "deliver", desc := "(LCashLink;I[J)I" } : Jvm.MethodName)) ∈ x_Wd := x_i3 146 (Eq.refl _) rfl
theorem q3_147 : (Jvm.Cond.static ({ cls := "CashLinkLaw", name := "deliver", desc := "(LCashLink;I[J)I" } : Jvm.MethodName)) ∈ x_Wd := x_i3 147 (Eq.refl _) rfl
theorem q3_148 : (Jvm.Cond.codeWith ({ cls := "CashLinkLaw", name := "deliver", desc := "(LCashLink;I[J)I" } : Jvm.MethodName) method_9_code (4 : Nat) (Option.some Jvm.ClassFile.FieldType.int) [((0 : Nat), (9 : Nat), (12 : Nat), (43 : Nat)), ((0 : Nat), (9 : Nat), (15 : Nat), (27 : Nat))]) ∈ x_Wd := x_i3 148 (Eq.refl _) rfl
theorem q3_149 : (Jvm.Cond.classLink "CashLinkLaw" (43 : Nat) "java/lang/IndexOutOfBoundsException") ∈ x_Wd := x_i3 149 (Eq.refl _) rfl
theorem q3_150 : (Jvm.Cond.methodLink "CashLinkLaw" (40 : Nat) ({ cls := "CashLink", name := "deliver", desc := "(I)I" } : Jvm.MethodName)) ∈ x_Wd := x_i3 150 (Eq.refl _) rfl
theorem q3_151 : (Jvm.Cond.instanceMethod ({ cls := "CashLink", name := "deliver", desc := "(I)I" } : Jvm.MethodName)) ∈ x_Wd := x_i3 151 (Eq.refl _) rfl
theorem q3_152 : (Jvm.Cond.selects "CashLink" ({ cls := "CashLink", name := "deliver", desc := "(I)I" } : Jvm.MethodName) ({ cls := "CashLink", name := "deliver", desc := "(I)I" } : Jvm.MethodName)) ∈ x_Wd := x_i3 152 (Eq.refl _) rfl
theorem q3_153 : (Jvm.Cond.code ({ cls := "CashLink", name := "deliver", desc := "(I)I" } : Jvm.MethodName) prog_1_method_8_code (4 : Nat) (Option.some Jvm.ClassFile.FieldType.int)) ∈ x_Wd := x_i3 153 (Eq.refl _) rfl
theorem q3_154 : (Jvm.Cond.methodLink "CashLink" (71 : Nat) ({ cls := "CashLink", name := "messageAt", desc := "(I)LCashLink$Message;" } : Jvm.MethodName)) ∈ x_Wd := x_i3 154 (Eq.refl _) rfl
theorem q3_156 : (Jvm.Cond.instanceMethod ({ cls := "CashLink", name := "messageAt", desc := "(I)LCashLink$Message;" } : Jvm.MethodName)) ∈ x_Wd := x_i3 156 (Eq.refl _) rfl
theorem q3_157 : (Jvm.Cond.code ({ cls := "CashLink", name := "messageAt", desc := "(I)LCashLink$Message;" } : Jvm.MethodName) prog_1_method_20_code (2 : Nat) (Option.some (Jvm.ClassFile.FieldType.object "CashLink$Message"))) ∈ x_Wd := x_i3 157 (Eq.refl _) rfl
theorem q3_158 : (Jvm.Cond.methodLink "CashLink" (75 : Nat) ({ cls := "CashLink$Network", name := "size", desc := "()I" } : Jvm.MethodName)) ∈ x_Wd := x_i3 158 (Eq.refl _) rfl
theorem q3_159 : (Jvm.Cond.instanceMethod ({ cls := "CashLink$Network", name := "size", desc := "()I" } : Jvm.MethodName)) ∈ x_Wd := x_i3 159 (Eq.refl _) rfl
theorem q3_160 : (Jvm.Cond.selects "CashLink$Network" ({ cls := "CashLink$Network", name := "size", desc := "()I" } : Jvm.MethodName) ({ cls := "CashLink$Network", name := "size", desc := "()I" } : Jvm.MethodName)) ∈ x_Wd := x_i3 160 (Eq.refl _) rfl
theorem q3_161 : (Jvm.Cond.code ({ cls := "CashLink$Network", name := "size", desc := "()I" } : Jvm.MethodName) prog_8_method_2_code (1 : Nat) (Option.some Jvm.ClassFile.FieldType.int)) ∈ x_Wd := x_i3 161 (Eq.refl _) rfl
theorem q3_178 : (Jvm.Cond.methodLink "CashLink" (188 : Nat) ({ cls := "CashLink$Network", name := "sent", desc := "(I)LCashLink$Message;" } : Jvm.MethodName)) ∈ x_Wd := x_i3 178 (Eq.refl _) rfl
theorem q3_179 : (Jvm.Cond.instanceMethod ({ cls := "CashLink$Network", name := "sent", desc := "(I)LCashLink$Message;" } : Jvm.MethodName)) ∈ x_Wd := x_i3 179 (Eq.refl _) rfl
theorem q3_180 : (Jvm.Cond.selects "CashLink$Network" ({ cls := "CashLink$Network", name := "sent", desc := "(I)LCashLink$Message;" } : Jvm.MethodName) ({ cls := "CashLink$Network", name := "sent", desc := "(I)LCashLink$Message;" } : Jvm.MethodName)) ∈ x_Wd := x_i3 180 (Eq.refl _) rfl
theorem q3_181 : (Jvm.Cond.code ({ cls := "CashLink$Network", name := "sent", desc := "(I)LCashLink$Message;" } : Jvm.MethodName) prog_8_method_3_code (2 : Nat) (Option.some (Jvm.ClassFile.FieldType.object "CashLink$Message"))) ∈ x_Wd := x_i3 181 (Eq.refl _) rfl
theorem q3_182 : (Jvm.Cond.methodLink "CashLink$Network" (20 : Nat) ({ cls := "java/util/ArrayList", name := "get", desc := "(I)Ljava/lang/Object;" } : Jvm.MethodName)) ∈ x_Wd := x_i3 182 (Eq.refl _) rfl
theorem q3_183 : (Jvm.Cond.methodLink "CashLink" (78 : Nat) ({ cls := "CashLink$Message", name := "type", desc := "()LCashLink$Type;" } : Jvm.MethodName)) ∈ x_Wd := x_i3 183 (Eq.refl _) rfl
theorem q3_184 : (Jvm.Cond.instanceMethod ({ cls := "CashLink$Message", name := "type", desc := "()LCashLink$Type;" } : Jvm.MethodName)) ∈ x_Wd := x_i3 184 (Eq.refl _) rfl
theorem q3_185 : (Jvm.Cond.selects "CashLink$Message" ({ cls := "CashLink$Message", name := "type", desc := "()LCashLink$Type;" } : Jvm.MethodName) ({ cls := "CashLink$Message", name := "type", desc := "()LCashLink$Type;" } : Jvm.MethodName)) ∈ x_Wd := x_i3 185 (Eq.refl _) rfl
theorem q3_186 : (Jvm.Cond.code ({ cls := "CashLink$Message", name := "type", desc := "()LCashLink$Type;" } : Jvm.MethodName) prog_7_method_8_code (1 : Nat) (Option.some (Jvm.ClassFile.FieldType.object "CashLink$Type"))) ∈ x_Wd := x_i3 186 (Eq.refl _) rfl
theorem q3_187 : (Jvm.Cond.methodLink "CashLink" (90 : Nat) ({ cls := "CashLink$Bank", name := "receive", desc := "(LCashLink$Message;)V" } : Jvm.MethodName)) ∈ x_Wd := x_i3 187 (Eq.refl _) rfl
theorem q3_188 : (Jvm.Cond.instanceMethod ({ cls := "CashLink$Bank", name := "receive", desc := "(LCashLink$Message;)V" } : Jvm.MethodName)) ∈ x_Wd := x_i3 188 (Eq.refl _) rfl
theorem q3_189 : (Jvm.Cond.selects "CashLink$Bank" ({ cls := "CashLink$Bank", name := "receive", desc := "(LCashLink$Message;)V" } : Jvm.MethodName) ({ cls := "CashLink$Bank", name := "receive", desc := "(LCashLink$Message;)V" } : Jvm.MethodName)) ∈ x_Wd := x_i3 189 (Eq.refl _) rfl
theorem q3_190 : (Jvm.Cond.code ({ cls := "CashLink$Bank", name := "receive", desc := "(LCashLink$Message;)V" } : Jvm.MethodName) prog_2_method_5_code (2 : Nat) (Option.none : Option Jvm.ClassFile.FieldType)) ∈ x_Wd := x_i3 190 (Eq.refl _) rfl
theorem q3_191 : (Jvm.Cond.methodLink "CashLink$Bank" (61 : Nat) ({ cls := "CashLink$Journal", name := "isOn", desc := "()Z" } : Jvm.MethodName)) ∈ x_Wd := x_i3 191 (Eq.refl _) rfl
theorem q3_192 : (Jvm.Cond.methodLink "CashLink$Bank" (65 : Nat) ({ cls := "CashLink$Message", name := "type", desc := "()LCashLink$Type;" } : Jvm.MethodName)) ∈ x_Wd := x_i3 192 (Eq.refl _) rfl
theorem q3_193 : (Jvm.Cond.fieldLink "CashLink$Bank" (71 : Nat) "CashLink$Type" "REQUEST" "LCashLink$Type;") ∈ x_Wd := x_i3 193 (Eq.refl _) rfl
theorem q3_194 : (Jvm.Cond.methodLink "CashLink$Bank" (77 : Nat) ({ cls := "CashLink$Bank", name := "answerRequest", desc := "(LCashLink$Message;)V" } : Jvm.MethodName)) ∈ x_Wd := x_i3 194 (Eq.refl _) rfl
theorem q3_196 : (Jvm.Cond.instanceMethod ({ cls := "CashLink$Bank", name := "answerRequest", desc := "(LCashLink$Message;)V" } : Jvm.MethodName)) ∈ x_Wd := x_i3 196 (Eq.refl _) rfl
theorem q3_197 : (Jvm.Cond.code ({ cls := "CashLink$Bank", name := "answerRequest", desc := "(LCashLink$Message;)V" } : Jvm.MethodName) prog_2_method_6_code (3 : Nat) (Option.none : Option Jvm.ClassFile.FieldType)) ∈ x_Wd := x_i3 197 (Eq.refl _) rfl
theorem q3_198 : (Jvm.Cond.methodLink "CashLink$Bank" (90 : Nat) ({ cls := "CashLink$Bank", name := "find", desc := "(ILCashLink$Message;)LCashLink$Entry;" } : Jvm.MethodName)) ∈ x_Wd := x_i3 198 (Eq.refl _) rfl
theorem q3_200 : (Jvm.Cond.instanceMethod ({ cls := "CashLink$Bank", name := "find", desc := "(ILCashLink$Message;)LCashLink$Entry;" } : Jvm.MethodName)) ∈ x_Wd := x_i3 200 (Eq.refl _) rfl
theorem q3_201 : (Jvm.Cond.code ({ cls := "CashLink$Bank", name := "find", desc := "(ILCashLink$Message;)LCashLink$Entry;" } : Jvm.MethodName) prog_2_method_12_code (3 : Nat) (Option.some (Jvm.ClassFile.FieldType.object "CashLink$Entry"))) ∈ x_Wd := x_i3 201 (Eq.refl _) rfl
theorem q3_202 : (Jvm.Cond.methodLink "CashLink$Bank" (98 : Nat) ({ cls := "CashLink$Message", name := "machine", desc := "()I" } : Jvm.MethodName)) ∈ x_Wd := x_i3 202 (Eq.refl _) rfl
theorem q3_203 : (Jvm.Cond.instanceMethod ({ cls := "CashLink$Message", name := "machine", desc := "()I" } : Jvm.MethodName)) ∈ x_Wd := x_i3 203 (Eq.refl _) rfl
theorem q3_204 : (Jvm.Cond.selects "CashLink$Message" ({ cls := "CashLink$Message", name := "machine", desc := "()I" } : Jvm.MethodName) ({ cls := "CashLink$Message", name := "machine", desc := "()I" } : Jvm.MethodName)) ∈ x_Wd := x_i3 204 (Eq.refl _) rfl
theorem q3_205 : (Jvm.Cond.code ({ cls := "CashLink$Message", name := "machine", desc := "()I" } : Jvm.MethodName) prog_7_method_9_code (1 : Nat) (Option.some Jvm.ClassFile.FieldType.int)) ∈ x_Wd := x_i3 205 (Eq.refl _) rfl
theorem q3_206 : (Jvm.Cond.methodLink "CashLink$Bank" (101 : Nat) ({ cls := "CashLink$Message", name := "trace", desc := "()I" } : Jvm.MethodName)) ∈ x_Wd := x_i3 206 (Eq.refl _) rfl
theorem q3_207 : (Jvm.Cond.instanceMethod ({ cls := "CashLink$Message", name := "trace", desc := "()I" } : Jvm.MethodName)) ∈ x_Wd := x_i3 207 (Eq.refl _) rfl
theorem q3_208 : (Jvm.Cond.selects "CashLink$Message" ({ cls := "CashLink$Message", name := "trace", desc := "()I" } : Jvm.MethodName) ({ cls := "CashLink$Message", name := "trace", desc := "()I" } : Jvm.MethodName)) ∈ x_Wd := x_i3 208 (Eq.refl _) rfl
theorem q3_209 : (Jvm.Cond.code ({ cls := "CashLink$Message", name := "trace", desc := "()I" } : Jvm.MethodName) prog_7_method_10_code (1 : Nat) (Option.some Jvm.ClassFile.FieldType.int)) ∈ x_Wd := x_i3 209 (Eq.refl _) rfl
theorem q3_210 : (Jvm.Cond.methodLink "CashLink$Bank" (149 : Nat) ({ cls := "CashLink$Journal", name := "find", desc := "(III)LCashLink$Entry;" } : Jvm.MethodName)) ∈ x_Wd := x_i3 210 (Eq.refl _) rfl
theorem q3_211 : (Jvm.Cond.instanceMethod ({ cls := "CashLink$Journal", name := "find", desc := "(III)LCashLink$Entry;" } : Jvm.MethodName)) ∈ x_Wd := x_i3 211 (Eq.refl _) rfl
theorem q3_212 : (Jvm.Cond.selects "CashLink$Journal" ({ cls := "CashLink$Journal", name := "find", desc := "(III)LCashLink$Entry;" } : Jvm.MethodName) ({ cls := "CashLink$Journal", name := "find", desc := "(III)LCashLink$Entry;" } : Jvm.MethodName)) ∈ x_Wd := x_i3 212 (Eq.refl _) rfl
theorem q3_213 : (Jvm.Cond.code ({ cls := "CashLink$Journal", name := "find", desc := "(III)LCashLink$Entry;" } : Jvm.MethodName) prog_5_method_9_code (6 : Nat) (Option.some (Jvm.ClassFile.FieldType.object "CashLink$Entry"))) ∈ x_Wd := x_i3 213 (Eq.refl _) rfl
theorem q3_214 : (Jvm.Cond.methodLink "CashLink$Journal" (51 : Nat) ({ cls := "CashLink$Entry", name := "is", desc := "(III)Z" } : Jvm.MethodName)) ∈ x_Wd := x_i3 214 (Eq.refl _) rfl
theorem q3_215 : (Jvm.Cond.instanceMethod ({ cls := "CashLink$Entry", name := "is", desc := "(III)Z" } : Jvm.MethodName)) ∈ x_Wd := x_i3 215 (Eq.refl _) rfl
theorem q3_216 : (Jvm.Cond.selects "CashLink$Entry" ({ cls := "CashLink$Entry", name := "is", desc := "(III)Z" } : Jvm.MethodName) ({ cls := "CashLink$Entry", name := "is", desc := "(III)Z" } : Jvm.MethodName)) ∈ x_Wd := x_i3 216 (Eq.refl _) rfl
theorem q3_217 : (Jvm.Cond.code ({ cls := "CashLink$Entry", name := "is", desc := "(III)Z" } : Jvm.MethodName) prog_4_method_3_code (4 : Nat) (Option.some Jvm.ClassFile.FieldType.boolean)) ∈ x_Wd := x_i3 217 (Eq.refl _) rfl
theorem q3_218 : (Jvm.Cond.methodLink "CashLink$Bank" (94 : Nat) ({ cls := "CashLink$Journal", name := "hasRoomFor", desc := "(I)Z" } : Jvm.MethodName)) ∈ x_Wd := x_i3 218 (Eq.refl _) rfl
theorem q3_219 : (Jvm.Cond.classLink "CashLink$Bank" (44 : Nat) "CashLink$Entry") ∈ x_Wd := x_i3 219 (Eq.refl _) rfl
theorem q3_220 : (Jvm.Cond.methodLink "CashLink$Bank" (104 : Nat) ({ cls := "CashLink$Message", name := "account", desc := "()I" } : Jvm.MethodName)) ∈ x_Wd := x_i3 220 (Eq.refl _) rfl
theorem q3_221 : (Jvm.Cond.instanceMethod ({ cls := "CashLink$Message", name := "account", desc := "()I" } : Jvm.MethodName)) ∈ x_Wd := x_i3 221 (Eq.refl _) rfl
theorem q3_222 : (Jvm.Cond.selects "CashLink$Message" ({ cls := "CashLink$Message", name := "account", desc := "()I" } : Jvm.MethodName) ({ cls := "CashLink$Message", name := "account", desc := "()I" } : Jvm.MethodName)) ∈ x_Wd := x_i3 222 (Eq.refl _) rfl
theorem q3_223 : (Jvm.Cond.code ({ cls := "CashLink$Message", name := "account", desc := "()I" } : Jvm.MethodName) prog_7_method_11_code (1 : Nat) (Option.some Jvm.ClassFile.FieldType.int)) ∈ x_Wd := x_i3 223 (Eq.refl _) rfl
theorem q3_224 : (Jvm.Cond.methodLink "CashLink$Bank" (105 : Nat) ({ cls := "CashLink$Message", name := "amount", desc := "()I" } : Jvm.MethodName)) ∈ x_Wd := x_i3 224 (Eq.refl _) rfl
theorem q3_225 : (Jvm.Cond.instanceMethod ({ cls := "CashLink$Message", name := "amount", desc := "()I" } : Jvm.MethodName)) ∈ x_Wd := x_i3 225 (Eq.refl _) rfl
theorem q3_226 : (Jvm.Cond.selects "CashLink$Message" ({ cls := "CashLink$Message", name := "amount", desc := "()I" } : Jvm.MethodName) ({ cls := "CashLink$Message", name := "amount", desc := "()I" } : Jvm.MethodName)) ∈ x_Wd := x_i3 226 (Eq.refl _) rfl
theorem q3_227 : (Jvm.Cond.code ({ cls := "CashLink$Message", name := "amount", desc := "()I" } : Jvm.MethodName) prog_7_method_12_code (1 : Nat) (Option.some Jvm.ClassFile.FieldType.int)) ∈ x_Wd := x_i3 227 (Eq.refl _) rfl
theorem q3_228 : (Jvm.Cond.methodLink "CashLink$Bank" (108 : Nat) ({ cls := "CashLink$Bank", name := "decide", desc := "(LCashLink$Message;)I" } : Jvm.MethodName)) ∈ x_Wd := x_i3 228 (Eq.refl _) rfl
theorem q3_230 : (Jvm.Cond.instanceMethod ({ cls := "CashLink$Bank", name := "decide", desc := "(LCashLink$Message;)I" } : Jvm.MethodName)) ∈ x_Wd := x_i3 230 (Eq.refl _) rfl
theorem q3_231 : (Jvm.Cond.code ({ cls := "CashLink$Bank", name := "decide", desc := "(LCashLink$Message;)I" } : Jvm.MethodName) prog_2_method_7_code (2 : Nat) (Option.some Jvm.ClassFile.FieldType.int)) ∈ x_Wd := x_i3 231 (Eq.refl _) rfl
theorem q3_232 : (Jvm.Cond.methodLink "CashLink$Bank" (126 : Nat) ({ cls := "CashLink$Bank", name := "balanceOf", desc := "(I)I" } : Jvm.MethodName)) ∈ x_Wd := x_i3 232 (Eq.refl _) rfl
theorem q3_233 : (Jvm.Cond.instanceMethod ({ cls := "CashLink$Bank", name := "balanceOf", desc := "(I)I" } : Jvm.MethodName)) ∈ x_Wd := x_i3 233 (Eq.refl _) rfl
theorem q3_234 : (Jvm.Cond.selects "CashLink$Bank" ({ cls := "CashLink$Bank", name := "balanceOf", desc := "(I)I" } : Jvm.MethodName) ({ cls := "CashLink$Bank", name := "balanceOf", desc := "(I)I" } : Jvm.MethodName)) ∈ x_Wd := x_i3 234 (Eq.refl _) rfl
theorem q3_235 : (Jvm.Cond.code ({ cls := "CashLink$Bank", name := "balanceOf", desc := "(I)I" } : Jvm.MethodName) prog_2_method_3_code (3 : Nat) (Option.some Jvm.ClassFile.FieldType.int)) ∈ x_Wd := x_i3 235 (Eq.refl _) rfl
theorem q3_236 : (Jvm.Cond.methodLink "CashLink$Bank" (31 : Nat) ({ cls := "CashLink$Journal", name := "size", desc := "()I" } : Jvm.MethodName)) ∈ x_Wd := x_i3 236 (Eq.refl _) rfl
theorem q3_237 : (Jvm.Cond.methodLink "CashLink$Bank" (39 : Nat) ({ cls := "CashLink$Journal", name := "entry", desc := "(I)LCashLink$Entry;" } : Jvm.MethodName)) ∈ x_Wd := x_i3 237 (Eq.refl _) rfl
theorem q3_238 : (Jvm.Cond.methodLink "CashLink$Bank" (43 : Nat) ({ cls := "CashLink$Entry", name := "account", desc := "()I" } : Jvm.MethodName)) ∈ x_Wd := x_i3 238 (Eq.refl _) rfl
theorem q3_239 : (Jvm.Cond.instanceMethod ({ cls := "CashLink$Entry", name := "account", desc := "()I" } : Jvm.MethodName)) ∈ x_Wd := x_i3 239 (Eq.refl _) rfl
theorem q4_0 : (Jvm.Cond.selects "CashLink$Entry" ({ cls := "CashLink$Entry", name := "account", desc := "()I" } : Jvm.MethodName) ({ cls := "CashLink$Entry", name := "account", desc := "()I" } : Jvm.MethodName)) ∈ x_Wd := x_i4 0 (Eq.refl _) rfl
theorem q4_1 : (Jvm.Cond.code ({ cls := "CashLink$Entry", name := "account", desc := "()I" } : Jvm.MethodName) prog_4_method_10_code (1 : Nat) (Option.some Jvm.ClassFile.FieldType.int)) ∈ x_Wd := x_i4 1 (Eq.refl _) rfl
theorem q4_2 : (Jvm.Cond.methodLink "CashLink$Bank" (48 : Nat) ({ cls := "CashLink$Bank", name := "changeBy", desc := "(LCashLink$Entry;)I" } : Jvm.MethodName)) ∈ x_Wd := x_i4 2 (Eq.refl _) rfl
theorem q4_3 : (Jvm.Cond.static ({ cls := "CashLink$Bank", name := "changeBy", desc := "(LCashLink$Entry;)I" } : Jvm.MethodName)) ∈ x_Wd := x_i4 3 (Eq.refl _) rfl
theorem q4_4 : (Jvm.Cond.code ({ cls := "CashLink$Bank", name := "changeBy", desc := "(LCashLink$Entry;)I" } : Jvm.MethodName) prog_2_method_4_code (1 : Nat) (Option.some Jvm.ClassFile.FieldType.int)) ∈ x_Wd := x_i4 4 (Eq.refl _) rfl
theorem q4_5 : (Jvm.Cond.methodLink "CashLink$Bank" (52 : Nat) ({ cls := "CashLink$Entry", name := "kind", desc := "()I" } : Jvm.MethodName)) ∈ x_Wd := x_i4 5 (Eq.refl _) rfl
theorem q4_6 : (Jvm.Cond.methodLink "CashLink$Bank" (55 : Nat) ({ cls := "CashLink$Entry", name := "value", desc := "()I" } : Jvm.MethodName)) ∈ x_Wd := x_i4 6 (Eq.refl _) rfl
theorem q4_7 : (Jvm.Cond.methodLink "CashLink$Bank" (58 : Nat) ({ cls := "CashLink$Entry", name := "answer", desc := "()I" } : Jvm.MethodName)) ∈ x_Wd := x_i4 7 (Eq.refl _) rfl
theorem q4_8 : (Jvm.Cond.instanceMethod ({ cls := "CashLink$Entry", name := "answer", desc := "()I" } : Jvm.MethodName)) ∈ x_Wd := x_i4 8 (Eq.refl _) rfl
theorem q4_9 : (Jvm.Cond.selects "CashLink$Entry" ({ cls := "CashLink$Entry", name := "answer", desc := "()I" } : Jvm.MethodName) ({ cls := "CashLink$Entry", name := "answer", desc := "()I" } : Jvm.MethodName)) ∈ x_Wd := x_i4 9 (Eq.refl _) rfl
theorem q4_10 : (Jvm.Cond.code ({ cls := "CashLink$Entry", name := "answer", desc := "()I" } : Jvm.MethodName) prog_4_method_12_code (1 : Nat) (Option.some Jvm.ClassFile.FieldType.int)) ∈ x_Wd := x_i4 10 (Eq.refl _) rfl
theorem q4_11 : (Jvm.Cond.methodLinkNest "CashLink$Bank" (112 : Nat) ({ cls := "CashLink$Entry", name := "<init>", desc := "(IIIIII)V" } : Jvm.MethodName) "CashLink") ∈ x_Wd := x_i4 11 (Eq.refl _) rfl
theorem q4_12 : (Jvm.Cond.methodLink "CashLink$Bank" (115 : Nat) ({ cls := "CashLink$Journal", name := "write", desc := "(LCashLink$Entry;)V" } : Jvm.MethodName)) ∈ x_Wd := x_i4 12 (Eq.refl _) rfl
theorem q4_13 : (Jvm.Cond.fieldLink "CashLink$Bank" (119 : Nat) "CashLink$Type" "REQUEST_ANSWER" "LCashLink$Type;") ∈ x_Wd := x_i4 13 (Eq.refl _) rfl
theorem q4_15 : (Jvm.Cond.methodLink "CashLink$Bank" (122 : Nat) ({ cls := "CashLink$Bank", name := "reply", desc := "(LCashLink$Type;LCashLink$Message;I)Z" } : Jvm.MethodName)) ∈ x_Wd := x_i4 15 (Eq.refl _) rfl
theorem q4_17 : (Jvm.Cond.instanceMethod ({ cls := "CashLink$Bank", name := "reply", desc := "(LCashLink$Type;LCashLink$Message;I)Z" } : Jvm.MethodName)) ∈ x_Wd := x_i4 17 (Eq.refl _) rfl
theorem q4_18 : (Jvm.Cond.code ({ cls := "CashLink$Bank", name := "reply", desc := "(LCashLink$Type;LCashLink$Message;I)Z" } : Jvm.MethodName) prog_2_method_13_code (4 : Nat) (Option.some Jvm.ClassFile.FieldType.boolean)) ∈ x_Wd := x_i4 18 (Eq.refl _) rfl
theorem q4_19 : (Jvm.Cond.methodLink "CashLink$Bank" (152 : Nat) ({ cls := "CashLink$Network", name := "send", desc := "(LCashLink$Type;IIIII)Z" } : Jvm.MethodName)) ∈ x_Wd := x_i4 19 (Eq.refl _) rfl
theorem q4_20 : (Jvm.Cond.fieldLink "CashLink$Bank" (81 : Nat) "CashLink$Type" "REVERSAL" "LCashLink$Type;") ∈ x_Wd := x_i4 20 (Eq.refl _) rfl
theorem q4_21 : (Jvm.Cond.methodLink "CashLink$Bank" (84 : Nat) ({ cls := "CashLink$Bank", name := "answerReversal", desc := "(LCashLink$Message;)V" } : Jvm.MethodName)) ∈ x_Wd := x_i4 21 (Eq.refl _) rfl
theorem q4_23 : (Jvm.Cond.instanceMethod ({ cls := "CashLink$Bank", name := "answerReversal", desc := "(LCashLink$Message;)V" } : Jvm.MethodName)) ∈ x_Wd := x_i4 23 (Eq.refl _) rfl
theorem q4_24 : (Jvm.Cond.code ({ cls := "CashLink$Bank", name := "answerReversal", desc := "(LCashLink$Message;)V" } : Jvm.MethodName) prog_2_method_8_code (2 : Nat) (Option.none : Option Jvm.ClassFile.FieldType)) ∈ x_Wd := x_i4 24 (Eq.refl _) rfl
theorem q4_25 : (Jvm.Cond.methodLink "CashLink$Bank" (130 : Nat) ({ cls := "CashLink$Bank", name := "givenBack", desc := "(LCashLink$Message;)LCashLink$Entry;" } : Jvm.MethodName)) ∈ x_Wd := x_i4 25 (Eq.refl _) rfl
theorem q4_27 : (Jvm.Cond.instanceMethod ({ cls := "CashLink$Bank", name := "givenBack", desc := "(LCashLink$Message;)LCashLink$Entry;" } : Jvm.MethodName)) ∈ x_Wd := x_i4 27 (Eq.refl _) rfl
theorem q4_28 : (Jvm.Cond.code ({ cls := "CashLink$Bank", name := "givenBack", desc := "(LCashLink$Message;)LCashLink$Entry;" } : Jvm.MethodName) prog_2_method_9_code (6 : Nat) (Option.some (Jvm.ClassFile.FieldType.object "CashLink$Entry"))) ∈ x_Wd := x_i4 28 (Eq.refl _) rfl
theorem q4_29 : (Jvm.Cond.fieldLink "CashLink$Bank" (134 : Nat) "CashLink$Type" "REVERSAL_ANSWER" "LCashLink$Type;") ∈ x_Wd := x_i4 29 (Eq.refl _) rfl
theorem q4_31 : (Jvm.Cond.methodLink "CashLink$Bank" (87 : Nat) ({ cls := "CashLink$Bank", name := "answerTotals", desc := "(LCashLink$Message;)V" } : Jvm.MethodName)) ∈ x_Wd := x_i4 31 (Eq.refl _) rfl
theorem q4_33 : (Jvm.Cond.instanceMethod ({ cls := "CashLink$Bank", name := "answerTotals", desc := "(LCashLink$Message;)V" } : Jvm.MethodName)) ∈ x_Wd := x_i4 33 (Eq.refl _) rfl
theorem q4_34 : (Jvm.Cond.code ({ cls := "CashLink$Bank", name := "answerTotals", desc := "(LCashLink$Message;)V" } : Jvm.MethodName) prog_2_method_10_code (4 : Nat) (Option.none : Option Jvm.ClassFile.FieldType)) ∈ x_Wd := x_i4 34 (Eq.refl _) rfl
theorem q4_35 : (Jvm.Cond.methodLink "CashLink$Bank" (137 : Nat) ({ cls := "CashLink$Bank", name := "totalOf", desc := "(II)I" } : Jvm.MethodName)) ∈ x_Wd := x_i4 35 (Eq.refl _) rfl
theorem q4_37 : (Jvm.Cond.instanceMethod ({ cls := "CashLink$Bank", name := "totalOf", desc := "(II)I" } : Jvm.MethodName)) ∈ x_Wd := x_i4 37 (Eq.refl _) rfl
theorem q4_38 : (Jvm.Cond.code ({ cls := "CashLink$Bank", name := "totalOf", desc := "(II)I" } : Jvm.MethodName) prog_2_method_11_code (6 : Nat) (Option.some Jvm.ClassFile.FieldType.int)) ∈ x_Wd := x_i4 38 (Eq.refl _) rfl
theorem q4_39 : (Jvm.Cond.methodLink "CashLink$Bank" (147 : Nat) ({ cls := "CashLink$Entry", name := "machine", desc := "()I" } : Jvm.MethodName)) ∈ x_Wd := x_i4 39 (Eq.refl _) rfl
theorem q4_40 : (Jvm.Cond.instanceMethod ({ cls := "CashLink$Entry", name := "machine", desc := "()I" } : Jvm.MethodName)) ∈ x_Wd := x_i4 40 (Eq.refl _) rfl
theorem q4_41 : (Jvm.Cond.selects "CashLink$Entry" ({ cls := "CashLink$Entry", name := "machine", desc := "()I" } : Jvm.MethodName) ({ cls := "CashLink$Entry", name := "machine", desc := "()I" } : Jvm.MethodName)) ∈ x_Wd := x_i4 41 (Eq.refl _) rfl
theorem q4_42 : (Jvm.Cond.code ({ cls := "CashLink$Entry", name := "machine", desc := "()I" } : Jvm.MethodName) prog_4_method_8_code (1 : Nat) (Option.some Jvm.ClassFile.FieldType.int)) ∈ x_Wd := x_i4 42 (Eq.refl _) rfl
theorem q4_43 : (Jvm.Cond.methodLink "CashLink$Bank" (148 : Nat) ({ cls := "CashLink$Entry", name := "trace", desc := "()I" } : Jvm.MethodName)) ∈ x_Wd := x_i4 43 (Eq.refl _) rfl
theorem q4_44 : (Jvm.Cond.fieldLink "CashLink$Bank" (141 : Nat) "CashLink$Type" "TOTALS_ANSWER" "LCashLink$Type;") ∈ x_Wd := x_i4 44 (Eq.refl _) rfl
theorem q4_46 : (Jvm.Cond.methodLink "CashLink" (94 : Nat) ({ cls := "CashLink$Message", name := "machine", desc := "()I" } : Jvm.MethodName)) ∈ x_Wd := x_i4 46 (Eq.refl _) rfl
theorem q4_47 : (Jvm.Cond.methodLink "CashLink" (97 : Nat) ({ cls := "CashLink$Machine", name := "receive", desc := "(LCashLink$Message;)V" } : Jvm.MethodName)) ∈ x_Wd := x_i4 47 (Eq.refl _) rfl
theorem q4_48 : (Jvm.Cond.instanceMethod ({ cls := "CashLink$Machine", name := "receive", desc := "(LCashLink$Message;)V" } : Jvm.MethodName)) ∈ x_Wd := x_i4 48 (Eq.refl _) rfl
theorem q4_49 : (Jvm.Cond.selects "CashLink$Machine" ({ cls := "CashLink$Machine", name := "receive", desc := "(LCashLink$Message;)V" } : Jvm.MethodName) ({ cls := "CashLink$Machine", name := "receive", desc := "(LCashLink$Message;)V" } : Jvm.MethodName)) ∈ x_Wd := x_i4 49 (Eq.refl _) rfl
theorem q4_50 : (Jvm.Cond.code ({ cls := "CashLink$Machine", name := "receive", desc := "(LCashLink$Message;)V" } : Jvm.MethodName) prog_6_method_8_code (2 : Nat) (Option.none : Option Jvm.ClassFile.FieldType)) ∈ x_Wd := x_i4 50 (Eq.refl _) rfl
theorem q4_51 : (Jvm.Cond.methodLink "CashLink$Machine" (153 : Nat) ({ cls := "CashLink$Message", name := "type", desc := "()LCashLink$Type;" } : Jvm.MethodName)) ∈ x_Wd := x_i4 51 (Eq.refl _) rfl
theorem q4_52 : (Jvm.Cond.fieldLink "CashLink$Machine" (159 : Nat) "CashLink$Type" "REVERSAL_ANSWER" "LCashLink$Type;") ∈ x_Wd := x_i4 52 (Eq.refl _) rfl
theorem q4_53 : (Jvm.Cond.methodLink "CashLink$Machine" (162 : Nat) ({ cls := "CashLink$Message", name := "trace", desc := "()I" } : Jvm.MethodName)) ∈ x_Wd := x_i4 53 (Eq.refl _) rfl
theorem q4_54 : (Jvm.Cond.methodLink "CashLink$Machine" (163 : Nat) ({ cls := "CashLink$Machine", name := "endVoid", desc := "(I)V" } : Jvm.MethodName)) ∈ x_Wd := x_i4 54 (Eq.refl _) rfl
theorem q4_56 : (Jvm.Cond.instanceMethod ({ cls := "CashLink$Machine", name := "endVoid", desc := "(I)V" } : Jvm.MethodName)) ∈ x_Wd := x_i4 56 (Eq.refl _) rfl
theorem q4_57 : (Jvm.Cond.code ({ cls := "CashLink$Machine", name := "endVoid", desc := "(I)V" } : Jvm.MethodName) prog_6_method_13_code (2 : Nat) (Option.none : Option Jvm.ClassFile.FieldType)) ∈ x_Wd := x_i4 57 (Eq.refl _) rfl
theorem q4_58 : (Jvm.Cond.methodLink "CashLink$Machine" (195 : Nat) ({ cls := "CashLink$Machine", name := "isVoid", desc := "(I)Z" } : Jvm.MethodName)) ∈ x_Wd := x_i4 58 (Eq.refl _) rfl
theorem q4_60 : (Jvm.Cond.instanceMethod ({ cls := "CashLink$Machine", name := "isVoid", desc := "(I)Z" } : Jvm.MethodName)) ∈ x_Wd := x_i4 60 (Eq.refl _) rfl
theorem q4_61 : (Jvm.Cond.code ({ cls := "CashLink$Machine", name := "isVoid", desc := "(I)Z" } : Jvm.MethodName) prog_6_method_14_code (3 : Nat) (Option.some Jvm.ClassFile.FieldType.boolean)) ∈ x_Wd := x_i4 61 (Eq.refl _) rfl
theorem q4_62 : (Jvm.Cond.methodLink "CashLink$Machine" (198 : Nat) ({ cls := "CashLink$Machine", name := "forgetVoid", desc := "(I)V" } : Jvm.MethodName)) ∈ x_Wd := x_i4 62 (Eq.refl _) rfl
theorem q4_64 : (Jvm.Cond.instanceMethod ({ cls := "CashLink$Machine", name := "forgetVoid", desc := "(I)V" } : Jvm.MethodName)) ∈ x_Wd := x_i4 64 (Eq.refl _) rfl
theorem q4_65 : (Jvm.Cond.code ({ cls := "CashLink$Machine", name := "forgetVoid", desc := "(I)V" } : Jvm.MethodName) prog_6_method_15_code (3 : Nat) (Option.none : Option Jvm.ClassFile.FieldType)) ∈ x_Wd := x_i4 65 (Eq.refl _) rfl
theorem q4_66 : (Jvm.Cond.methodLink "CashLink$Machine" (201 : Nat) ({ cls := "java/util/ArrayList", name := "remove", desc := "(I)Ljava/lang/Object;" } : Jvm.MethodName)) ∈ x_Wd := x_i4 66 (Eq.refl _) rfl
theorem q4_67 : (Jvm.Cond.instanceMethod ({ cls := "java/util/ArrayList", name := "remove", desc := "(I)Ljava/lang/Object;" } : Jvm.MethodName)) ∈ x_Wd := x_i4 67 (Eq.refl _) rfl
theorem q4_68 : (Jvm.Cond.selects "java/util/ArrayList" ({ cls := "java/util/ArrayList", name := "remove", desc := "(I)Ljava/lang/Object;" } : Jvm.MethodName) ({ cls := "java/util/ArrayList", name := "remove", desc := "(I)Ljava/lang/Object;" } : Jvm.MethodName)) ∈ x_Wd := x_i4 68 (Eq.refl _) rfl
theorem q4_69 : (Jvm.Cond.code ({ cls := "java/util/ArrayList", name := "remove", desc := "(I)Ljava/lang/Object;" } : Jvm.MethodName) prog_35_method_29_code (4 : Nat) (Option.some (Jvm.ClassFile.FieldType.object "java/lang/Object"))) ∈ x_Wd := x_i4 69 (Eq.refl _) rfl
theorem q4_70 : (Jvm.Cond.methodLink "java/util/ArrayList" (144 : Nat) ({ cls := "java/util/ArrayList", name := "fastRemove", desc := "([Ljava/lang/Object;I)V" } : Jvm.MethodName)) ∈ x_Wd := x_i4 70 (Eq.refl _) rfl
theorem q4_72 : (Jvm.Cond.instanceMethod ({ cls := "java/util/ArrayList", name := "fastRemove", desc := "([Ljava/lang/Object;I)V" } : Jvm.MethodName)) ∈ x_Wd := x_i4 72 (Eq.refl _) rfl
theorem q4_73 : (Jvm.Cond.code ({ cls := "java/util/ArrayList", name := "fastRemove", desc := "([Ljava/lang/Object;I)V" } : Jvm.MethodName) prog_35_method_39_code (4 : Nat) (Option.none : Option Jvm.ClassFile.FieldType)) ∈ x_Wd := x_i4 73 (Eq.refl _) rfl
theorem q4_74 : (Jvm.Cond.methodLink "java/util/ArrayList" (112 : Nat) ({ cls := "java/lang/System", name := "arraycopy", desc := "(Ljava/lang/Object;ILjava/lang/Object;II)V" } : Jvm.MethodName)) ∈ x_Wd := x_i4 74 (Eq.refl _) rfl
theorem q4_75 : (Jvm.Cond.fieldLink "CashLink$Machine" (166 : Nat) "CashLink$Type" "REQUEST_ANSWER" "LCashLink$Type;") ∈ x_Wd := x_i4 75 (Eq.refl _) rfl
theorem q4_76 : (Jvm.Cond.methodLink "CashLink$Machine" (169 : Nat) ({ cls := "CashLink$Machine", name := "isAwaited", desc := "(I)Z" } : Jvm.MethodName)) ∈ x_Wd := x_i4 76 (Eq.refl _) rfl
theorem q4_78 : (Jvm.Cond.instanceMethod ({ cls := "CashLink$Machine", name := "isAwaited", desc := "(I)Z" } : Jvm.MethodName)) ∈ x_Wd := x_i4 78 (Eq.refl _) rfl
theorem q4_79 : (Jvm.Cond.code ({ cls := "CashLink$Machine", name := "isAwaited", desc := "(I)Z" } : Jvm.MethodName) prog_6_method_9_code (2 : Nat) (Option.some Jvm.ClassFile.FieldType.boolean)) ∈ x_Wd := x_i4 79 (Eq.refl _) rfl
theorem q4_80 : (Jvm.Cond.methodLink "CashLink$Machine" (172 : Nat) ({ cls := "CashLink$Message", name := "answer", desc := "()I" } : Jvm.MethodName)) ∈ x_Wd := x_i4 80 (Eq.refl _) rfl
theorem q4_81 : (Jvm.Cond.instanceMethod ({ cls := "CashLink$Message", name := "answer", desc := "()I" } : Jvm.MethodName)) ∈ x_Wd := x_i4 81 (Eq.refl _) rfl
theorem q4_82 : (Jvm.Cond.selects "CashLink$Message" ({ cls := "CashLink$Message", name := "answer", desc := "()I" } : Jvm.MethodName) ({ cls := "CashLink$Message", name := "answer", desc := "()I" } : Jvm.MethodName)) ∈ x_Wd := x_i4 82 (Eq.refl _) rfl
theorem q4_83 : (Jvm.Cond.code ({ cls := "CashLink$Message", name := "answer", desc := "()I" } : Jvm.MethodName) prog_7_method_13_code (1 : Nat) (Option.some Jvm.ClassFile.FieldType.int)) ∈ x_Wd := x_i4 83 (Eq.refl _) rfl
theorem q4_84 : (Jvm.Cond.methodLink "CashLink$Machine" (175 : Nat) ({ cls := "CashLink$Machine", name := "payOut", desc := "()V" } : Jvm.MethodName)) ∈ x_Wd := x_i4 84 (Eq.refl _) rfl
theorem q4_86 : (Jvm.Cond.instanceMethod ({ cls := "CashLink$Machine", name := "payOut", desc := "()V" } : Jvm.MethodName)) ∈ x_Wd := x_i4 86 (Eq.refl _) rfl
theorem q4_87 : (Jvm.Cond.code ({ cls := "CashLink$Machine", name := "payOut", desc := "()V" } : Jvm.MethodName) prog_6_method_10_code (2 : Nat) (Option.none : Option Jvm.ClassFile.FieldType)) ∈ x_Wd := x_i4 87 (Eq.refl _) rfl
theorem q4_88 : (Jvm.Cond.methodLink "CashLink$Machine" (181 : Nat) ({ cls := "CashLink$Dispenser", name := "dispense", desc := "(II)I" } : Jvm.MethodName)) ∈ x_Wd := x_i4 88 (Eq.refl _) rfl
theorem q4_89 : (Jvm.Cond.instanceMethod ({ cls := "CashLink$Dispenser", name := "dispense", desc := "(II)I" } : Jvm.MethodName)) ∈ x_Wd := x_i4 89 (Eq.refl _) rfl
theorem q4_90 : (Jvm.Cond.selects "CashLink$Dispenser" ({ cls := "CashLink$Dispenser", name := "dispense", desc := "(II)I" } : Jvm.MethodName) ({ cls := "CashLink$Dispenser", name := "dispense", desc := "(II)I" } : Jvm.MethodName)) ∈ x_Wd := x_i4 90 (Eq.refl _) rfl
theorem q4_91 : (Jvm.Cond.code ({ cls := "CashLink$Dispenser", name := "dispense", desc := "(II)I" } : Jvm.MethodName) prog_3_method_5_code (7 : Nat) (Option.some Jvm.ClassFile.FieldType.int)) ∈ x_Wd := x_i4 91 (Eq.refl _) rfl
theorem q4_92 : (Jvm.Cond.methodLink "CashLink$Dispenser" (32 : Nat) ({ cls := "CashLink$Dispenser", name := "notesIn", desc := "(II)I" } : Jvm.MethodName)) ∈ x_Wd := x_i4 92 (Eq.refl _) rfl
theorem q4_93 : (Jvm.Cond.static ({ cls := "CashLink$Dispenser", name := "notesIn", desc := "(II)I" } : Jvm.MethodName)) ∈ x_Wd := x_i4 93 (Eq.refl _) rfl
theorem q4_94 : (Jvm.Cond.code ({ cls := "CashLink$Dispenser", name := "notesIn", desc := "(II)I" } : Jvm.MethodName) prog_3_method_4_code (2 : Nat) (Option.some Jvm.ClassFile.FieldType.int)) ∈ x_Wd := x_i4 94 (Eq.refl _) rfl
theorem q4_95 : (Jvm.Cond.fieldLink "CashLink$Dispenser" (35 : Nat) "CashLink$Dispenser" "WORTH" "[I") ∈ x_Wd := x_i4 95 (Eq.refl _) rfl
theorem q4_97 : (Jvm.Cond.methodLink "CashLink$Machine" (185 : Nat) ({ cls := "CashLink$Machine", name := "endPayment", desc := "()V" } : Jvm.MethodName)) ∈ x_Wd := x_i4 97 (Eq.refl _) rfl
theorem q4_99 : (Jvm.Cond.instanceMethod ({ cls := "CashLink$Machine", name := "endPayment", desc := "()V" } : Jvm.MethodName)) ∈ x_Wd := x_i4 99 (Eq.refl _) rfl
theorem q4_100 : (Jvm.Cond.code ({ cls := "CashLink$Machine", name := "endPayment", desc := "()V" } : Jvm.MethodName) prog_6_method_11_code (2 : Nat) (Option.none : Option Jvm.ClassFile.FieldType)) ∈ x_Wd := x_i4 100 (Eq.refl _) rfl
theorem q4_101 : (Jvm.Cond.methodLink "CashLink$Machine" (188 : Nat) ({ cls := "CashLink$Dispenser", name := "cameOutFor", desc := "(I)I" } : Jvm.MethodName)) ∈ x_Wd := x_i4 101 (Eq.refl _) rfl
theorem q4_102 : (Jvm.Cond.instanceMethod ({ cls := "CashLink$Dispenser", name := "cameOutFor", desc := "(I)I" } : Jvm.MethodName)) ∈ x_Wd := x_i4 102 (Eq.refl _) rfl
theorem q4_103 : (Jvm.Cond.selects "CashLink$Dispenser" ({ cls := "CashLink$Dispenser", name := "cameOutFor", desc := "(I)I" } : Jvm.MethodName) ({ cls := "CashLink$Dispenser", name := "cameOutFor", desc := "(I)I" } : Jvm.MethodName)) ∈ x_Wd := x_i4 103 (Eq.refl _) rfl
theorem q4_104 : (Jvm.Cond.code ({ cls := "CashLink$Dispenser", name := "cameOutFor", desc := "(I)I" } : Jvm.MethodName) prog_3_method_6_code (2 : Nat) (Option.some Jvm.ClassFile.FieldType.int)) ∈ x_Wd := x_i4 104 (Eq.refl _) rfl
theorem q4_105 : (Jvm.Cond.methodLink "CashLinkLaw" (112 : Nat) ({ cls := "CashLinkLaw", name := "jam", desc := "(LCashLink;II)I" } : Jvm.MethodName)) ∈ x_Wd := x_i4 105 (Eq.refl _) rfl
theorem q4_106 : (Jvm.Cond.static ({ cls := "CashLinkLaw", name := "jam", desc := "(LCashLink;II)I" } : Jvm.MethodName)) ∈ x_Wd := x_i4 106 (Eq.refl _) rfl
theorem q4_107 : (Jvm.Cond.codeWith ({ cls := "CashLinkLaw", name := "jam", desc := "(LCashLink;II)I" } : Jvm.MethodName) method_10_code (4 : Nat) (Option.some Jvm.ClassFile.FieldType.int) [((0 : Nat), (6 : Nat), (9 : Nat), (13 : Nat))]) ∈ x_Wd := x_i4 107 (Eq.refl _) rfl
theorem q4_108 : (Jvm.Cond.methodLink "CashLinkLaw" (45 : Nat) ({ cls := "CashLink", name := "jam", desc := "(II)V" } : Jvm.MethodName)) ∈ x_Wd := x_i4 108 (Eq.refl _) rfl
theorem q4_109 : (Jvm.Cond.instanceMethod ({ cls := "CashLink", name := "jam", desc := "(II)V" } : Jvm.MethodName)) ∈ x_Wd := x_i4 109 (Eq.refl _) rfl
theorem q4_110 : (Jvm.Cond.selects "CashLink" ({ cls := "CashLink", name := "jam", desc := "(II)V" } : Jvm.MethodName) ({ cls := "CashLink", name := "jam", desc := "(II)V" } : Jvm.MethodName)) ∈ x_Wd := x_i4 110 (Eq.refl _) rfl
theorem q4_111 : (Jvm.Cond.code ({ cls := "CashLink", name := "jam", desc := "(II)V" } : Jvm.MethodName) prog_1_method_9_code (4 : Nat) (Option.none : Option Jvm.ClassFile.FieldType)) ∈ x_Wd := x_i4 111 (Eq.refl _) rfl
theorem q4_112 : (Jvm.Cond.methodLink "CashLinkLaw" (115 : Nat) ({ cls := "CashLinkLaw", name := "load", desc := "(LCashLink;III[J)I" } : Jvm.MethodName)) ∈ x_Wd := x_i4 112 (Eq.refl _) rfl
theorem q4_113 : (Jvm.Cond.static ({ cls := "CashLinkLaw", name := "load", desc := "(LCashLink;III[J)I" } : Jvm.MethodName)) ∈ x_Wd := x_i4 113 (Eq.refl _) rfl
theorem q4_114 : (Jvm.Cond.codeWith ({ cls := "CashLinkLaw", name := "load", desc := "(LCashLink;III[J)I" } : Jvm.MethodName) method_11_code (6 : Nat) (Option.some Jvm.ClassFile.FieldType.int) [((0 : Nat), (12 : Nat), (15 : Nat), (13 : Nat)), ((0 : Nat), (12 : Nat), (19 : Nat), (15 : Nat))]) ∈ x_Wd := x_i4 114 (Eq.refl _) rfl
theorem q4_115 : (Jvm.Cond.methodLink "CashLinkLaw" (48 : Nat) ({ cls := "CashLink", name := "load", desc := "(III)I" } : Jvm.MethodName)) ∈ x_Wd := x_i4 115 (Eq.refl _) rfl
theorem q4_116 : (Jvm.Cond.instanceMethod ({ cls := "CashLink", name := "load", desc := "(III)I" } : Jvm.MethodName)) ∈ x_Wd := x_i4 116 (Eq.refl _) rfl
theorem q4_117 : (Jvm.Cond.selects "CashLink" ({ cls := "CashLink", name := "load", desc := "(III)I" } : Jvm.MethodName) ({ cls := "CashLink", name := "load", desc := "(III)I" } : Jvm.MethodName)) ∈ x_Wd := x_i4 117 (Eq.refl _) rfl
theorem q4_118 : (Jvm.Cond.code ({ cls := "CashLink", name := "load", desc := "(III)I" } : Jvm.MethodName) prog_1_method_10_code (5 : Nat) (Option.some Jvm.ClassFile.FieldType.int)) ∈ x_Wd := x_i4 118 (Eq.refl _) rfl
theorem q4_119 : (Jvm.Cond.methodLink "CashLink" (108 : Nat) ({ cls := "CashLink", name := "isCassette", desc := "(I)Z" } : Jvm.MethodName)) ∈ x_Wd := x_i4 119 (Eq.refl _) rfl
theorem q4_120 : (Jvm.Cond.static ({ cls := "CashLink", name := "isCassette", desc := "(I)Z" } : Jvm.MethodName)) ∈ x_Wd := x_i4 120 (Eq.refl _) rfl
theorem q4_121 : (Jvm.Cond.code ({ cls := "CashLink", name := "isCassette", desc := "(I)Z" } : Jvm.MethodName) prog_1_method_25_code (1 : Nat) (Option.some Jvm.ClassFile.FieldType.boolean)) ∈ x_Wd := x_i4 121 (Eq.refl _) rfl
theorem q4_122 : (Jvm.Cond.methodLink "CashLink" (111 : Nat) ({ cls := "CashLink$Dispenser", name := "fill", desc := "(II)I" } : Jvm.MethodName)) ∈ x_Wd := x_i4 122 (Eq.refl _) rfl
theorem q4_123 : (Jvm.Cond.instanceMethod ({ cls := "CashLink$Dispenser", name := "fill", desc := "(II)I" } : Jvm.MethodName)) ∈ x_Wd := x_i4 123 (Eq.refl _) rfl
theorem q4_124 : (Jvm.Cond.selects "CashLink$Dispenser" ({ cls := "CashLink$Dispenser", name := "fill", desc := "(II)I" } : Jvm.MethodName) ({ cls := "CashLink$Dispenser", name := "fill", desc := "(II)I" } : Jvm.MethodName)) ∈ x_Wd := x_i4 124 (Eq.refl _) rfl
theorem q4_125 : (Jvm.Cond.code ({ cls := "CashLink$Dispenser", name := "fill", desc := "(II)I" } : Jvm.MethodName) prog_3_method_2_code (3 : Nat) (Option.some Jvm.ClassFile.FieldType.int)) ∈ x_Wd := x_i4 125 (Eq.refl _) rfl
theorem q4_126 : (Jvm.Cond.methodLinkNest "CashLink$Dispenser" (19 : Nat) ({ cls := "CashLink", name := "demand", desc := "(Z)V" } : Jvm.MethodName) "CashLink") ∈ x_Wd := x_i4 126 (Eq.refl _) rfl
theorem q4_127 : (Jvm.Cond.methodLink "CashLinkLaw" (119 : Nat) ({ cls := "CashLinkLaw", name := "power", desc := "(LCashLink;III)I" } : Jvm.MethodName)) ∈ x_Wd := x_i4 127 (Eq.refl _) rfl
theorem q4_128 : (Jvm.Cond.static ({ cls := "CashLinkLaw", name := "power", desc := "(LCashLink;III)I" } : Jvm.MethodName)) ∈ x_Wd := x_i4 128 (Eq.refl _) rfl
theorem q4_129 : (Jvm.Cond.codeWith ({ cls := "CashLinkLaw", name := "power", desc := "(LCashLink;III)I" } : Jvm.MethodName) method_12_code (5 : Nat) (Option.some Jvm.ClassFile.FieldType.int) [((0 : Nat), (7 : Nat), (10 : Nat), (13 : Nat))]) ∈ x_Wd := x_i4 129 (Eq.refl _) rfl
theorem q4_130 : (Jvm.Cond.methodLink "CashLinkLaw" (52 : Nat) ({ cls := "CashLink", name := "power", desc := "(III)V" } : Jvm.MethodName)) ∈ x_Wd := x_i4 130 (Eq.refl _) rfl
theorem q4_131 : (Jvm.Cond.instanceMethod ({ cls := "CashLink", name := "power", desc := "(III)V" } : Jvm.MethodName)) ∈ x_Wd := x_i4 131 (Eq.refl _) rfl
theorem q4_132 : (Jvm.Cond.selects "CashLink" ({ cls := "CashLink", name := "power", desc := "(III)V" } : Jvm.MethodName) ({ cls := "CashLink", name := "power", desc := "(III)V" } : Jvm.MethodName)) ∈ x_Wd := x_i4 132 (Eq.refl _) rfl
theorem q4_133 : (Jvm.Cond.code ({ cls := "CashLink", name := "power", desc := "(III)V" } : Jvm.MethodName) prog_1_method_11_code (5 : Nat) (Option.none : Option Jvm.ClassFile.FieldType)) ∈ x_Wd := x_i4 133 (Eq.refl _) rfl
theorem q4_134 : (Jvm.Cond.methodLink "CashLink" (122 : Nat) ({ cls := "CashLink$Journal", name := "planFailure", desc := "(II)V" } : Jvm.MethodName)) ∈ x_Wd := x_i4 134 (Eq.refl _) rfl
theorem q4_135 : (Jvm.Cond.instanceMethod ({ cls := "CashLink$Journal", name := "planFailure", desc := "(II)V" } : Jvm.MethodName)) ∈ x_Wd := x_i4 135 (Eq.refl _) rfl
theorem q4_136 : (Jvm.Cond.selects "CashLink$Journal" ({ cls := "CashLink$Journal", name := "planFailure", desc := "(II)V" } : Jvm.MethodName) ({ cls := "CashLink$Journal", name := "planFailure", desc := "(II)V" } : Jvm.MethodName)) ∈ x_Wd := x_i4 136 (Eq.refl _) rfl
theorem q4_137 : (Jvm.Cond.code ({ cls := "CashLink$Journal", name := "planFailure", desc := "(II)V" } : Jvm.MethodName) prog_5_method_7_code (3 : Nat) (Option.none : Option Jvm.ClassFile.FieldType)) ∈ x_Wd := x_i4 137 (Eq.refl _) rfl
theorem q4_138 : (Jvm.Cond.methodLink "CashLinkLaw" (123 : Nat) ({ cls := "CashLinkLaw", name := "on", desc := "(LCashLink;I[J)I" } : Jvm.MethodName)) ∈ x_Wd := x_i4 138 (Eq.refl _) rfl
theorem q4_139 : (Jvm.Cond.static ({ cls := "CashLinkLaw", name := "on", desc := "(LCashLink;I[J)I" } : Jvm.MethodName)) ∈ x_Wd := x_i4 139 (Eq.refl _) rfl
theorem q4_140 : (Jvm.Cond.codeWith ({ cls := "CashLinkLaw", name := "on", desc := "(LCashLink;I[J)I" } : Jvm.MethodName) method_13_code (4 : Nat) (Option.some Jvm.ClassFile.FieldType.int) [((0 : Nat), (9 : Nat), (12 : Nat), (13 : Nat)), ((0 : Nat), (9 : Nat), (15 : Nat), (27 : Nat))]) ∈ x_Wd := x_i4 140 (Eq.refl _) rfl
theorem q4_141 : (Jvm.Cond.methodLink "CashLinkLaw" (56 : Nat) ({ cls := "CashLink", name := "on", desc := "(I)I" } : Jvm.MethodName)) ∈ x_Wd := x_i4 141 (Eq.refl _) rfl
theorem q4_142 : (Jvm.Cond.instanceMethod ({ cls := "CashLink", name := "on", desc := "(I)I" } : Jvm.MethodName)) ∈ x_Wd := x_i4 142 (Eq.refl _) rfl
theorem q4_143 : (Jvm.Cond.selects "CashLink" ({ cls := "CashLink", name := "on", desc := "(I)I" } : Jvm.MethodName) ({ cls := "CashLink", name := "on", desc := "(I)I" } : Jvm.MethodName)) ∈ x_Wd := x_i4 143 (Eq.refl _) rfl
theorem q4_144 : (Jvm.Cond.code ({ cls := "CashLink", name := "on", desc := "(I)I" } : Jvm.MethodName) prog_1_method_12_code (2 : Nat) (Option.some Jvm.ClassFile.FieldType.int)) ∈ x_Wd := x_i4 144 (Eq.refl _) rfl
theorem q4_145 : (Jvm.Cond.methodLink "CashLink" (126 : Nat) ({ cls := "CashLink$Bank", name := "turnOn", desc := "()I" } : Jvm.MethodName)) ∈ x_Wd := x_i4 145 (Eq.refl _) rfl
theorem q4_146 : (Jvm.Cond.instanceMethod ({ cls := "CashLink$Bank", name := "turnOn", desc := "()I" } : Jvm.MethodName)) ∈ x_Wd := x_i4 146 (Eq.refl _) rfl
theorem q4_147 : (Jvm.Cond.selects "CashLink$Bank" ({ cls := "CashLink$Bank", name := "turnOn", desc := "()I" } : Jvm.MethodName) ({ cls := "CashLink$Bank", name := "turnOn", desc := "()I" } : Jvm.MethodName)) ∈ x_Wd := x_i4 147 (Eq.refl _) rfl
theorem q4_148 : (Jvm.Cond.code ({ cls := "CashLink$Bank", name := "turnOn", desc := "()I" } : Jvm.MethodName) prog_2_method_2_code (1 : Nat) (Option.some Jvm.ClassFile.FieldType.int)) ∈ x_Wd := x_i4 148 (Eq.refl _) rfl
theorem q4_149 : (Jvm.Cond.methodLink "CashLink$Bank" (28 : Nat) ({ cls := "CashLink$Journal", name := "turnOn", desc := "()V" } : Jvm.MethodName)) ∈ x_Wd := x_i4 149 (Eq.refl _) rfl
theorem q4_150 : (Jvm.Cond.instanceMethod ({ cls := "CashLink$Journal", name := "turnOn", desc := "()V" } : Jvm.MethodName)) ∈ x_Wd := x_i4 150 (Eq.refl _) rfl
theorem q4_151 : (Jvm.Cond.selects "CashLink$Journal" ({ cls := "CashLink$Journal", name := "turnOn", desc := "()V" } : Jvm.MethodName) ({ cls := "CashLink$Journal", name := "turnOn", desc := "()V" } : Jvm.MethodName)) ∈ x_Wd := x_i4 151 (Eq.refl _) rfl
theorem q4_152 : (Jvm.Cond.code ({ cls := "CashLink$Journal", name := "turnOn", desc := "()V" } : Jvm.MethodName) prog_5_method_6_code (1 : Nat) (Option.none : Option Jvm.ClassFile.FieldType)) ∈ x_Wd := x_i4 152 (Eq.refl _) rfl
theorem q4_153 : (Jvm.Cond.methodLink "CashLink" (129 : Nat) ({ cls := "CashLink$Machine", name := "turnOn", desc := "()I" } : Jvm.MethodName)) ∈ x_Wd := x_i4 153 (Eq.refl _) rfl
theorem q4_154 : (Jvm.Cond.instanceMethod ({ cls := "CashLink$Machine", name := "turnOn", desc := "()I" } : Jvm.MethodName)) ∈ x_Wd := x_i4 154 (Eq.refl _) rfl
theorem q4_155 : (Jvm.Cond.selects "CashLink$Machine" ({ cls := "CashLink$Machine", name := "turnOn", desc := "()I" } : Jvm.MethodName) ({ cls := "CashLink$Machine", name := "turnOn", desc := "()I" } : Jvm.MethodName)) ∈ x_Wd := x_i4 155 (Eq.refl _) rfl
theorem q4_156 : (Jvm.Cond.code ({ cls := "CashLink$Machine", name := "turnOn", desc := "()I" } : Jvm.MethodName) prog_6_method_16_code (2 : Nat) (Option.some Jvm.ClassFile.FieldType.int)) ∈ x_Wd := x_i4 156 (Eq.refl _) rfl
theorem q4_157 : (Jvm.Cond.methodLink "CashLink$Machine" (204 : Nat) ({ cls := "CashLink$Journal", name := "turnOn", desc := "()V" } : Jvm.MethodName)) ∈ x_Wd := x_i4 157 (Eq.refl _) rfl
theorem q4_158 : (Jvm.Cond.methodLink "CashLink$Machine" (207 : Nat) ({ cls := "CashLink$Machine", name := "recall", desc := "()V" } : Jvm.MethodName)) ∈ x_Wd := x_i4 158 (Eq.refl _) rfl
theorem q4_160 : (Jvm.Cond.instanceMethod ({ cls := "CashLink$Machine", name := "recall", desc := "()V" } : Jvm.MethodName)) ∈ x_Wd := x_i4 160 (Eq.refl _) rfl
theorem q4_161 : (Jvm.Cond.code ({ cls := "CashLink$Machine", name := "recall", desc := "()V" } : Jvm.MethodName) prog_6_method_17_code (3 : Nat) (Option.none : Option Jvm.ClassFile.FieldType)) ∈ x_Wd := x_i4 161 (Eq.refl _) rfl
theorem q4_162 : (Jvm.Cond.methodLink "CashLink$Machine" (213 : Nat) ({ cls := "java/util/ArrayList", name := "clear", desc := "()V" } : Jvm.MethodName)) ∈ x_Wd := x_i4 162 (Eq.refl _) rfl
theorem q4_163 : (Jvm.Cond.instanceMethod ({ cls := "java/util/ArrayList", name := "clear", desc := "()V" } : Jvm.MethodName)) ∈ x_Wd := x_i4 163 (Eq.refl _) rfl
theorem q4_164 : (Jvm.Cond.selects "java/util/ArrayList" ({ cls := "java/util/ArrayList", name := "clear", desc := "()V" } : Jvm.MethodName) ({ cls := "java/util/ArrayList", name := "clear", desc := "()V" } : Jvm.MethodName)) ∈ x_Wd := x_i4 164 (Eq.refl _) rfl
theorem q4_165 : (Jvm.Cond.code ({ cls := "java/util/ArrayList", name := "clear", desc := "()V" } : Jvm.MethodName) prog_35_method_40_code (4 : Nat) (Option.none : Option Jvm.ClassFile.FieldType)) ∈ x_Wd := x_i4 165 (Eq.refl _) rfl
theorem q4_166 : (Jvm.Cond.methodLink "CashLink$Machine" (210 : Nat) ({ cls := "CashLink$Machine", name := "finishLast", desc := "()V" } : Jvm.MethodName)) ∈ x_Wd := x_i4 166 (Eq.refl _) rfl
theorem q4_168 : (Jvm.Cond.instanceMethod ({ cls := "CashLink$Machine", name := "finishLast", desc := "()V" } : Jvm.MethodName)) ∈ x_Wd := x_i4 168 (Eq.refl _) rfl
theorem q4_169 : (Jvm.Cond.code ({ cls := "CashLink$Machine", name := "finishLast", desc := "()V" } : Jvm.MethodName) prog_6_method_18_code (2 : Nat) (Option.none : Option Jvm.ClassFile.FieldType)) ∈ x_Wd := x_i4 169 (Eq.refl _) rfl
theorem q4_170 : (Jvm.Cond.methodLink "CashLink$Machine" (216 : Nat) ({ cls := "CashLink$Machine", name := "has", desc := "(I)Z" } : Jvm.MethodName)) ∈ x_Wd := x_i4 170 (Eq.refl _) rfl
theorem q4_172 : (Jvm.Cond.instanceMethod ({ cls := "CashLink$Machine", name := "has", desc := "(I)Z" } : Jvm.MethodName)) ∈ x_Wd := x_i4 172 (Eq.refl _) rfl
theorem q4_173 : (Jvm.Cond.code ({ cls := "CashLink$Machine", name := "has", desc := "(I)Z" } : Jvm.MethodName) prog_6_method_19_code (2 : Nat) (Option.some Jvm.ClassFile.FieldType.boolean)) ∈ x_Wd := x_i4 173 (Eq.refl _) rfl
theorem q4_174 : (Jvm.Cond.methodLink "CashLink$Machine" (219 : Nat) ({ cls := "CashLink$Journal", name := "find", desc := "(III)LCashLink$Entry;" } : Jvm.MethodName)) ∈ x_Wd := x_i4 174 (Eq.refl _) rfl
theorem q4_175 : (Jvm.Cond.methodLink "CashLinkLaw" (126 : Nat) ({ cls := "CashLinkLaw", name := "told", desc := "(LCashLink;II[J)I" } : Jvm.MethodName)) ∈ x_Wd := x_i4 175 (Eq.refl _) rfl
theorem q4_176 : (Jvm.Cond.static ({ cls := "CashLinkLaw", name := "told", desc := "(LCashLink;II[J)I" } : Jvm.MethodName)) ∈ x_Wd := x_i4 176 (Eq.refl _) rfl
theorem q4_177 : (Jvm.Cond.codeWith ({ cls := "CashLinkLaw", name := "told", desc := "(LCashLink;II[J)I" } : Jvm.MethodName) method_14_code (5 : Nat) (Option.some Jvm.ClassFile.FieldType.int) [((0 : Nat), (10 : Nat), (13 : Nat), (13 : Nat))]) ∈ x_Wd := x_i4 177 (Eq.refl _) rfl
theorem q4_178 : (Jvm.Cond.methodLink "CashLinkLaw" (59 : Nat) ({ cls := "CashLink", name := "told", desc := "(II)I" } : Jvm.MethodName)) ∈ x_Wd := x_i4 178 (Eq.refl _) rfl
theorem q4_179 : (Jvm.Cond.instanceMethod ({ cls := "CashLink", name := "told", desc := "(II)I" } : Jvm.MethodName)) ∈ x_Wd := x_i4 179 (Eq.refl _) rfl
theorem q4_180 : (Jvm.Cond.selects "CashLink" ({ cls := "CashLink", name := "told", desc := "(II)I" } : Jvm.MethodName) ({ cls := "CashLink", name := "told", desc := "(II)I" } : Jvm.MethodName)) ∈ x_Wd := x_i4 180 (Eq.refl _) rfl
theorem q4_181 : (Jvm.Cond.code ({ cls := "CashLink", name := "told", desc := "(II)I" } : Jvm.MethodName) prog_1_method_13_code (4 : Nat) (Option.some Jvm.ClassFile.FieldType.int)) ∈ x_Wd := x_i4 181 (Eq.refl _) rfl
theorem q4_182 : (Jvm.Cond.methodLink "CashLink" (130 : Nat) ({ cls := "CashLink$Machine", name := "tell", desc := "(I)I" } : Jvm.MethodName)) ∈ x_Wd := x_i4 182 (Eq.refl _) rfl
theorem q4_183 : (Jvm.Cond.instanceMethod ({ cls := "CashLink$Machine", name := "tell", desc := "(I)I" } : Jvm.MethodName)) ∈ x_Wd := x_i4 183 (Eq.refl _) rfl
theorem q4_184 : (Jvm.Cond.selects "CashLink$Machine" ({ cls := "CashLink$Machine", name := "tell", desc := "(I)I" } : Jvm.MethodName) ({ cls := "CashLink$Machine", name := "tell", desc := "(I)I" } : Jvm.MethodName)) ∈ x_Wd := x_i4 184 (Eq.refl _) rfl
theorem q4_185 : (Jvm.Cond.code ({ cls := "CashLink$Machine", name := "tell", desc := "(I)I" } : Jvm.MethodName) prog_6_method_21_code (2 : Nat) (Option.some Jvm.ClassFile.FieldType.int)) ∈ x_Wd := x_i4 185 (Eq.refl _) rfl
theorem q4_186 : (Jvm.Cond.methodLink "CashLink" (133 : Nat) ({ cls := "CashLink$Dispenser", name := "tell", desc := "(I)I" } : Jvm.MethodName)) ∈ x_Wd := x_i4 186 (Eq.refl _) rfl
theorem q4_187 : (Jvm.Cond.instanceMethod ({ cls := "CashLink$Dispenser", name := "tell", desc := "(I)I" } : Jvm.MethodName)) ∈ x_Wd := x_i4 187 (Eq.refl _) rfl
theorem q4_188 : (Jvm.Cond.selects "CashLink$Dispenser" ({ cls := "CashLink$Dispenser", name := "tell", desc := "(I)I" } : Jvm.MethodName) ({ cls := "CashLink$Dispenser", name := "tell", desc := "(I)I" } : Jvm.MethodName)) ∈ x_Wd := x_i4 188 (Eq.refl _) rfl
theorem q4_189 : (Jvm.Cond.code ({ cls := "CashLink$Dispenser", name := "tell", desc := "(I)I" } : Jvm.MethodName) prog_3_method_7_code (2 : Nat) (Option.some Jvm.ClassFile.FieldType.int)) ∈ x_Wd := x_i4 189 (Eq.refl _) rfl
theorem q4_190 : (Jvm.Cond.methodLink "CashLinkLaw" (129 : Nat) ({ cls := "CashLinkLaw", name := "balance", desc := "(LCashLink;I[J)I" } : Jvm.MethodName)) ∈ x_Wd := x_i4 190 (Eq.refl _) rfl
theorem q4_191 : (Jvm.Cond.static ({ cls := "CashLinkLaw", name := "balance", desc := "(LCashLink;I[J)I" } : Jvm.MethodName)) ∈ x_Wd := x_i4 191 (Eq.refl _) rfl
theorem q4_192 : (Jvm.Cond.codeWith ({ cls := "CashLinkLaw", name := "balance", desc := "(LCashLink;I[J)I" } : Jvm.MethodName) method_15_code (4 : Nat) (Option.some Jvm.ClassFile.FieldType.int) [((0 : Nat), (9 : Nat), (12 : Nat), (13 : Nat))]) ∈ x_Wd := x_i4 192 (Eq.refl _) rfl
theorem q4_193 : (Jvm.Cond.methodLink "CashLinkLaw" (62 : Nat) ({ cls := "CashLink", name := "balance", desc := "(I)I" } : Jvm.MethodName)) ∈ x_Wd := x_i4 193 (Eq.refl _) rfl
theorem q4_194 : (Jvm.Cond.instanceMethod ({ cls := "CashLink", name := "balance", desc := "(I)I" } : Jvm.MethodName)) ∈ x_Wd := x_i4 194 (Eq.refl _) rfl
theorem q4_195 : (Jvm.Cond.selects "CashLink" ({ cls := "CashLink", name := "balance", desc := "(I)I" } : Jvm.MethodName) ({ cls := "CashLink", name := "balance", desc := "(I)I" } : Jvm.MethodName)) ∈ x_Wd := x_i4 195 (Eq.refl _) rfl
theorem q4_196 : (Jvm.Cond.code ({ cls := "CashLink", name := "balance", desc := "(I)I" } : Jvm.MethodName) prog_1_method_14_code (2 : Nat) (Option.some Jvm.ClassFile.FieldType.int)) ∈ x_Wd := x_i4 196 (Eq.refl _) rfl
theorem q4_197 : (Jvm.Cond.methodLink "CashLink" (134 : Nat) ({ cls := "CashLink$Bank", name := "balanceOf", desc := "(I)I" } : Jvm.MethodName)) ∈ x_Wd := x_i4 197 (Eq.refl _) rfl
theorem q4_198 : (Jvm.Cond.methodLink "CashLinkLaw" (132 : Nat) ({ cls := "CashLinkLaw", name := "taken", desc := "(LCashLink;I[J)I" } : Jvm.MethodName)) ∈ x_Wd := x_i4 198 (Eq.refl _) rfl
theorem q4_199 : (Jvm.Cond.static ({ cls := "CashLinkLaw", name := "taken", desc := "(LCashLink;I[J)I" } : Jvm.MethodName)) ∈ x_Wd := x_i4 199 (Eq.refl _) rfl
theorem q4_200 : (Jvm.Cond.codeWith ({ cls := "CashLinkLaw", name := "taken", desc := "(LCashLink;I[J)I" } : Jvm.MethodName) method_16_code (4 : Nat) (Option.some Jvm.ClassFile.FieldType.int) [((0 : Nat), (9 : Nat), (12 : Nat), (13 : Nat))]) ∈ x_Wd := x_i4 200 (Eq.refl _) rfl
theorem q4_201 : (Jvm.Cond.methodLink "CashLinkLaw" (65 : Nat) ({ cls := "CashLink", name := "taken", desc := "(I)I" } : Jvm.MethodName)) ∈ x_Wd := x_i4 201 (Eq.refl _) rfl
theorem q4_202 : (Jvm.Cond.instanceMethod ({ cls := "CashLink", name := "taken", desc := "(I)I" } : Jvm.MethodName)) ∈ x_Wd := x_i4 202 (Eq.refl _) rfl
theorem q4_203 : (Jvm.Cond.selects "CashLink" ({ cls := "CashLink", name := "taken", desc := "(I)I" } : Jvm.MethodName) ({ cls := "CashLink", name := "taken", desc := "(I)I" } : Jvm.MethodName)) ∈ x_Wd := x_i4 203 (Eq.refl _) rfl
theorem q4_204 : (Jvm.Cond.code ({ cls := "CashLink", name := "taken", desc := "(I)I" } : Jvm.MethodName) prog_1_method_15_code (2 : Nat) (Option.some Jvm.ClassFile.FieldType.int)) ∈ x_Wd := x_i4 204 (Eq.refl _) rfl
theorem q4_205 : (Jvm.Cond.methodLink "CashLinkLaw" (135 : Nat) ({ cls := "CashLinkLaw", name := "byteAt", desc := "(LCashLink;II[J)I" } : Jvm.MethodName)) ∈ x_Wd := x_i4 205 (Eq.refl _) rfl
theorem q4_206 : (Jvm.Cond.static ({ cls := "CashLinkLaw", name := "byteAt", desc := "(LCashLink;II[J)I" } : Jvm.MethodName)) ∈ x_Wd := x_i4 206 (Eq.refl _) rfl
theorem q4_207 : (Jvm.Cond.codeWith ({ cls := "CashLinkLaw", name := "byteAt", desc := "(LCashLink;II[J)I" } : Jvm.MethodName) method_17_code (5 : Nat) (Option.some Jvm.ClassFile.FieldType.int) [((0 : Nat), (10 : Nat), (13 : Nat), (43 : Nat))]) ∈ x_Wd := x_i4 207 (Eq.refl _) rfl
theorem q4_208 : (Jvm.Cond.methodLink "CashLinkLaw" (68 : Nat) ({ cls := "CashLink", name := "byteAt", desc := "(II)I" } : Jvm.MethodName)) ∈ x_Wd := x_i4 208 (Eq.refl _) rfl
theorem q4_209 : (Jvm.Cond.instanceMethod ({ cls := "CashLink", name := "byteAt", desc := "(II)I" } : Jvm.MethodName)) ∈ x_Wd := x_i4 209 (Eq.refl _) rfl
theorem q4_210 : (Jvm.Cond.selects "CashLink" ({ cls := "CashLink", name := "byteAt", desc := "(II)I" } : Jvm.MethodName) ({ cls := "CashLink", name := "byteAt", desc := "(II)I" } : Jvm.MethodName)) ∈ x_Wd := x_i4 210 (Eq.refl _) rfl
theorem q4_211 : (Jvm.Cond.code ({ cls := "CashLink", name := "byteAt", desc := "(II)I" } : Jvm.MethodName) prog_1_method_16_code (5 : Nat) (Option.some Jvm.ClassFile.FieldType.int)) ∈ x_Wd := x_i4 211 (Eq.refl _) rfl
theorem q4_213 : (Jvm.Cond.methodLink "CashLink" (144 : Nat) ({ cls := "CashLink$Message", name := "bytes", desc := "()Ljava/lang/StringBuilder;" } : Jvm.MethodName)) ∈ x_Wd := x_i4 213 (Eq.refl _) rfl
theorem q4_214 : (Jvm.Cond.instanceMethod ({ cls := "CashLink$Message", name := "bytes", desc := "()Ljava/lang/StringBuilder;" } : Jvm.MethodName)) ∈ x_Wd := x_i4 214 (Eq.refl _) rfl
theorem q4_215 : (Jvm.Cond.selects "CashLink$Message" ({ cls := "CashLink$Message", name := "bytes", desc := "()Ljava/lang/StringBuilder;" } : Jvm.MethodName) ({ cls := "CashLink$Message", name := "bytes", desc := "()Ljava/lang/StringBuilder;" } : Jvm.MethodName)) ∈ x_Wd := x_i4 215 (Eq.refl _) rfl
theorem q4_216 : (Jvm.Cond.code ({ cls := "CashLink$Message", name := "bytes", desc := "()Ljava/lang/StringBuilder;" } : Jvm.MethodName) prog_7_method_2_code (2 : Nat) (Option.some (Jvm.ClassFile.FieldType.object "java/lang/StringBuilder"))) ∈ x_Wd := x_i4 216 (Eq.refl _) rfl
theorem q4_217 : (Jvm.Cond.classLink "CashLink$Message" (29 : Nat) "java/lang/StringBuilder") ∈ x_Wd := x_i4 217 (Eq.refl _) rfl
theorem q4_218 : (Jvm.Cond.instantiable "java/lang/StringBuilder" (4 : Nat)) ∈ x_Wd := x_i4 218 (Eq.refl _) rfl
theorem q4_219 : (Jvm.Cond.methodLink "CashLink$Message" (31 : Nat) ({ cls := "java/lang/StringBuilder", name := "<init>", desc := "()V" } : Jvm.MethodName)) ∈ x_Wd := x_i4 219 (Eq.refl _) rfl
theorem q4_220 : (Jvm.Cond.instanceMethod ({ cls := "java/lang/StringBuilder", name := "<init>", desc := "()V" } : Jvm.MethodName)) ∈ x_Wd := x_i4 220 (Eq.refl _) rfl
theorem q4_221 : (Jvm.Cond.code ({ cls := "java/lang/StringBuilder", name := "<init>", desc := "()V" } : Jvm.MethodName) prog_27_method_1_code (1 : Nat) (Option.none : Option Jvm.ClassFile.FieldType)) ∈ x_Wd := x_i4 221 (Eq.refl _) rfl
theorem q4_222 : (Jvm.Cond.methodLink "java/lang/StringBuilder" (1 : Nat) ({ cls := "java/lang/AbstractStringBuilder", name := "<init>", desc := "(I)V" } : Jvm.MethodName)) ∈ x_Wd := x_i4 222 (Eq.refl _) rfl
theorem q4_223 : (Jvm.Cond.instanceMethod ({ cls := "java/lang/AbstractStringBuilder", name := "<init>", desc := "(I)V" } : Jvm.MethodName)) ∈ x_Wd := x_i4 223 (Eq.refl _) rfl
theorem q4_224 : (Jvm.Cond.code ({ cls := "java/lang/AbstractStringBuilder", name := "<init>", desc := "(I)V" } : Jvm.MethodName) prog_14_method_2_code (2 : Nat) (Option.none : Option Jvm.ClassFile.FieldType)) ∈ x_Wd := x_i4 224 (Eq.refl _) rfl
theorem q4_225 : (Jvm.Cond.methodLink "java/lang/AbstractStringBuilder" (3 : Nat) ({ cls := "java/lang/Object", name := "<init>", desc := "()V" } : Jvm.MethodName)) ∈ x_Wd := x_i4 225 (Eq.refl _) rfl
theorem q4_226 : (Jvm.Cond.fieldLink "java/lang/AbstractStringBuilder" (18 : Nat) "java/lang/String" "COMPACT_STRINGS" "Z") ∈ x_Wd := x_i4 226 (Eq.refl _) rfl
theorem q4_235 : (Jvm.Cond.fieldLink "java/lang/AbstractStringBuilder" (15 : Nat) "java/lang/AbstractStringBuilder" "value" "[B") ∈ x_Wd := x_i4 235 (Eq.refl _) rfl
theorem q4_236 : (Jvm.Cond.fieldLink "java/lang/AbstractStringBuilder" (22 : Nat) "java/lang/AbstractStringBuilder" "coder" "B") ∈ x_Wd := x_i4 236 (Eq.refl _) rfl
theorem q4_237 : (Jvm.Cond.fieldLink "java/lang/AbstractStringBuilder" (73 : Nat) "java/lang/AbstractStringBuilder" "maybeLatin1" "Z") ∈ x_Wd := x_i4 237 (Eq.refl _) rfl
theorem q4_238 : (Jvm.Cond.fieldLink "java/lang/AbstractStringBuilder" (79 : Nat) "java/lang/AbstractStringBuilder" "count" "I") ∈ x_Wd := x_i4 238 (Eq.refl _) rfl
theorem q5_7 : (Jvm.Cond.superclass "java/lang/StringBuilder" "java/lang/AbstractStringBuilder") ∈ x_Wd := x_i5 7 (Eq.refl _) rfl
theorem q5_8 : (Jvm.Cond.methodLink "CashLink$Message" (38 : Nat) ({ cls := "java/lang/StringBuilder", name := "append", desc := "(Ljava/lang/String;)Ljava/lang/StringBuilder;" } : Jvm.MethodName)) ∈ x_Wd := x_i5 8 (Eq.refl _) rfl
theorem q5_9 : (Jvm.Cond.instanceMethod ({ cls := "java/lang/StringBuilder", name := "append", desc := "(Ljava/lang/String;)Ljava/lang/StringBuilder;" } : Jvm.MethodName)) ∈ x_Wd := x_i5 9 (Eq.refl _) rfl
theorem q5_10 : (Jvm.Cond.selects "java/lang/StringBuilder" ({ cls := "java/lang/StringBuilder", name := "append", desc := "(Ljava/lang/String;)Ljava/lang/StringBuilder;" } : Jvm.MethodName) ({ cls := "java/lang/StringBuilder", name := "append", desc := "(Ljava/lang/String;)Ljava/lang/StringBuilder;" } : Jvm.MethodName)) ∈ x_Wd := x_i5 10 (Eq.refl _) rfl
theorem q5_11 : (Jvm.Cond.code ({ cls := "java/lang/StringBuilder", name := "append", desc := "(Ljava/lang/String;)Ljava/lang/StringBuilder;" } : Jvm.MethodName) prog_27_method_7_code (2 : Nat) (Option.some (Jvm.ClassFile.FieldType.object "java/lang/StringBuilder"))) ∈ x_Wd := x_i5 11 (Eq.refl _) rfl
theorem q5_12 : (Jvm.Cond.methodLink "java/lang/StringBuilder" (29 : Nat) ({ cls := "java/lang/AbstractStringBuilder", name := "append", desc := "(Ljava/lang/String;)Ljava/lang/AbstractStringBuilder;" } : Jvm.MethodName)) ∈ x_Wd := x_i5 12 (Eq.refl _) rfl
theorem q5_13 : (Jvm.Cond.instanceMethod ({ cls := "java/lang/AbstractStringBuilder", name := "append", desc := "(Ljava/lang/String;)Ljava/lang/AbstractStringBuilder;" } : Jvm.MethodName)) ∈ x_Wd := x_i5 13 (Eq.refl _) rfl
theorem q5_14 : (Jvm.Cond.code ({ cls := "java/lang/AbstractStringBuilder", name := "append", desc := "(Ljava/lang/String;)Ljava/lang/AbstractStringBuilder;" } : Jvm.MethodName) prog_14_method_22_code (3 : Nat) (Option.some (Jvm.ClassFile.FieldType.object "java/lang/AbstractStringBuilder"))) ∈ x_Wd := x_i5 14 (Eq.refl _) rfl
theorem q5_19 : (Jvm.Cond.methodLink "java/lang/AbstractStringBuilder" (100 : Nat) ({ cls := "java/lang/AbstractStringBuilder", name := "ensureCapacityInternal", desc := "(I)V" } : Jvm.MethodName)) ∈ x_Wd := x_i5 19 (Eq.refl _) rfl
theorem q5_20 : (Jvm.Cond.privateMethod ({ cls := "java/lang/AbstractStringBuilder", name := "ensureCapacityInternal", desc := "(I)V" } : Jvm.MethodName)) ∈ x_Wd := x_i5 20 (Eq.refl _) rfl
theorem q5_21 : (Jvm.Cond.instanceMethod ({ cls := "java/lang/AbstractStringBuilder", name := "ensureCapacityInternal", desc := "(I)V" } : Jvm.MethodName)) ∈ x_Wd := x_i5 21 (Eq.refl _) rfl
theorem q5_22 : (Jvm.Cond.code ({ cls := "java/lang/AbstractStringBuilder", name := "ensureCapacityInternal", desc := "(I)V" } : Jvm.MethodName) prog_14_method_9_code (3 : Nat) (Option.none : Option Jvm.ClassFile.FieldType)) ∈ x_Wd := x_i5 22 (Eq.refl _) rfl
theorem q5_23 : (Jvm.Cond.methodLink "java/lang/AbstractStringBuilder" (104 : Nat) ({ cls := "java/lang/AbstractStringBuilder", name := "newCapacity", desc := "(I)I" } : Jvm.MethodName)) ∈ x_Wd := x_i5 23 (Eq.refl _) rfl
theorem q5_24 : (Jvm.Cond.privateMethod ({ cls := "java/lang/AbstractStringBuilder", name := "newCapacity", desc := "(I)I" } : Jvm.MethodName)) ∈ x_Wd := x_i5 24 (Eq.refl _) rfl
theorem q5_25 : (Jvm.Cond.instanceMethod ({ cls := "java/lang/AbstractStringBuilder", name := "newCapacity", desc := "(I)I" } : Jvm.MethodName)) ∈ x_Wd := x_i5 25 (Eq.refl _) rfl
theorem q5_26 : (Jvm.Cond.code ({ cls := "java/lang/AbstractStringBuilder", name := "newCapacity", desc := "(I)I" } : Jvm.MethodName) prog_14_method_10_code (6 : Nat) (Option.some Jvm.ClassFile.FieldType.int)) ∈ x_Wd := x_i5 26 (Eq.refl _) rfl
theorem q5_27 : (Jvm.Cond.methodLink "java/lang/AbstractStringBuilder" (114 : Nat) ({ cls := "jdk/internal/util/ArraysSupport", name := "newLength", desc := "(III)I" } : Jvm.MethodName)) ∈ x_Wd := x_i5 27 (Eq.refl _) rfl
theorem q5_28 : (Jvm.Cond.constant "java/lang/AbstractStringBuilder" (39 : Nat) (2147483647 : Int32)) ∈ x_Wd := x_i5 28 (Eq.refl _) rfl
theorem q5_29 : (Jvm.Cond.methodLink "java/lang/AbstractStringBuilder" (108 : Nat) ({ cls := "java/util/Arrays", name := "copyOf", desc := "([BI)[B" } : Jvm.MethodName)) ∈ x_Wd := x_i5 29 (Eq.refl _) rfl
theorem q5_30 : (Jvm.Cond.static ({ cls := "java/util/Arrays", name := "copyOf", desc := "([BI)[B" } : Jvm.MethodName)) ∈ x_Wd := x_i5 30 (Eq.refl _) rfl
theorem q5_31 : (Jvm.Cond.code ({ cls := "java/util/Arrays", name := "copyOf", desc := "([BI)[B" } : Jvm.MethodName) prog_36_method_121_code (3 : Nat) (Option.some (Jvm.ClassFile.FieldType.array Jvm.ClassFile.FieldType.byte))) ∈ x_Wd := x_i5 31 (Eq.refl _) rfl
theorem q5_39 : (Jvm.Cond.methodLink "java/lang/AbstractStringBuilder" (83 : Nat) ({ cls := "java/lang/AbstractStringBuilder", name := "isLatin1", desc := "()Z" } : Jvm.MethodName)) ∈ x_Wd := x_i5 39 (Eq.refl _) rfl
theorem q5_40 : (Jvm.Cond.instanceMethod ({ cls := "java/lang/AbstractStringBuilder", name := "isLatin1", desc := "()Z" } : Jvm.MethodName)) ∈ x_Wd := x_i5 40 (Eq.refl _) rfl
theorem q5_42 : (Jvm.Cond.selects "java/lang/StringBuilder" ({ cls := "java/lang/AbstractStringBuilder", name := "isLatin1", desc := "()Z" } : Jvm.MethodName) ({ cls := "java/lang/AbstractStringBuilder", name := "isLatin1", desc := "()Z" } : Jvm.MethodName)) ∈ x_Wd := x_i5 42 (Eq.refl _) rfl
theorem q5_43 : (Jvm.Cond.code ({ cls := "java/lang/AbstractStringBuilder", name := "isLatin1", desc := "()Z" } : Jvm.MethodName) prog_14_method_68_code (1 : Nat) (Option.some Jvm.ClassFile.FieldType.boolean)) ∈ x_Wd := x_i5 43 (Eq.refl _) rfl
theorem q5_56 : (Jvm.Cond.fieldLink "java/lang/String" (1053 : Nat) "jdk/internal/util/Preconditions" "SIOOBE_FORMATTER" "Ljava/util/function/BiFunction;") ∈ x_Wd := x_i5 56 (Eq.refl _) rfl
theorem q5_70 : (Jvm.Cond.methodLink "java/lang/AbstractStringBuilder" (32 : Nat) ({ cls := "java/lang/String", name := "length", desc := "()I" } : Jvm.MethodName)) ∈ x_Wd := x_i5 70 (Eq.refl _) rfl
theorem q5_71 : (Jvm.Cond.instanceMethod ({ cls := "java/lang/String", name := "length", desc := "()I" } : Jvm.MethodName)) ∈ x_Wd := x_i5 71 (Eq.refl _) rfl
theorem q5_72 : (Jvm.Cond.selects "java/lang/String" ({ cls := "java/lang/String", name := "length", desc := "()I" } : Jvm.MethodName) ({ cls := "java/lang/String", name := "length", desc := "()I" } : Jvm.MethodName)) ∈ x_Wd := x_i5 72 (Eq.refl _) rfl
theorem q5_73 : (Jvm.Cond.code ({ cls := "java/lang/String", name := "length", desc := "()I" } : Jvm.MethodName) prog_26_method_54_code (1 : Nat) (Option.some Jvm.ClassFile.FieldType.int)) ∈ x_Wd := x_i5 73 (Eq.refl _) rfl
theorem q5_74 : (Jvm.Cond.methodLink "java/lang/String" (335 : Nat) ({ cls := "java/lang/String", name := "coder", desc := "()B" } : Jvm.MethodName)) ∈ x_Wd := x_i5 74 (Eq.refl _) rfl
theorem q5_75 : (Jvm.Cond.instanceMethod ({ cls := "java/lang/String", name := "coder", desc := "()B" } : Jvm.MethodName)) ∈ x_Wd := x_i5 75 (Eq.refl _) rfl
theorem q5_76 : (Jvm.Cond.selects "java/lang/String" ({ cls := "java/lang/String", name := "coder", desc := "()B" } : Jvm.MethodName) ({ cls := "java/lang/String", name := "coder", desc := "()B" } : Jvm.MethodName)) ∈ x_Wd := x_i5 76 (Eq.refl _) rfl
theorem q5_77 : (Jvm.Cond.code ({ cls := "java/lang/String", name := "coder", desc := "()B" } : Jvm.MethodName) prog_26_method_152_code (1 : Nat) (Option.some Jvm.ClassFile.FieldType.byte)) ∈ x_Wd := x_i5 77 (Eq.refl _) rfl
theorem q5_78 : (Jvm.Cond.fieldLink "java/lang/String" (38 : Nat) "java/lang/String" "COMPACT_STRINGS" "Z") ∈ x_Wd := x_i5 78 (Eq.refl _) rfl
theorem q5_79 : (Jvm.Cond.methodLink "java/lang/AbstractStringBuilder" (208 : Nat) ({ cls := "java/lang/AbstractStringBuilder", name := "putStringAt", desc := "(ILjava/lang/String;)V" } : Jvm.MethodName)) ∈ x_Wd := x_i5 79 (Eq.refl _) rfl
theorem q5_80 : (Jvm.Cond.privateMethod ({ cls := "java/lang/AbstractStringBuilder", name := "putStringAt", desc := "(ILjava/lang/String;)V" } : Jvm.MethodName)) ∈ x_Wd := x_i5 80 (Eq.refl _) rfl
theorem q5_81 : (Jvm.Cond.instanceMethod ({ cls := "java/lang/AbstractStringBuilder", name := "putStringAt", desc := "(ILjava/lang/String;)V" } : Jvm.MethodName)) ∈ x_Wd := x_i5 81 (Eq.refl _) rfl
theorem q5_82 : (Jvm.Cond.code ({ cls := "java/lang/AbstractStringBuilder", name := "putStringAt", desc := "(ILjava/lang/String;)V" } : Jvm.MethodName) prog_14_method_73_code (3 : Nat) (Option.none : Option Jvm.ClassFile.FieldType)) ∈ x_Wd := x_i5 82 (Eq.refl _) rfl
theorem q5_83 : (Jvm.Cond.methodLink "java/lang/AbstractStringBuilder" (397 : Nat) ({ cls := "java/lang/AbstractStringBuilder", name := "inflateIfNeededFor", desc := "(Ljava/lang/String;)V" } : Jvm.MethodName)) ∈ x_Wd := x_i5 83 (Eq.refl _) rfl
theorem q5_84 : (Jvm.Cond.privateMethod ({ cls := "java/lang/AbstractStringBuilder", name := "inflateIfNeededFor", desc := "(Ljava/lang/String;)V" } : Jvm.MethodName)) ∈ x_Wd := x_i5 84 (Eq.refl _) rfl
theorem q5_85 : (Jvm.Cond.instanceMethod ({ cls := "java/lang/AbstractStringBuilder", name := "inflateIfNeededFor", desc := "(Ljava/lang/String;)V" } : Jvm.MethodName)) ∈ x_Wd := x_i5 85 (Eq.refl _) rfl
theorem q5_86 : (Jvm.Cond.code ({ cls := "java/lang/AbstractStringBuilder", name := "inflateIfNeededFor", desc := "(Ljava/lang/String;)V" } : Jvm.MethodName) prog_14_method_71_code (2 : Nat) (Option.none : Option Jvm.ClassFile.FieldType)) ∈ x_Wd := x_i5 86 (Eq.refl _) rfl
theorem q5_87 : (Jvm.Cond.methodLink "java/lang/AbstractStringBuilder" (40 : Nat) ({ cls := "java/lang/String", name := "coder", desc := "()B" } : Jvm.MethodName)) ∈ x_Wd := x_i5 87 (Eq.refl _) rfl
theorem q5_107 : (Jvm.Cond.methodLink "java/lang/AbstractStringBuilder" (399 : Nat) ({ cls := "java/lang/String", name := "getBytes", desc := "([BIB)V" } : Jvm.MethodName)) ∈ x_Wd := x_i5 107 (Eq.refl _) rfl
theorem q5_108 : (Jvm.Cond.instanceMethod ({ cls := "java/lang/String", name := "getBytes", desc := "([BIB)V" } : Jvm.MethodName)) ∈ x_Wd := x_i5 108 (Eq.refl _) rfl
theorem q5_109 : (Jvm.Cond.selects "java/lang/String" ({ cls := "java/lang/String", name := "getBytes", desc := "([BIB)V" } : Jvm.MethodName) ({ cls := "java/lang/String", name := "getBytes", desc := "([BIB)V" } : Jvm.MethodName)) ∈ x_Wd := x_i5 109 (Eq.refl _) rfl
theorem q5_110 : (Jvm.Cond.code ({ cls := "java/lang/String", name := "getBytes", desc := "([BIB)V" } : Jvm.MethodName) prog_26_method_147_code (4 : Nat) (Option.none : Option Jvm.ClassFile.FieldType)) ∈ x_Wd := x_i5 110 (Eq.refl _) rfl
theorem q5_111 : (Jvm.Cond.methodLink "java/lang/String" (212 : Nat) ({ cls := "java/lang/System", name := "arraycopy", desc := "(Ljava/lang/Object;ILjava/lang/Object;II)V" } : Jvm.MethodName)) ∈ x_Wd := x_i5 111 (Eq.refl _) rfl
theorem q5_113 : (Jvm.Cond.methodLink "CashLink$Message" (42 : Nat) ({ cls := "CashLink$Message", name := "appendBitmap", desc := "(Ljava/lang/StringBuilder;)V" } : Jvm.MethodName)) ∈ x_Wd := x_i5 113 (Eq.refl _) rfl
theorem q5_115 : (Jvm.Cond.instanceMethod ({ cls := "CashLink$Message", name := "appendBitmap", desc := "(Ljava/lang/StringBuilder;)V" } : Jvm.MethodName)) ∈ x_Wd := x_i5 115 (Eq.refl _) rfl
theorem q5_116 : (Jvm.Cond.code ({ cls := "CashLink$Message", name := "appendBitmap", desc := "(Ljava/lang/StringBuilder;)V" } : Jvm.MethodName) prog_7_method_3_code (7 : Nat) (Option.none : Option Jvm.ClassFile.FieldType)) ∈ x_Wd := x_i5 116 (Eq.refl _) rfl
theorem q5_117 : (Jvm.Cond.methodLink "CashLink$Message" (60 : Nat) ({ cls := "java/lang/StringBuilder", name := "append", desc := "(C)Ljava/lang/StringBuilder;" } : Jvm.MethodName)) ∈ x_Wd := x_i5 117 (Eq.refl _) rfl
theorem q5_118 : (Jvm.Cond.instanceMethod ({ cls := "java/lang/StringBuilder", name := "append", desc := "(C)Ljava/lang/StringBuilder;" } : Jvm.MethodName)) ∈ x_Wd := x_i5 118 (Eq.refl _) rfl
theorem q5_119 : (Jvm.Cond.selects "java/lang/StringBuilder" ({ cls := "java/lang/StringBuilder", name := "append", desc := "(C)Ljava/lang/StringBuilder;" } : Jvm.MethodName) ({ cls := "java/lang/StringBuilder", name := "append", desc := "(C)Ljava/lang/StringBuilder;" } : Jvm.MethodName)) ∈ x_Wd := x_i5 119 (Eq.refl _) rfl
theorem q5_120 : (Jvm.Cond.code ({ cls := "java/lang/StringBuilder", name := "append", desc := "(C)Ljava/lang/StringBuilder;" } : Jvm.MethodName) prog_27_method_14_code (2 : Nat) (Option.some (Jvm.ClassFile.FieldType.object "java/lang/StringBuilder"))) ∈ x_Wd := x_i5 120 (Eq.refl _) rfl
theorem q5_121 : (Jvm.Cond.methodLink "java/lang/StringBuilder" (50 : Nat) ({ cls := "java/lang/AbstractStringBuilder", name := "append", desc := "(C)Ljava/lang/AbstractStringBuilder;" } : Jvm.MethodName)) ∈ x_Wd := x_i5 121 (Eq.refl _) rfl
theorem q5_122 : (Jvm.Cond.instanceMethod ({ cls := "java/lang/AbstractStringBuilder", name := "append", desc := "(C)Ljava/lang/AbstractStringBuilder;" } : Jvm.MethodName)) ∈ x_Wd := x_i5 122 (Eq.refl _) rfl
theorem q5_123 : (Jvm.Cond.code ({ cls := "java/lang/AbstractStringBuilder", name := "append", desc := "(C)Ljava/lang/AbstractStringBuilder;" } : Jvm.MethodName) prog_14_method_31_code (2 : Nat) (Option.some (Jvm.ClassFile.FieldType.object "java/lang/AbstractStringBuilder"))) ∈ x_Wd := x_i5 123 (Eq.refl _) rfl
theorem q5_124 : (Jvm.Cond.methodLink "java/lang/AbstractStringBuilder" (191 : Nat) ({ cls := "java/lang/StringLatin1", name := "canEncode", desc := "(C)Z" } : Jvm.MethodName)) ∈ x_Wd := x_i5 124 (Eq.refl _) rfl
theorem q5_125 : (Jvm.Cond.static ({ cls := "java/lang/StringLatin1", name := "canEncode", desc := "(C)Z" } : Jvm.MethodName)) ∈ x_Wd := x_i5 125 (Eq.refl _) rfl
theorem q5_126 : (Jvm.Cond.code ({ cls := "java/lang/StringLatin1", name := "canEncode", desc := "(C)Z" } : Jvm.MethodName) prog_28_method_3_code (1 : Nat) (Option.some Jvm.ClassFile.FieldType.boolean)) ∈ x_Wd := x_i5 126 (Eq.refl _) rfl
theorem q5_134 : (Jvm.Cond.static ({ cls := "java/lang/String", name := "checkIndex", desc := "(II)V" } : Jvm.MethodName)) ∈ x_Wd := x_i5 134 (Eq.refl _) rfl
theorem q5_135 : (Jvm.Cond.code ({ cls := "java/lang/String", name := "checkIndex", desc := "(II)V" } : Jvm.MethodName) prog_26_method_155_code (2 : Nat) (Option.none : Option Jvm.ClassFile.FieldType)) ∈ x_Wd := x_i5 135 (Eq.refl _) rfl
theorem q5_136 : (Jvm.Cond.methodLink "java/lang/String" (1059 : Nat) ({ cls := "jdk/internal/util/Preconditions", name := "checkIndex", desc := "(IILjava/util/function/BiFunction;)I" } : Jvm.MethodName)) ∈ x_Wd := x_i5 136 (Eq.refl _) rfl
theorem q5_137 : (Jvm.Cond.methodLink "CashLink$Message" (50 : Nat) ({ cls := "CashLink$Message", name := "appendDigits", desc := "(Ljava/lang/StringBuilder;II)V" } : Jvm.MethodName)) ∈ x_Wd := x_i5 137 (Eq.refl _) rfl
theorem q5_138 : (Jvm.Cond.static ({ cls := "CashLink$Message", name := "appendDigits", desc := "(Ljava/lang/StringBuilder;II)V" } : Jvm.MethodName)) ∈ x_Wd := x_i5 138 (Eq.refl _) rfl
theorem q5_139 : (Jvm.Cond.code ({ cls := "CashLink$Message", name := "appendDigits", desc := "(Ljava/lang/StringBuilder;II)V" } : Jvm.MethodName) prog_7_method_4_code (6 : Nat) (Option.none : Option Jvm.ClassFile.FieldType)) ∈ x_Wd := x_i5 139 (Eq.refl _) rfl
theorem q5_140 : (Jvm.Cond.methodLink "CashLink$Message" (63 : Nat) ({ cls := "java/lang/StringBuilder", name := "length", desc := "()I" } : Jvm.MethodName)) ∈ x_Wd := x_i5 140 (Eq.refl _) rfl
theorem q5_141 : (Jvm.Cond.instanceMethod ({ cls := "java/lang/StringBuilder", name := "length", desc := "()I" } : Jvm.MethodName)) ∈ x_Wd := x_i5 141 (Eq.refl _) rfl
theorem q5_142 : (Jvm.Cond.selects "java/lang/StringBuilder" ({ cls := "java/lang/StringBuilder", name := "length", desc := "()I" } : Jvm.MethodName) ({ cls := "java/lang/StringBuilder", name := "length", desc := "()I" } : Jvm.MethodName)) ∈ x_Wd := x_i5 142 (Eq.refl _) rfl
theorem q5_143 : (Jvm.Cond.code ({ cls := "java/lang/StringBuilder", name := "length", desc := "()I" } : Jvm.MethodName) prog_27_method_93_code (1 : Nat) (Option.some Jvm.ClassFile.FieldType.int)) ∈ x_Wd := x_i5 143 (Eq.refl _) rfl
theorem q5_144 : (Jvm.Cond.methodLink "java/lang/StringBuilder" (343 : Nat) ({ cls := "java/lang/AbstractStringBuilder", name := "length", desc := "()I" } : Jvm.MethodName)) ∈ x_Wd := x_i5 144 (Eq.refl _) rfl
theorem q5_145 : (Jvm.Cond.instanceMethod ({ cls := "java/lang/AbstractStringBuilder", name := "length", desc := "()I" } : Jvm.MethodName)) ∈ x_Wd := x_i5 145 (Eq.refl _) rfl
theorem q5_146 : (Jvm.Cond.code ({ cls := "java/lang/AbstractStringBuilder", name := "length", desc := "()I" } : Jvm.MethodName) prog_14_method_6_code (1 : Nat) (Option.some Jvm.ClassFile.FieldType.int)) ∈ x_Wd := x_i5 146 (Eq.refl _) rfl
theorem q5_147 : (Jvm.Cond.methodLink "CashLink$Message" (67 : Nat) ({ cls := "java/lang/StringBuilder", name := "setCharAt", desc := "(IC)V" } : Jvm.MethodName)) ∈ x_Wd := x_i5 147 (Eq.refl _) rfl
theorem q5_148 : (Jvm.Cond.instanceMethod ({ cls := "java/lang/StringBuilder", name := "setCharAt", desc := "(IC)V" } : Jvm.MethodName)) ∈ x_Wd := x_i5 148 (Eq.refl _) rfl
theorem q5_149 : (Jvm.Cond.selects "java/lang/StringBuilder" ({ cls := "java/lang/StringBuilder", name := "setCharAt", desc := "(IC)V" } : Jvm.MethodName) ({ cls := "java/lang/StringBuilder", name := "setCharAt", desc := "(IC)V" } : Jvm.MethodName)) ∈ x_Wd := x_i5 149 (Eq.refl _) rfl
theorem q5_150 : (Jvm.Cond.code ({ cls := "java/lang/StringBuilder", name := "setCharAt", desc := "(IC)V" } : Jvm.MethodName) prog_27_method_82_code (3 : Nat) (Option.none : Option Jvm.ClassFile.FieldType)) ∈ x_Wd := x_i5 150 (Eq.refl _) rfl
theorem q5_151 : (Jvm.Cond.methodLink "java/lang/StringBuilder" (308 : Nat) ({ cls := "java/lang/AbstractStringBuilder", name := "setCharAt", desc := "(IC)V" } : Jvm.MethodName)) ∈ x_Wd := x_i5 151 (Eq.refl _) rfl
theorem q5_152 : (Jvm.Cond.instanceMethod ({ cls := "java/lang/AbstractStringBuilder", name := "setCharAt", desc := "(IC)V" } : Jvm.MethodName)) ∈ x_Wd := x_i5 152 (Eq.refl _) rfl
theorem q5_153 : (Jvm.Cond.code ({ cls := "java/lang/AbstractStringBuilder", name := "setCharAt", desc := "(IC)V" } : Jvm.MethodName) prog_14_method_20_code (3 : Nat) (Option.none : Option Jvm.ClassFile.FieldType)) ∈ x_Wd := x_i5 153 (Eq.refl _) rfl
theorem q5_154 : (Jvm.Cond.methodLink "java/lang/AbstractStringBuilder" (144 : Nat) ({ cls := "java/lang/String", name := "checkIndex", desc := "(II)V" } : Jvm.MethodName)) ∈ x_Wd := x_i5 154 (Eq.refl _) rfl
theorem q5_155 : (Jvm.Cond.methodLink "CashLink" (148 : Nat) ({ cls := "java/lang/StringBuilder", name := "length", desc := "()I" } : Jvm.MethodName)) ∈ x_Wd := x_i5 155 (Eq.refl _) rfl
theorem q5_156 : (Jvm.Cond.methodLink "CashLink" (153 : Nat) ({ cls := "java/lang/StringBuilder", name := "charAt", desc := "(I)C" } : Jvm.MethodName)) ∈ x_Wd := x_i5 156 (Eq.refl _) rfl
theorem q5_157 : (Jvm.Cond.instanceMethod ({ cls := "java/lang/StringBuilder", name := "charAt", desc := "(I)C" } : Jvm.MethodName)) ∈ x_Wd := x_i5 157 (Eq.refl _) rfl
theorem q5_158 : (Jvm.Cond.selects "java/lang/StringBuilder" ({ cls := "java/lang/StringBuilder", name := "charAt", desc := "(I)C" } : Jvm.MethodName) ({ cls := "java/lang/StringBuilder", name := "charAt", desc := "(I)C" } : Jvm.MethodName)) ∈ x_Wd := x_i5 158 (Eq.refl _) rfl
theorem q5_159 : (Jvm.Cond.code ({ cls := "java/lang/StringBuilder", name := "charAt", desc := "(I)C" } : Jvm.MethodName) prog_27_method_88_code (2 : Nat) (Option.some Jvm.ClassFile.FieldType.char)) ∈ x_Wd := x_i5 159 (Eq.refl _) rfl
theorem q5_160 : (Jvm.Cond.methodLink "java/lang/StringBuilder" (329 : Nat) ({ cls := "java/lang/AbstractStringBuilder", name := "charAt", desc := "(I)C" } : Jvm.MethodName)) ∈ x_Wd := x_i5 160 (Eq.refl _) rfl
theorem q5_161 : (Jvm.Cond.instanceMethod ({ cls := "java/lang/AbstractStringBuilder", name := "charAt", desc := "(I)C" } : Jvm.MethodName)) ∈ x_Wd := x_i5 161 (Eq.refl _) rfl
theorem q5_162 : (Jvm.Cond.code ({ cls := "java/lang/AbstractStringBuilder", name := "charAt", desc := "(I)C" } : Jvm.MethodName) prog_14_method_14_code (5 : Nat) (Option.some Jvm.ClassFile.FieldType.char)) ∈ x_Wd := x_i5 162 (Eq.refl _) rfl
theorem q5_163 : (Jvm.Cond.methodLink "java/lang/AbstractStringBuilder" (138 : Nat) ({ cls := "java/lang/Math", name := "min", desc := "(II)I" } : Jvm.MethodName)) ∈ x_Wd := x_i5 163 (Eq.refl _) rfl
theorem q5_167 : (Jvm.Cond.methodLink "CashLinkLaw" (138 : Nat) ({ cls := "CashLinkLaw", name := "mix", desc := "(LCashLink;III[J)I" } : Jvm.MethodName)) ∈ x_Wd := x_i5 167 (Eq.refl _) rfl
theorem q5_168 : (Jvm.Cond.static ({ cls := "CashLinkLaw", name := "mix", desc := "(LCashLink;III[J)I" } : Jvm.MethodName)) ∈ x_Wd := x_i5 168 (Eq.refl _) rfl
theorem q5_169 : (Jvm.Cond.codeWith ({ cls := "CashLinkLaw", name := "mix", desc := "(LCashLink;III[J)I" } : Jvm.MethodName) method_18_code (6 : Nat) (Option.some Jvm.ClassFile.FieldType.int) [((0 : Nat), (12 : Nat), (15 : Nat), (13 : Nat))]) ∈ x_Wd := x_i5 169 (Eq.refl _) rfl
theorem q5_170 : (Jvm.Cond.methodLink "CashLinkLaw" (71 : Nat) ({ cls := "CashLink", name := "mix", desc := "(III)I" } : Jvm.MethodName)) ∈ x_Wd := x_i5 170 (Eq.refl _) rfl
theorem q5_171 : (Jvm.Cond.instanceMethod ({ cls := "CashLink", name := "mix", desc := "(III)I" } : Jvm.MethodName)) ∈ x_Wd := x_i5 171 (Eq.refl _) rfl
theorem q5_172 : (Jvm.Cond.selects "CashLink" ({ cls := "CashLink", name := "mix", desc := "(III)I" } : Jvm.MethodName) ({ cls := "CashLink", name := "mix", desc := "(III)I" } : Jvm.MethodName)) ∈ x_Wd := x_i5 172 (Eq.refl _) rfl
theorem q5_173 : (Jvm.Cond.code ({ cls := "CashLink", name := "mix", desc := "(III)I" } : Jvm.MethodName) prog_1_method_17_code (6 : Nat) (Option.some Jvm.ClassFile.FieldType.int)) ∈ x_Wd := x_i5 173 (Eq.refl _) rfl
theorem q5_174 : (Jvm.Cond.methodLink "CashLink" (157 : Nat) ({ cls := "CashLink$Dispenser", name := "mixOf", desc := "(I)I" } : Jvm.MethodName)) ∈ x_Wd := x_i5 174 (Eq.refl _) rfl
theorem q5_175 : (Jvm.Cond.methodLink "CashLink" (160 : Nat) ({ cls := "CashLink$Dispenser", name := "notesIn", desc := "(II)I" } : Jvm.MethodName)) ∈ x_Wd := x_i5 175 (Eq.refl _) rfl
theorem q5_176 : (Jvm.Cond.methodLink "CashLinkLaw" (141 : Nat) ({ cls := "CashLinkLaw", name := "count", desc := "(LCashLink;I[J)I" } : Jvm.MethodName)) ∈ x_Wd := x_i5 176 (Eq.refl _) rfl
theorem q5_177 : (Jvm.Cond.static ({ cls := "CashLinkLaw", name := "count", desc := "(LCashLink;I[J)I" } : Jvm.MethodName)) ∈ x_Wd := x_i5 177 (Eq.refl _) rfl
theorem q5_178 : (Jvm.Cond.codeWith ({ cls := "CashLinkLaw", name := "count", desc := "(LCashLink;I[J)I" } : Jvm.MethodName) method_19_code (4 : Nat) (Option.some Jvm.ClassFile.FieldType.int) [((0 : Nat), (9 : Nat), (12 : Nat), (13 : Nat))]) ∈ x_Wd := x_i5 178 (Eq.refl _) rfl
theorem q5_179 : (Jvm.Cond.methodLink "CashLinkLaw" (74 : Nat) ({ cls := "CashLink", name := "count", desc := "(I)I" } : Jvm.MethodName)) ∈ x_Wd := x_i5 179 (Eq.refl _) rfl
theorem q5_180 : (Jvm.Cond.instanceMethod ({ cls := "CashLink", name := "count", desc := "(I)I" } : Jvm.MethodName)) ∈ x_Wd := x_i5 180 (Eq.refl _) rfl
theorem q5_181 : (Jvm.Cond.selects "CashLink" ({ cls := "CashLink", name := "count", desc := "(I)I" } : Jvm.MethodName) ({ cls := "CashLink", name := "count", desc := "(I)I" } : Jvm.MethodName)) ∈ x_Wd := x_i5 181 (Eq.refl _) rfl
theorem q5_182 : (Jvm.Cond.code ({ cls := "CashLink", name := "count", desc := "(I)I" } : Jvm.MethodName) prog_1_method_18_code (2 : Nat) (Option.some Jvm.ClassFile.FieldType.int)) ∈ x_Wd := x_i5 182 (Eq.refl _) rfl
theorem q5_183 : (Jvm.Cond.methodLink "CashLink" (163 : Nat) ({ cls := "CashLink$Journal", name := "isOn", desc := "()Z" } : Jvm.MethodName)) ∈ x_Wd := x_i5 183 (Eq.refl _) rfl
theorem q5_184 : (Jvm.Cond.methodLink "CashLink" (167 : Nat) ({ cls := "CashLink$Journal", name := "size", desc := "()I" } : Jvm.MethodName)) ∈ x_Wd := x_i5 184 (Eq.refl _) rfl
theorem q5_185 : (Jvm.Cond.methodLink "CashLink" (168 : Nat) ({ cls := "CashLink", name := "allBalances", desc := "()I" } : Jvm.MethodName)) ∈ x_Wd := x_i5 185 (Eq.refl _) rfl
theorem q5_187 : (Jvm.Cond.instanceMethod ({ cls := "CashLink", name := "allBalances", desc := "()I" } : Jvm.MethodName)) ∈ x_Wd := x_i5 187 (Eq.refl _) rfl
theorem q5_188 : (Jvm.Cond.code ({ cls := "CashLink", name := "allBalances", desc := "()I" } : Jvm.MethodName) prog_1_method_21_code (3 : Nat) (Option.some Jvm.ClassFile.FieldType.int)) ∈ x_Wd := x_i5 188 (Eq.refl _) rfl
theorem q5_189 : (Jvm.Cond.methodLink "CashLink" (171 : Nat) ({ cls := "CashLink", name := "accountsOff", desc := "(Z)I" } : Jvm.MethodName)) ∈ x_Wd := x_i5 189 (Eq.refl _) rfl
theorem q5_191 : (Jvm.Cond.instanceMethod ({ cls := "CashLink", name := "accountsOff", desc := "(Z)I" } : Jvm.MethodName)) ∈ x_Wd := x_i5 191 (Eq.refl _) rfl
theorem q5_192 : (Jvm.Cond.code ({ cls := "CashLink", name := "accountsOff", desc := "(Z)I" } : Jvm.MethodName) prog_1_method_22_code (5 : Nat) (Option.some Jvm.ClassFile.FieldType.int)) ∈ x_Wd := x_i5 192 (Eq.refl _) rfl
theorem q5_193 : (Jvm.Cond.methodLink "CashLink" (175 : Nat) ({ cls := "CashLink", name := "isQuiet", desc := "()Z" } : Jvm.MethodName)) ∈ x_Wd := x_i5 193 (Eq.refl _) rfl
theorem q5_195 : (Jvm.Cond.instanceMethod ({ cls := "CashLink", name := "isQuiet", desc := "()Z" } : Jvm.MethodName)) ∈ x_Wd := x_i5 195 (Eq.refl _) rfl
theorem q5_196 : (Jvm.Cond.code ({ cls := "CashLink", name := "isQuiet", desc := "()Z" } : Jvm.MethodName) prog_1_method_23_code (2 : Nat) (Option.some Jvm.ClassFile.FieldType.boolean)) ∈ x_Wd := x_i5 196 (Eq.refl _) rfl
theorem q5_197 : (Jvm.Cond.methodLink "CashLink" (191 : Nat) ({ cls := "CashLink$Machine", name := "isQuiet", desc := "()Z" } : Jvm.MethodName)) ∈ x_Wd := x_i5 197 (Eq.refl _) rfl
theorem q5_199 : (Jvm.Cond.classLink "CashLinkLaw" (78 : Nat) "CashLinkModel") ∈ x_Wd := x_i5 199 (Eq.refl _) rfl
theorem q5_200 : (Jvm.Cond.instantiable "CashLinkModel" (31 : Nat)) ∈ x_Wd := x_i5 200 (Eq.refl _) rfl
theorem q5_201 : (Jvm.Cond.methodLink "CashLinkLaw" (80 : Nat) ({ cls := "CashLinkModel", name := "<init>", desc := "()V" } : Jvm.MethodName)) ∈ x_Wd := x_i5 201 (Eq.refl _) rfl
theorem q5_202 : (Jvm.Cond.instanceMethod ({ cls := "CashLinkModel", name := "<init>", desc := "()V" } : Jvm.MethodName)) ∈ x_Wd := x_i5 202 (Eq.refl _) rfl
theorem q5_203 : (Jvm.Cond.code ({ cls := "CashLinkModel", name := "<init>", desc := "()V" } : Jvm.MethodName) prog_12_method_1_code (2 : Nat) (Option.none : Option Jvm.ClassFile.FieldType)) ∈ x_Wd := x_i5 203 (Eq.refl _) rfl
theorem q5_204 : (Jvm.Cond.methodLink "CashLinkModel" (1 : Nat) ({ cls := "java/lang/Object", name := "<init>", desc := "()V" } : Jvm.MethodName)) ∈ x_Wd := x_i5 204 (Eq.refl _) rfl
theorem q5_205 : (Jvm.Cond.fieldLink "CashLinkModel" (7 : Nat) "CashLinkModel" "rKind" "[I") ∈ x_Wd := x_i5 205 (Eq.refl _) rfl
theorem q5_206 : (Jvm.Cond.fieldLink "CashLinkModel" (13 : Nat) "CashLinkModel" "rMachine" "[I") ∈ x_Wd := x_i5 206 (Eq.refl _) rfl
theorem q5_207 : (Jvm.Cond.fieldLink "CashLinkModel" (16 : Nat) "CashLinkModel" "rTrace" "[I") ∈ x_Wd := x_i5 207 (Eq.refl _) rfl
theorem q5_208 : (Jvm.Cond.fieldLink "CashLinkModel" (19 : Nat) "CashLinkModel" "rA" "[I") ∈ x_Wd := x_i5 208 (Eq.refl _) rfl
theorem q5_209 : (Jvm.Cond.fieldLink "CashLinkModel" (22 : Nat) "CashLinkModel" "rB" "[I") ∈ x_Wd := x_i5 209 (Eq.refl _) rfl
theorem q5_210 : (Jvm.Cond.fieldLink "CashLinkModel" (25 : Nat) "CashLinkModel" "rC" "[I") ∈ x_Wd := x_i5 210 (Eq.refl _) rfl
theorem q5_211 : (Jvm.Cond.fieldLink "CashLinkModel" (28 : Nat) "CashLinkModel" "records" "[I") ∈ x_Wd := x_i5 211 (Eq.refl _) rfl
theorem q5_212 : (Jvm.Cond.fieldLink "CashLinkModel" (31 : Nat) "CashLinkModel" "left" "[I") ∈ x_Wd := x_i5 212 (Eq.refl _) rfl
theorem q5_213 : (Jvm.Cond.fieldLink "CashLinkModel" (34 : Nat) "CashLinkModel" "bytes" "[I") ∈ x_Wd := x_i5 213 (Eq.refl _) rfl
theorem q5_214 : (Jvm.Cond.fieldLink "CashLinkModel" (37 : Nat) "CashLinkModel" "isBankOn" "Z") ∈ x_Wd := x_i5 214 (Eq.refl _) rfl
theorem q5_215 : (Jvm.Cond.fieldLink "CashLinkModel" (41 : Nat) "CashLinkModel" "state" "[I") ∈ x_Wd := x_i5 215 (Eq.refl _) rfl
theorem q5_216 : (Jvm.Cond.fieldLink "CashLinkModel" (44 : Nat) "CashLinkModel" "card" "[I") ∈ x_Wd := x_i5 216 (Eq.refl _) rfl
theorem q5_217 : (Jvm.Cond.fieldLink "CashLinkModel" (47 : Nat) "CashLinkModel" "wrong" "[I") ∈ x_Wd := x_i5 217 (Eq.refl _) rfl
theorem q5_218 : (Jvm.Cond.fieldLink "CashLinkModel" (50 : Nat) "CashLinkModel" "notes" "[I") ∈ x_Wd := x_i5 218 (Eq.refl _) rfl
theorem q5_219 : (Jvm.Cond.fieldLink "CashLinkModel" (53 : Nat) "CashLinkModel" "lastDone" "[I") ∈ x_Wd := x_i5 219 (Eq.refl _) rfl
theorem q5_220 : (Jvm.Cond.fieldLink "CashLinkModel" (56 : Nat) "CashLinkModel" "lastValue" "[I") ∈ x_Wd := x_i5 220 (Eq.refl _) rfl
theorem q5_221 : (Jvm.Cond.fieldLink "CashLinkModel" (59 : Nat) "CashLinkModel" "allOut" "[I") ∈ x_Wd := x_i5 221 (Eq.refl _) rfl
theorem q5_222 : (Jvm.Cond.fieldLink "CashLinkModel" (62 : Nat) "CashLinkModel" "jam" "[I") ∈ x_Wd := x_i5 222 (Eq.refl _) rfl
theorem q5_223 : (Jvm.Cond.fieldLink "CashLinkModel" (65 : Nat) "CashLinkModel" "taken" "[I") ∈ x_Wd := x_i5 223 (Eq.refl _) rfl
theorem q5_224 : (Jvm.Cond.fieldLink "CashLinkModel" (68 : Nat) "CashLinkModel" "mType" "[I") ∈ x_Wd := x_i5 224 (Eq.refl _) rfl
theorem q5_225 : (Jvm.Cond.fieldLink "CashLinkModel" (71 : Nat) "CashLinkModel" "mAccount" "[I") ∈ x_Wd := x_i5 225 (Eq.refl _) rfl
theorem q5_226 : (Jvm.Cond.fieldLink "CashLinkModel" (74 : Nat) "CashLinkModel" "mAmount" "[I") ∈ x_Wd := x_i5 226 (Eq.refl _) rfl
theorem q5_227 : (Jvm.Cond.fieldLink "CashLinkModel" (77 : Nat) "CashLinkModel" "mTrace" "[I") ∈ x_Wd := x_i5 227 (Eq.refl _) rfl
theorem q5_228 : (Jvm.Cond.fieldLink "CashLinkModel" (80 : Nat) "CashLinkModel" "mAnswer" "[I") ∈ x_Wd := x_i5 228 (Eq.refl _) rfl
theorem q5_229 : (Jvm.Cond.fieldLink "CashLinkModel" (83 : Nat) "CashLinkModel" "mMachine" "[I") ∈ x_Wd := x_i5 229 (Eq.refl _) rfl
theorem q5_230 : (Jvm.Cond.fieldLink "CashLinkModel" (119 : Nat) "CashLinkModel" "messages" "I") ∈ x_Wd := x_i5 230 (Eq.refl _) rfl
theorem q5_231 : (Jvm.Cond.fieldLink "CashLinkModel" (96 : Nat) "CashLinkModel" "thrown" "I") ∈ x_Wd := x_i5 231 (Eq.refl _) rfl
theorem q5_232 : (Jvm.Cond.fieldLink "CashLinkModel" (86 : Nat) "CashLinkModel" "best" "[I") ∈ x_Wd := x_i5 232 (Eq.refl _) rfl
theorem q5_233 : (Jvm.Cond.fieldLink "CashLinkModel" (89 : Nat) "CashLinkModel" "old" "[I") ∈ x_Wd := x_i5 233 (Eq.refl _) rfl
theorem q5_234 : (Jvm.Cond.fieldLink "CashLinkModel" (92 : Nat) "CashLinkModel" "row" "[B") ∈ x_Wd := x_i5 234 (Eq.refl _) rfl
theorem q5_235 : (Jvm.Cond.fieldLink "CashLinkModel" (122 : Nat) "CashLinkModel" "size" "I") ∈ x_Wd := x_i5 235 (Eq.refl _) rfl
theorem q6_59 : (Jvm.Cond.methodLink "CashLinkLaw" (87 : Nat) ({ cls := "CashLinkModel", name := "thrown", desc := "()I" } : Jvm.MethodName)) ∈ x_Wd := x_i6 59 (Eq.refl _) rfl
theorem q6_60 : (Jvm.Cond.instanceMethod ({ cls := "CashLinkModel", name := "thrown", desc := "()I" } : Jvm.MethodName)) ∈ x_Wd := x_i6 60 (Eq.refl _) rfl
theorem q6_61 : (Jvm.Cond.selects "CashLinkModel" ({ cls := "CashLinkModel", name := "thrown", desc := "()I" } : Jvm.MethodName) ({ cls := "CashLinkModel", name := "thrown", desc := "()I" } : Jvm.MethodName)) ∈ x_Wd := x_i6 61 (Eq.refl _) rfl
theorem q6_62 : (Jvm.Cond.code ({ cls := "CashLinkModel", name := "thrown", desc := "()I" } : Jvm.MethodName) prog_12_method_2_code (1 : Nat) (Option.some Jvm.ClassFile.FieldType.int)) ∈ x_Wd := x_i6 62 (Eq.refl _) rfl
theorem q6_63 : (Jvm.Cond.methodLink "CashLinkLaw" (86 : Nat) ({ cls := "CashLinkModel", name := "card", desc := "(II)V" } : Jvm.MethodName)) ∈ x_Wd := x_i6 63 (Eq.refl _) rfl
theorem q6_64 : (Jvm.Cond.instanceMethod ({ cls := "CashLinkModel", name := "card", desc := "(II)V" } : Jvm.MethodName)) ∈ x_Wd := x_i6 64 (Eq.refl _) rfl
theorem q6_65 : (Jvm.Cond.selects "CashLinkModel" ({ cls := "CashLinkModel", name := "card", desc := "(II)V" } : Jvm.MethodName) ({ cls := "CashLinkModel", name := "card", desc := "(II)V" } : Jvm.MethodName)) ∈ x_Wd := x_i6 65 (Eq.refl _) rfl
theorem q6_66 : (Jvm.Cond.code ({ cls := "CashLinkModel", name := "card", desc := "(II)V" } : Jvm.MethodName) prog_12_method_25_code (3 : Nat) (Option.none : Option Jvm.ClassFile.FieldType)) ∈ x_Wd := x_i6 66 (Eq.refl _) rfl
theorem q6_67 : (Jvm.Cond.methodLink "CashLinkModel" (175 : Nat) ({ cls := "CashLinkModel", name := "in", desc := "(III)Z" } : Jvm.MethodName)) ∈ x_Wd := x_i6 67 (Eq.refl _) rfl
theorem q6_68 : (Jvm.Cond.static ({ cls := "CashLinkModel", name := "in", desc := "(III)Z" } : Jvm.MethodName)) ∈ x_Wd := x_i6 68 (Eq.refl _) rfl
theorem q6_69 : (Jvm.Cond.code ({ cls := "CashLinkModel", name := "in", desc := "(III)Z" } : Jvm.MethodName) prog_12_method_3_code (3 : Nat) (Option.some Jvm.ClassFile.FieldType.boolean)) ∈ x_Wd := x_i6 69 (Eq.refl _) rfl
theorem q6_70 : (Jvm.Cond.methodLink "CashLinkLaw" (94 : Nat) ({ cls := "CashLinkModel", name := "pin", desc := "(II)Z" } : Jvm.MethodName)) ∈ x_Wd := x_i6 70 (Eq.refl _) rfl
theorem q6_71 : (Jvm.Cond.instanceMethod ({ cls := "CashLinkModel", name := "pin", desc := "(II)Z" } : Jvm.MethodName)) ∈ x_Wd := x_i6 71 (Eq.refl _) rfl
theorem q6_72 : (Jvm.Cond.selects "CashLinkModel" ({ cls := "CashLinkModel", name := "pin", desc := "(II)Z" } : Jvm.MethodName) ({ cls := "CashLinkModel", name := "pin", desc := "(II)Z" } : Jvm.MethodName)) ∈ x_Wd := x_i6 72 (Eq.refl _) rfl
theorem q6_73 : (Jvm.Cond.code ({ cls := "CashLinkModel", name := "pin", desc := "(II)Z" } : Jvm.MethodName) prog_12_method_26_code (3 : Nat) (Option.some Jvm.ClassFile.FieldType.boolean)) ∈ x_Wd := x_i6 73 (Eq.refl _) rfl
theorem q6_74 : (Jvm.Cond.methodLink "CashLinkLaw" (97 : Nat) ({ cls := "CashLinkModel", name := "ask", desc := "(II)I" } : Jvm.MethodName)) ∈ x_Wd := x_i6 74 (Eq.refl _) rfl
theorem q6_75 : (Jvm.Cond.instanceMethod ({ cls := "CashLinkModel", name := "ask", desc := "(II)I" } : Jvm.MethodName)) ∈ x_Wd := x_i6 75 (Eq.refl _) rfl
theorem q6_76 : (Jvm.Cond.selects "CashLinkModel" ({ cls := "CashLinkModel", name := "ask", desc := "(II)I" } : Jvm.MethodName) ({ cls := "CashLinkModel", name := "ask", desc := "(II)I" } : Jvm.MethodName)) ∈ x_Wd := x_i6 76 (Eq.refl _) rfl
theorem q6_77 : (Jvm.Cond.codeWith ({ cls := "CashLinkModel", name := "ask", desc := "(II)I" } : Jvm.MethodName) prog_12_method_27_code (5 : Nat) (Option.some Jvm.ClassFile.FieldType.int) [((93 : Nat), (109 : Nat), (112 : Nat), (104 : Nat))]) ∈ x_Wd := x_i6 77 (Eq.refl _) rfl
theorem q6_78 : (Jvm.Cond.classLink "CashLinkModel" (104 : Nat) "java/lang/ArithmeticException") ∈ x_Wd := x_i6 78 (Eq.refl _) rfl
theorem q6_79 : (Jvm.Cond.methodLink "CashLinkModel" (159 : Nat) ({ cls := "CashLinkModel", name := "mixed", desc := "(II)Z" } : Jvm.MethodName)) ∈ x_Wd := x_i6 79 (Eq.refl _) rfl
theorem q6_81 : (Jvm.Cond.instanceMethod ({ cls := "CashLinkModel", name := "mixed", desc := "(II)Z" } : Jvm.MethodName)) ∈ x_Wd := x_i6 81 (Eq.refl _) rfl
theorem q6_82 : (Jvm.Cond.code ({ cls := "CashLinkModel", name := "mixed", desc := "(II)Z" } : Jvm.MethodName) prog_12_method_16_code (10 : Nat) (Option.some Jvm.ClassFile.FieldType.boolean)) ∈ x_Wd := x_i6 82 (Eq.refl _) rfl
theorem q6_83 : (Jvm.Cond.methodLink "CashLinkModel" (132 : Nat) ({ cls := "java/lang/Math", name := "min", desc := "(II)I" } : Jvm.MethodName)) ∈ x_Wd := x_i6 83 (Eq.refl _) rfl
theorem q6_84 : (Jvm.Cond.methodLink "CashLinkModel" (178 : Nat) ({ cls := "CashLinkModel", name := "voids", desc := "(I)I" } : Jvm.MethodName)) ∈ x_Wd := x_i6 84 (Eq.refl _) rfl
theorem q6_86 : (Jvm.Cond.instanceMethod ({ cls := "CashLinkModel", name := "voids", desc := "(I)I" } : Jvm.MethodName)) ∈ x_Wd := x_i6 86 (Eq.refl _) rfl
theorem q6_87 : (Jvm.Cond.code ({ cls := "CashLinkModel", name := "voids", desc := "(I)I" } : Jvm.MethodName) prog_12_method_10_code (4 : Nat) (Option.some Jvm.ClassFile.FieldType.int)) ∈ x_Wd := x_i6 87 (Eq.refl _) rfl
theorem q6_88 : (Jvm.Cond.methodLink "CashLinkModel" (100 : Nat) ({ cls := "CashLinkModel", name := "at", desc := "(I)I" } : Jvm.MethodName)) ∈ x_Wd := x_i6 88 (Eq.refl _) rfl
theorem q6_89 : (Jvm.Cond.static ({ cls := "CashLinkModel", name := "at", desc := "(I)I" } : Jvm.MethodName)) ∈ x_Wd := x_i6 89 (Eq.refl _) rfl
theorem q6_90 : (Jvm.Cond.code ({ cls := "CashLinkModel", name := "at", desc := "(I)I" } : Jvm.MethodName) prog_12_method_4_code (1 : Nat) (Option.some Jvm.ClassFile.FieldType.int)) ∈ x_Wd := x_i6 90 (Eq.refl _) rfl
theorem q6_91 : (Jvm.Cond.methodLink "CashLinkModel" (115 : Nat) ({ cls := "CashLinkModel", name := "isVoid", desc := "(II)Z" } : Jvm.MethodName)) ∈ x_Wd := x_i6 91 (Eq.refl _) rfl
theorem q6_93 : (Jvm.Cond.instanceMethod ({ cls := "CashLinkModel", name := "isVoid", desc := "(II)Z" } : Jvm.MethodName)) ∈ x_Wd := x_i6 93 (Eq.refl _) rfl
theorem q6_94 : (Jvm.Cond.code ({ cls := "CashLinkModel", name := "isVoid", desc := "(II)Z" } : Jvm.MethodName) prog_12_method_9_code (3 : Nat) (Option.some Jvm.ClassFile.FieldType.boolean)) ∈ x_Wd := x_i6 94 (Eq.refl _) rfl
theorem q6_95 : (Jvm.Cond.methodLink "CashLinkModel" (111 : Nat) ({ cls := "CashLinkModel", name := "has", desc := "(III)Z" } : Jvm.MethodName)) ∈ x_Wd := x_i6 95 (Eq.refl _) rfl
theorem q6_97 : (Jvm.Cond.instanceMethod ({ cls := "CashLinkModel", name := "has", desc := "(III)Z" } : Jvm.MethodName)) ∈ x_Wd := x_i6 97 (Eq.refl _) rfl
theorem q6_98 : (Jvm.Cond.code ({ cls := "CashLinkModel", name := "has", desc := "(III)Z" } : Jvm.MethodName) prog_12_method_7_code (4 : Nat) (Option.some Jvm.ClassFile.FieldType.boolean)) ∈ x_Wd := x_i6 98 (Eq.refl _) rfl
theorem q6_99 : (Jvm.Cond.methodLink "CashLinkModel" (107 : Nat) ({ cls := "CashLinkModel", name := "find", desc := "(IIII)I" } : Jvm.MethodName)) ∈ x_Wd := x_i6 99 (Eq.refl _) rfl
theorem q6_101 : (Jvm.Cond.instanceMethod ({ cls := "CashLinkModel", name := "find", desc := "(IIII)I" } : Jvm.MethodName)) ∈ x_Wd := x_i6 101 (Eq.refl _) rfl
theorem q6_102 : (Jvm.Cond.code ({ cls := "CashLinkModel", name := "find", desc := "(IIII)I" } : Jvm.MethodName) prog_12_method_6_code (6 : Nat) (Option.some Jvm.ClassFile.FieldType.int)) ∈ x_Wd := x_i6 102 (Eq.refl _) rfl
theorem q6_103 : (Jvm.Cond.methodLink "CashLinkModel" (146 : Nat) ({ cls := "CashLinkModel", name := "lastTrace", desc := "(I)I" } : Jvm.MethodName)) ∈ x_Wd := x_i6 103 (Eq.refl _) rfl
theorem q6_105 : (Jvm.Cond.instanceMethod ({ cls := "CashLinkModel", name := "lastTrace", desc := "(I)I" } : Jvm.MethodName)) ∈ x_Wd := x_i6 105 (Eq.refl _) rfl
theorem q6_106 : (Jvm.Cond.code ({ cls := "CashLinkModel", name := "lastTrace", desc := "(I)I" } : Jvm.MethodName) prog_12_method_8_code (4 : Nat) (Option.some Jvm.ClassFile.FieldType.int)) ∈ x_Wd := x_i6 106 (Eq.refl _) rfl
theorem q6_107 : (Jvm.Cond.methodLink "CashLinkModel" (138 : Nat) ({ cls := "CashLinkModel", name := "record", desc := "(IIIIIII)V" } : Jvm.MethodName)) ∈ x_Wd := x_i6 107 (Eq.refl _) rfl
theorem q6_109 : (Jvm.Cond.instanceMethod ({ cls := "CashLinkModel", name := "record", desc := "(IIIIIII)V" } : Jvm.MethodName)) ∈ x_Wd := x_i6 109 (Eq.refl _) rfl
theorem q6_110 : (Jvm.Cond.code ({ cls := "CashLinkModel", name := "record", desc := "(IIIIIII)V" } : Jvm.MethodName) prog_12_method_5_code (10 : Nat) (Option.none : Option Jvm.ClassFile.FieldType)) ∈ x_Wd := x_i6 110 (Eq.refl _) rfl
theorem q6_121 : (Jvm.Cond.methodLink "CashLinkModel" (142 : Nat) ({ cls := "CashLinkModel", name := "sent", desc := "(IIIIII)V" } : Jvm.MethodName)) ∈ x_Wd := x_i6 121 (Eq.refl _) rfl
theorem q6_123 : (Jvm.Cond.instanceMethod ({ cls := "CashLinkModel", name := "sent", desc := "(IIIIII)V" } : Jvm.MethodName)) ∈ x_Wd := x_i6 123 (Eq.refl _) rfl
theorem q6_124 : (Jvm.Cond.code ({ cls := "CashLinkModel", name := "sent", desc := "(IIIIII)V" } : Jvm.MethodName) prog_12_method_12_code (7 : Nat) (Option.none : Option Jvm.ClassFile.FieldType)) ∈ x_Wd := x_i6 124 (Eq.refl _) rfl
theorem q6_125 : (Jvm.Cond.methodLink "CashLinkLaw" (101 : Nat) ({ cls := "CashLinkModel", name := "cancel", desc := "(I)V" } : Jvm.MethodName)) ∈ x_Wd := x_i6 125 (Eq.refl _) rfl
theorem q6_126 : (Jvm.Cond.instanceMethod ({ cls := "CashLinkModel", name := "cancel", desc := "(I)V" } : Jvm.MethodName)) ∈ x_Wd := x_i6 126 (Eq.refl _) rfl
theorem q6_127 : (Jvm.Cond.selects "CashLinkModel" ({ cls := "CashLinkModel", name := "cancel", desc := "(I)V" } : Jvm.MethodName) ({ cls := "CashLinkModel", name := "cancel", desc := "(I)V" } : Jvm.MethodName)) ∈ x_Wd := x_i6 127 (Eq.refl _) rfl
theorem q6_128 : (Jvm.Cond.codeWith ({ cls := "CashLinkModel", name := "cancel", desc := "(I)V" } : Jvm.MethodName) prog_12_method_28_code (3 : Nat) (Option.none : Option Jvm.ClassFile.FieldType) [((67 : Nat), (72 : Nat), (75 : Nat), (104 : Nat))]) ∈ x_Wd := x_i6 128 (Eq.refl _) rfl
theorem q6_129 : (Jvm.Cond.methodLink "CashLinkModel" (162 : Nat) ({ cls := "CashLinkModel", name := "late", desc := "(I)V" } : Jvm.MethodName)) ∈ x_Wd := x_i6 129 (Eq.refl _) rfl
theorem q6_131 : (Jvm.Cond.instanceMethod ({ cls := "CashLinkModel", name := "late", desc := "(I)V" } : Jvm.MethodName)) ∈ x_Wd := x_i6 131 (Eq.refl _) rfl
theorem q6_132 : (Jvm.Cond.code ({ cls := "CashLinkModel", name := "late", desc := "(I)V" } : Jvm.MethodName) prog_12_method_18_code (3 : Nat) (Option.none : Option Jvm.ClassFile.FieldType)) ∈ x_Wd := x_i6 132 (Eq.refl _) rfl
theorem q6_133 : (Jvm.Cond.methodLink "CashLinkModel" (149 : Nat) ({ cls := "CashLinkModel", name := "amountOf", desc := "(II)I" } : Jvm.MethodName)) ∈ x_Wd := x_i6 133 (Eq.refl _) rfl
theorem q6_135 : (Jvm.Cond.instanceMethod ({ cls := "CashLinkModel", name := "amountOf", desc := "(II)I" } : Jvm.MethodName)) ∈ x_Wd := x_i6 135 (Eq.refl _) rfl
theorem q6_136 : (Jvm.Cond.code ({ cls := "CashLinkModel", name := "amountOf", desc := "(II)I" } : Jvm.MethodName) prog_12_method_11_code (3 : Nat) (Option.some Jvm.ClassFile.FieldType.int)) ∈ x_Wd := x_i6 136 (Eq.refl _) rfl
theorem q6_137 : (Jvm.Cond.methodLink "CashLinkModel" (152 : Nat) ({ cls := "CashLinkModel", name := "reverse", desc := "(III)V" } : Jvm.MethodName)) ∈ x_Wd := x_i6 137 (Eq.refl _) rfl
theorem q6_139 : (Jvm.Cond.instanceMethod ({ cls := "CashLinkModel", name := "reverse", desc := "(III)V" } : Jvm.MethodName)) ∈ x_Wd := x_i6 139 (Eq.refl _) rfl
theorem q6_140 : (Jvm.Cond.code ({ cls := "CashLinkModel", name := "reverse", desc := "(III)V" } : Jvm.MethodName) prog_12_method_17_code (4 : Nat) (Option.none : Option Jvm.ClassFile.FieldType)) ∈ x_Wd := x_i6 140 (Eq.refl _) rfl
theorem q6_141 : (Jvm.Cond.methodLink "CashLinkLaw" (105 : Nat) ({ cls := "CashLinkModel", name := "again", desc := "(I)I" } : Jvm.MethodName)) ∈ x_Wd := x_i6 141 (Eq.refl _) rfl
theorem q6_142 : (Jvm.Cond.instanceMethod ({ cls := "CashLinkModel", name := "again", desc := "(I)I" } : Jvm.MethodName)) ∈ x_Wd := x_i6 142 (Eq.refl _) rfl
theorem q6_143 : (Jvm.Cond.selects "CashLinkModel" ({ cls := "CashLinkModel", name := "again", desc := "(I)I" } : Jvm.MethodName) ({ cls := "CashLinkModel", name := "again", desc := "(I)I" } : Jvm.MethodName)) ∈ x_Wd := x_i6 143 (Eq.refl _) rfl
theorem q6_144 : (Jvm.Cond.code ({ cls := "CashLinkModel", name := "again", desc := "(I)I" } : Jvm.MethodName) prog_12_method_29_code (4 : Nat) (Option.some Jvm.ClassFile.FieldType.int)) ∈ x_Wd := x_i6 144 (Eq.refl _) rfl
theorem q6_145 : (Jvm.Cond.methodLink "CashLinkLaw" (108 : Nat) ({ cls := "CashLinkModel", name := "settle", desc := "(I)I" } : Jvm.MethodName)) ∈ x_Wd := x_i6 145 (Eq.refl _) rfl
theorem q6_146 : (Jvm.Cond.instanceMethod ({ cls := "CashLinkModel", name := "settle", desc := "(I)I" } : Jvm.MethodName)) ∈ x_Wd := x_i6 146 (Eq.refl _) rfl
theorem q6_147 : (Jvm.Cond.selects "CashLinkModel" ({ cls := "CashLinkModel", name := "settle", desc := "(I)I" } : Jvm.MethodName) ({ cls := "CashLinkModel", name := "settle", desc := "(I)I" } : Jvm.MethodName)) ∈ x_Wd := x_i6 147 (Eq.refl _) rfl
theorem q6_148 : (Jvm.Cond.code ({ cls := "CashLinkModel", name := "settle", desc := "(I)I" } : Jvm.MethodName) prog_12_method_30_code (4 : Nat) (Option.some Jvm.ClassFile.FieldType.int)) ∈ x_Wd := x_i6 148 (Eq.refl _) rfl
theorem q6_149 : (Jvm.Cond.methodLink "CashLinkLaw" (111 : Nat) ({ cls := "CashLinkModel", name := "deliver", desc := "(I)I" } : Jvm.MethodName)) ∈ x_Wd := x_i6 149 (Eq.refl _) rfl
theorem q6_150 : (Jvm.Cond.instanceMethod ({ cls := "CashLinkModel", name := "deliver", desc := "(I)I" } : Jvm.MethodName)) ∈ x_Wd := x_i6 150 (Eq.refl _) rfl
theorem q6_151 : (Jvm.Cond.selects "CashLinkModel" ({ cls := "CashLinkModel", name := "deliver", desc := "(I)I" } : Jvm.MethodName) ({ cls := "CashLinkModel", name := "deliver", desc := "(I)I" } : Jvm.MethodName)) ∈ x_Wd := x_i6 151 (Eq.refl _) rfl
theorem q6_152 : (Jvm.Cond.codeWith ({ cls := "CashLinkModel", name := "deliver", desc := "(I)I" } : Jvm.MethodName) prog_12_method_31_code (6 : Nat) (Option.some Jvm.ClassFile.FieldType.int) [((113 : Nat), (205 : Nat), (208 : Nat), (104 : Nat))]) ∈ x_Wd := x_i6 152 (Eq.refl _) rfl
theorem q6_153 : (Jvm.Cond.methodLink "CashLinkModel" (181 : Nat) ({ cls := "CashLinkModel", name := "bank", desc := "(I)V" } : Jvm.MethodName)) ∈ x_Wd := x_i6 153 (Eq.refl _) rfl
theorem q6_155 : (Jvm.Cond.instanceMethod ({ cls := "CashLinkModel", name := "bank", desc := "(I)V" } : Jvm.MethodName)) ∈ x_Wd := x_i6 155 (Eq.refl _) rfl
theorem q6_156 : (Jvm.Cond.code ({ cls := "CashLinkModel", name := "bank", desc := "(I)V" } : Jvm.MethodName) prog_12_method_24_code (9 : Nat) (Option.none : Option Jvm.ClassFile.FieldType)) ∈ x_Wd := x_i6 156 (Eq.refl _) rfl
theorem q6_157 : (Jvm.Cond.methodLink "CashLinkModel" (172 : Nat) ({ cls := "CashLinkModel", name := "worth", desc := "(I)I" } : Jvm.MethodName)) ∈ x_Wd := x_i6 157 (Eq.refl _) rfl
theorem q6_159 : (Jvm.Cond.instanceMethod ({ cls := "CashLinkModel", name := "worth", desc := "(I)I" } : Jvm.MethodName)) ∈ x_Wd := x_i6 159 (Eq.refl _) rfl
theorem q6_160 : (Jvm.Cond.code ({ cls := "CashLinkModel", name := "worth", desc := "(I)I" } : Jvm.MethodName) prog_12_method_23_code (5 : Nat) (Option.some Jvm.ClassFile.FieldType.int)) ∈ x_Wd := x_i6 160 (Eq.refl _) rfl
theorem q6_161 : (Jvm.Cond.methodLink "CashLinkModel" (184 : Nat) ({ cls := "CashLinkModel", name := "answered", desc := "(II)V" } : Jvm.MethodName)) ∈ x_Wd := x_i6 161 (Eq.refl _) rfl
theorem q6_163 : (Jvm.Cond.instanceMethod ({ cls := "CashLinkModel", name := "answered", desc := "(II)V" } : Jvm.MethodName)) ∈ x_Wd := x_i6 163 (Eq.refl _) rfl
theorem q6_164 : (Jvm.Cond.code ({ cls := "CashLinkModel", name := "answered", desc := "(II)V" } : Jvm.MethodName) prog_12_method_21_code (5 : Nat) (Option.none : Option Jvm.ClassFile.FieldType)) ∈ x_Wd := x_i6 164 (Eq.refl _) rfl
theorem q6_165 : (Jvm.Cond.methodLink "CashLinkModel" (166 : Nat) ({ cls := "CashLinkModel", name := "dispense", desc := "(II)V" } : Jvm.MethodName)) ∈ x_Wd := x_i6 165 (Eq.refl _) rfl
theorem q6_167 : (Jvm.Cond.instanceMethod ({ cls := "CashLinkModel", name := "dispense", desc := "(II)V" } : Jvm.MethodName)) ∈ x_Wd := x_i6 167 (Eq.refl _) rfl
theorem q6_168 : (Jvm.Cond.code ({ cls := "CashLinkModel", name := "dispense", desc := "(II)V" } : Jvm.MethodName) prog_12_method_19_code (7 : Nat) (Option.none : Option Jvm.ClassFile.FieldType)) ∈ x_Wd := x_i6 168 (Eq.refl _) rfl
theorem q6_169 : (Jvm.Cond.fieldLink "CashLinkModel" (156 : Nat) "CashLinkModel" "WORTH" "[I") ∈ x_Wd := x_i6 169 (Eq.refl _) rfl
theorem q6_171 : (Jvm.Cond.methodLink "CashLinkModel" (169 : Nat) ({ cls := "CashLinkModel", name := "paid", desc := "(III)V" } : Jvm.MethodName)) ∈ x_Wd := x_i6 171 (Eq.refl _) rfl
theorem q6_173 : (Jvm.Cond.instanceMethod ({ cls := "CashLinkModel", name := "paid", desc := "(III)V" } : Jvm.MethodName)) ∈ x_Wd := x_i6 173 (Eq.refl _) rfl
theorem q6_174 : (Jvm.Cond.code ({ cls := "CashLinkModel", name := "paid", desc := "(III)V" } : Jvm.MethodName) prog_12_method_20_code (5 : Nat) (Option.none : Option Jvm.ClassFile.FieldType)) ∈ x_Wd := x_i6 174 (Eq.refl _) rfl
theorem q6_175 : (Jvm.Cond.methodLink "CashLinkLaw" (114 : Nat) ({ cls := "CashLinkModel", name := "jam", desc := "(II)V" } : Jvm.MethodName)) ∈ x_Wd := x_i6 175 (Eq.refl _) rfl
theorem q6_176 : (Jvm.Cond.instanceMethod ({ cls := "CashLinkModel", name := "jam", desc := "(II)V" } : Jvm.MethodName)) ∈ x_Wd := x_i6 176 (Eq.refl _) rfl
theorem q6_177 : (Jvm.Cond.selects "CashLinkModel" ({ cls := "CashLinkModel", name := "jam", desc := "(II)V" } : Jvm.MethodName) ({ cls := "CashLinkModel", name := "jam", desc := "(II)V" } : Jvm.MethodName)) ∈ x_Wd := x_i6 177 (Eq.refl _) rfl
theorem q6_178 : (Jvm.Cond.code ({ cls := "CashLinkModel", name := "jam", desc := "(II)V" } : Jvm.MethodName) prog_12_method_32_code (3 : Nat) (Option.none : Option Jvm.ClassFile.FieldType)) ∈ x_Wd := x_i6 178 (Eq.refl _) rfl
theorem q6_179 : (Jvm.Cond.methodLink "CashLinkLaw" (118 : Nat) ({ cls := "CashLinkModel", name := "load", desc := "(III)I" } : Jvm.MethodName)) ∈ x_Wd := x_i6 179 (Eq.refl _) rfl
theorem q6_180 : (Jvm.Cond.instanceMethod ({ cls := "CashLinkModel", name := "load", desc := "(III)I" } : Jvm.MethodName)) ∈ x_Wd := x_i6 180 (Eq.refl _) rfl
theorem q6_181 : (Jvm.Cond.selects "CashLinkModel" ({ cls := "CashLinkModel", name := "load", desc := "(III)I" } : Jvm.MethodName) ({ cls := "CashLinkModel", name := "load", desc := "(III)I" } : Jvm.MethodName)) ∈ x_Wd := x_i6 181 (Eq.refl _) rfl
theorem q6_182 : (Jvm.Cond.code ({ cls := "CashLinkModel", name := "load", desc := "(III)I" } : Jvm.MethodName) prog_12_method_33_code (4 : Nat) (Option.some Jvm.ClassFile.FieldType.int)) ∈ x_Wd := x_i6 182 (Eq.refl _) rfl
theorem q6_183 : (Jvm.Cond.methodLink "CashLinkLaw" (122 : Nat) ({ cls := "CashLinkModel", name := "power", desc := "(III)V" } : Jvm.MethodName)) ∈ x_Wd := x_i6 183 (Eq.refl _) rfl
theorem q6_184 : (Jvm.Cond.instanceMethod ({ cls := "CashLinkModel", name := "power", desc := "(III)V" } : Jvm.MethodName)) ∈ x_Wd := x_i6 184 (Eq.refl _) rfl
theorem q6_185 : (Jvm.Cond.selects "CashLinkModel" ({ cls := "CashLinkModel", name := "power", desc := "(III)V" } : Jvm.MethodName) ({ cls := "CashLinkModel", name := "power", desc := "(III)V" } : Jvm.MethodName)) ∈ x_Wd := x_i6 185 (Eq.refl _) rfl
theorem q6_186 : (Jvm.Cond.code ({ cls := "CashLinkModel", name := "power", desc := "(III)V" } : Jvm.MethodName) prog_12_method_34_code (4 : Nat) (Option.none : Option Jvm.ClassFile.FieldType)) ∈ x_Wd := x_i6 186 (Eq.refl _) rfl
theorem q6_187 : (Jvm.Cond.methodLink "CashLinkLaw" (125 : Nat) ({ cls := "CashLinkModel", name := "on", desc := "(I)I" } : Jvm.MethodName)) ∈ x_Wd := x_i6 187 (Eq.refl _) rfl
theorem q6_188 : (Jvm.Cond.instanceMethod ({ cls := "CashLinkModel", name := "on", desc := "(I)I" } : Jvm.MethodName)) ∈ x_Wd := x_i6 188 (Eq.refl _) rfl
theorem q6_189 : (Jvm.Cond.selects "CashLinkModel" ({ cls := "CashLinkModel", name := "on", desc := "(I)I" } : Jvm.MethodName) ({ cls := "CashLinkModel", name := "on", desc := "(I)I" } : Jvm.MethodName)) ∈ x_Wd := x_i6 189 (Eq.refl _) rfl
theorem q6_190 : (Jvm.Cond.codeWith ({ cls := "CashLinkModel", name := "on", desc := "(I)I" } : Jvm.MethodName) prog_12_method_35_code (4 : Nat) (Option.some Jvm.ClassFile.FieldType.int) [((46 : Nat), (51 : Nat), (54 : Nat), (104 : Nat))]) ∈ x_Wd := x_i6 190 (Eq.refl _) rfl
theorem q6_191 : (Jvm.Cond.methodLink "CashLinkModel" (187 : Nat) ({ cls := "CashLinkModel", name := "wakes", desc := "(I)V" } : Jvm.MethodName)) ∈ x_Wd := x_i6 191 (Eq.refl _) rfl
theorem q6_193 : (Jvm.Cond.instanceMethod ({ cls := "CashLinkModel", name := "wakes", desc := "(I)V" } : Jvm.MethodName)) ∈ x_Wd := x_i6 193 (Eq.refl _) rfl
theorem q6_194 : (Jvm.Cond.code ({ cls := "CashLinkModel", name := "wakes", desc := "(I)V" } : Jvm.MethodName) prog_12_method_22_code (8 : Nat) (Option.none : Option Jvm.ClassFile.FieldType)) ∈ x_Wd := x_i6 194 (Eq.refl _) rfl
theorem q6_195 : (Jvm.Cond.methodLink "CashLinkLaw" (128 : Nat) ({ cls := "CashLinkModel", name := "told", desc := "(II)I" } : Jvm.MethodName)) ∈ x_Wd := x_i6 195 (Eq.refl _) rfl
theorem q6_196 : (Jvm.Cond.instanceMethod ({ cls := "CashLinkModel", name := "told", desc := "(II)I" } : Jvm.MethodName)) ∈ x_Wd := x_i6 196 (Eq.refl _) rfl
theorem q6_197 : (Jvm.Cond.selects "CashLinkModel" ({ cls := "CashLinkModel", name := "told", desc := "(II)I" } : Jvm.MethodName) ({ cls := "CashLinkModel", name := "told", desc := "(II)I" } : Jvm.MethodName)) ∈ x_Wd := x_i6 197 (Eq.refl _) rfl
theorem q6_198 : (Jvm.Cond.code ({ cls := "CashLinkModel", name := "told", desc := "(II)I" } : Jvm.MethodName) prog_12_method_36_code (3 : Nat) (Option.some Jvm.ClassFile.FieldType.int)) ∈ x_Wd := x_i6 198 (Eq.refl _) rfl
theorem q6_199 : (Jvm.Cond.methodLink "CashLinkLaw" (131 : Nat) ({ cls := "CashLinkModel", name := "balance", desc := "(I)I" } : Jvm.MethodName)) ∈ x_Wd := x_i6 199 (Eq.refl _) rfl
theorem q6_200 : (Jvm.Cond.instanceMethod ({ cls := "CashLinkModel", name := "balance", desc := "(I)I" } : Jvm.MethodName)) ∈ x_Wd := x_i6 200 (Eq.refl _) rfl
theorem q6_201 : (Jvm.Cond.selects "CashLinkModel" ({ cls := "CashLinkModel", name := "balance", desc := "(I)I" } : Jvm.MethodName) ({ cls := "CashLinkModel", name := "balance", desc := "(I)I" } : Jvm.MethodName)) ∈ x_Wd := x_i6 201 (Eq.refl _) rfl
theorem q6_202 : (Jvm.Cond.code ({ cls := "CashLinkModel", name := "balance", desc := "(I)I" } : Jvm.MethodName) prog_12_method_37_code (2 : Nat) (Option.some Jvm.ClassFile.FieldType.int)) ∈ x_Wd := x_i6 202 (Eq.refl _) rfl
theorem q6_203 : (Jvm.Cond.methodLink "CashLinkLaw" (134 : Nat) ({ cls := "CashLinkModel", name := "taken", desc := "(I)I" } : Jvm.MethodName)) ∈ x_Wd := x_i6 203 (Eq.refl _) rfl
theorem q6_204 : (Jvm.Cond.instanceMethod ({ cls := "CashLinkModel", name := "taken", desc := "(I)I" } : Jvm.MethodName)) ∈ x_Wd := x_i6 204 (Eq.refl _) rfl
theorem q6_205 : (Jvm.Cond.selects "CashLinkModel" ({ cls := "CashLinkModel", name := "taken", desc := "(I)I" } : Jvm.MethodName) ({ cls := "CashLinkModel", name := "taken", desc := "(I)I" } : Jvm.MethodName)) ∈ x_Wd := x_i6 205 (Eq.refl _) rfl
theorem q6_206 : (Jvm.Cond.code ({ cls := "CashLinkModel", name := "taken", desc := "(I)I" } : Jvm.MethodName) prog_12_method_38_code (2 : Nat) (Option.some Jvm.ClassFile.FieldType.int)) ∈ x_Wd := x_i6 206 (Eq.refl _) rfl
theorem q6_207 : (Jvm.Cond.methodLink "CashLinkLaw" (137 : Nat) ({ cls := "CashLinkModel", name := "byteAt", desc := "(II)I" } : Jvm.MethodName)) ∈ x_Wd := x_i6 207 (Eq.refl _) rfl
theorem q6_208 : (Jvm.Cond.instanceMethod ({ cls := "CashLinkModel", name := "byteAt", desc := "(II)I" } : Jvm.MethodName)) ∈ x_Wd := x_i6 208 (Eq.refl _) rfl
theorem q6_209 : (Jvm.Cond.selects "CashLinkModel" ({ cls := "CashLinkModel", name := "byteAt", desc := "(II)I" } : Jvm.MethodName) ({ cls := "CashLinkModel", name := "byteAt", desc := "(II)I" } : Jvm.MethodName)) ∈ x_Wd := x_i6 209 (Eq.refl _) rfl
theorem q6_210 : (Jvm.Cond.code ({ cls := "CashLinkModel", name := "byteAt", desc := "(II)I" } : Jvm.MethodName) prog_12_method_39_code (3 : Nat) (Option.some Jvm.ClassFile.FieldType.int)) ∈ x_Wd := x_i6 210 (Eq.refl _) rfl
theorem q6_211 : (Jvm.Cond.methodLink "CashLinkModel" (190 : Nat) ({ cls := "CashLinkModel", name := "lay", desc := "(I)V" } : Jvm.MethodName)) ∈ x_Wd := x_i6 211 (Eq.refl _) rfl
theorem q6_213 : (Jvm.Cond.instanceMethod ({ cls := "CashLinkModel", name := "lay", desc := "(I)V" } : Jvm.MethodName)) ∈ x_Wd := x_i6 213 (Eq.refl _) rfl
theorem q6_214 : (Jvm.Cond.code ({ cls := "CashLinkModel", name := "lay", desc := "(I)V" } : Jvm.MethodName) prog_12_method_15_code (5 : Nat) (Option.none : Option Jvm.ClassFile.FieldType)) ∈ x_Wd := x_i6 214 (Eq.refl _) rfl
theorem q6_215 : (Jvm.Cond.methodLink "CashLinkModel" (125 : Nat) ({ cls := "CashLinkModel", name := "digits", desc := "(II)V" } : Jvm.MethodName)) ∈ x_Wd := x_i6 215 (Eq.refl _) rfl
theorem q6_217 : (Jvm.Cond.instanceMethod ({ cls := "CashLinkModel", name := "digits", desc := "(II)V" } : Jvm.MethodName)) ∈ x_Wd := x_i6 217 (Eq.refl _) rfl
theorem q6_218 : (Jvm.Cond.code ({ cls := "CashLinkModel", name := "digits", desc := "(II)V" } : Jvm.MethodName) prog_12_method_13_code (5 : Nat) (Option.none : Option Jvm.ClassFile.FieldType)) ∈ x_Wd := x_i6 218 (Eq.refl _) rfl
theorem q6_219 : (Jvm.Cond.methodLink "CashLinkModel" (129 : Nat) ({ cls := "CashLinkModel", name := "isField", desc := "(II)Z" } : Jvm.MethodName)) ∈ x_Wd := x_i6 219 (Eq.refl _) rfl
theorem q6_221 : (Jvm.Cond.instanceMethod ({ cls := "CashLinkModel", name := "isField", desc := "(II)Z" } : Jvm.MethodName)) ∈ x_Wd := x_i6 221 (Eq.refl _) rfl
theorem q6_222 : (Jvm.Cond.code ({ cls := "CashLinkModel", name := "isField", desc := "(II)Z" } : Jvm.MethodName) prog_12_method_14_code (3 : Nat) (Option.some Jvm.ClassFile.FieldType.boolean)) ∈ x_Wd := x_i6 222 (Eq.refl _) rfl
theorem q6_223 : (Jvm.Cond.methodLink "CashLinkLaw" (140 : Nat) ({ cls := "CashLinkModel", name := "mix", desc := "(III)I" } : Jvm.MethodName)) ∈ x_Wd := x_i6 223 (Eq.refl _) rfl
theorem q6_224 : (Jvm.Cond.instanceMethod ({ cls := "CashLinkModel", name := "mix", desc := "(III)I" } : Jvm.MethodName)) ∈ x_Wd := x_i6 224 (Eq.refl _) rfl
theorem q6_225 : (Jvm.Cond.selects "CashLinkModel" ({ cls := "CashLinkModel", name := "mix", desc := "(III)I" } : Jvm.MethodName) ({ cls := "CashLinkModel", name := "mix", desc := "(III)I" } : Jvm.MethodName)) ∈ x_Wd := x_i6 225 (Eq.refl _) rfl
theorem q6_226 : (Jvm.Cond.code ({ cls := "CashLinkModel", name := "mix", desc := "(III)I" } : Jvm.MethodName) prog_12_method_40_code (4 : Nat) (Option.some Jvm.ClassFile.FieldType.int)) ∈ x_Wd := x_i6 226 (Eq.refl _) rfl
theorem q6_227 : (Jvm.Cond.methodLink "CashLinkLaw" (143 : Nat) ({ cls := "CashLinkModel", name := "count", desc := "(I)I" } : Jvm.MethodName)) ∈ x_Wd := x_i6 227 (Eq.refl _) rfl
theorem q6_228 : (Jvm.Cond.instanceMethod ({ cls := "CashLinkModel", name := "count", desc := "(I)I" } : Jvm.MethodName)) ∈ x_Wd := x_i6 228 (Eq.refl _) rfl
theorem q6_229 : (Jvm.Cond.selects "CashLinkModel" ({ cls := "CashLinkModel", name := "count", desc := "(I)I" } : Jvm.MethodName) ({ cls := "CashLinkModel", name := "count", desc := "(I)I" } : Jvm.MethodName)) ∈ x_Wd := x_i6 229 (Eq.refl _) rfl
theorem q6_230 : (Jvm.Cond.code ({ cls := "CashLinkModel", name := "count", desc := "(I)I" } : Jvm.MethodName) prog_12_method_41_code (5 : Nat) (Option.some Jvm.ClassFile.FieldType.int)) ∈ x_Wd := x_i6 230 (Eq.refl _) rfl
theorem q6_231 : (Jvm.Cond.arrayClass Jvm.ClassFile.FieldType.long) ∈ x_Wd := x_i6 231 (Eq.refl _) rfl
theorem q6_233 : (Jvm.Cond.sameMethod "java/lang/AbstractStringBuilder" "java/lang/AbstractStringBuilder" "append" "(Ljava/lang/String;)Ljava/lang/AbstractStringBuilder;") ∈ x_Wd := x_i6 233 (Eq.refl _) rfl
theorem q6_235 : (Jvm.Cond.sameMethod "java/lang/AbstractStringBuilder" "java/lang/AbstractStringBuilder" "ensureCapacityInternal" "(I)V") ∈ x_Wd := x_i6 235 (Eq.refl _) rfl
theorem q6_236 : (Jvm.Cond.sameMethod "java/lang/AbstractStringBuilder" "java/lang/AbstractStringBuilder" "newCapacity" "(I)I") ∈ x_Wd := x_i6 236 (Eq.refl _) rfl
theorem q6_237 : (Jvm.Cond.sameMethod "java/lang/AbstractStringBuilder" "java/lang/AbstractStringBuilder" "putStringAt" "(ILjava/lang/String;)V") ∈ x_Wd := x_i6 237 (Eq.refl _) rfl
theorem q6_238 : (Jvm.Cond.sameMethod "java/lang/AbstractStringBuilder" "java/lang/AbstractStringBuilder" "inflateIfNeededFor" "(Ljava/lang/String;)V") ∈ x_Wd := x_i6 238 (Eq.refl _) rfl
theorem q7_0 : (Jvm.Cond.sameMethod "java/lang/AbstractStringBuilder" "java/lang/AbstractStringBuilder" "append" "(C)Ljava/lang/AbstractStringBuilder;") ∈ x_Wd := x_i7 0 (Eq.refl _) rfl
theorem q7_1 : (Jvm.Cond.sameMethod "java/lang/AbstractStringBuilder" "java/lang/AbstractStringBuilder" "length" "()I") ∈ x_Wd := x_i7 1 (Eq.refl _) rfl
theorem q7_2 : (Jvm.Cond.sameMethod "java/lang/AbstractStringBuilder" "java/lang/AbstractStringBuilder" "setCharAt" "(IC)V") ∈ x_Wd := x_i7 2 (Eq.refl _) rfl
theorem q7_3 : (Jvm.Cond.sameMethod "java/lang/AbstractStringBuilder" "java/lang/AbstractStringBuilder" "charAt" "(I)C") ∈ x_Wd := x_i7 3 (Eq.refl _) rfl
theorem q7_4 : (Jvm.Cond.castable "CashLink$Entry" "CashLink$Entry") ∈ x_Wd := x_i7 4 (Eq.refl _) rfl
theorem q7_5 : (Jvm.Cond.castable "CashLink$Message" "CashLink$Message") ∈ x_Wd := x_i7 5 (Eq.refl _) rfl
theorem q7_7 : (Jvm.Cond.selects "[Ljava/lang/Object;" ({ cls := "java/lang/Object", name := "getClass", desc := "()Ljava/lang/Class;" } : Jvm.MethodName) ({ cls := "java/lang/Object", name := "getClass", desc := "()Ljava/lang/Class;" } : Jvm.MethodName)) ∈ x_Wd := x_i7 7 (Eq.refl _) rfl
theorem q7_8 : (Jvm.Cond.declares ({ cls := "java/lang/Object", name := "getClass", desc := "()Ljava/lang/Class;" } : Jvm.MethodName)) ∈ x_Wd := x_i7 8 (Eq.refl _) rfl
theorem q7_21 : (Jvm.Cond.fieldLink "CashLink" (84 : Nat) "CashLink$Type" "toBank" "Z") ∈ x_Wd := x_i7 21 (Eq.refl _) rfl
theorem q7_22 : (Jvm.Cond.fieldLink "CashLink$Machine" (226 : Nat) "CashLink$State" "number" "I") ∈ x_Wd := x_i7 22 (Eq.refl _) rfl
theorem q7_23 : (Jvm.Cond.fieldLink "CashLink$Message" (32 : Nat) "CashLink$Type" "digits" "Ljava/lang/String;") ∈ x_Wd := x_i7 23 (Eq.refl _) rfl
theorem q7_24 : (Jvm.Cond.fieldLink "java/lang/String" (9 : Nat) "java/lang/String" "value" "[B") ∈ x_Wd := x_i7 24 (Eq.refl _) rfl
theorem q7_25 : (Jvm.Cond.fieldLink "java/lang/String" (15 : Nat) "java/lang/String" "coder" "B") ∈ x_Wd := x_i7 25 (Eq.refl _) rfl
theorem q7_26 : (Jvm.Cond.fieldLink "CashLink$Message" (46 : Nat) "CashLink$Type" "hasAccount" "Z") ∈ x_Wd := x_i7 26 (Eq.refl _) rfl
theorem q7_27 : (Jvm.Cond.fieldLink "CashLink$Message" (54 : Nat) "CashLink$Type" "toBank" "Z") ∈ x_Wd := x_i7 27 (Eq.refl _) rfl
theorem q7_28 : (Jvm.Cond.fieldLink "CashLink$Message" (57 : Nat) "CashLink$Type" "hasAnswer" "Z") ∈ x_Wd := x_i7 28 (Eq.refl _) rfl
theorem q1_13 : (Jvm.Cond.initialized "java/lang/Throwable") ∈ x_Wd := x_i1 13 (Eq.refl _) rfl
theorem q1_14 : (Jvm.Cond.initialized "java/lang/Exception") ∈ x_Wd := x_i1 14 (Eq.refl _) rfl
theorem q1_15 : (Jvm.Cond.initialized "java/lang/RuntimeException") ∈ x_Wd := x_i1 15 (Eq.refl _) rfl
theorem q1_16 : (Jvm.Cond.initialized "java/lang/IllegalArgumentException") ∈ x_Wd := x_i1 16 (Eq.refl _) rfl
theorem q1_17 : (Jvm.Cond.initialized "java/lang/IllegalStateException") ∈ x_Wd := x_i1 17 (Eq.refl _) rfl
theorem q1_19 : (Jvm.Cond.initialized "java/lang/UnsupportedOperationException") ∈ x_Wd := x_i1 19 (Eq.refl _) rfl
theorem q1_25 : (Jvm.Cond.initialized "java/lang/ArithmeticException") ∈ x_Wd := x_i1 25 (Eq.refl _) rfl
theorem q1_30 : (Jvm.Cond.initialized "java/lang/IndexOutOfBoundsException") ∈ x_Wd := x_i1 30 (Eq.refl _) rfl
theorem q1_230 : (Jvm.Cond.classLink "CashLink" (181 : Nat) "java/lang/IllegalArgumentException") ∈ x_Wd := x_i1 230 (Eq.refl _) rfl
theorem q1_231 : (Jvm.Cond.instantiable "java/lang/IllegalArgumentException" (6 : Nat)) ∈ x_Wd := x_i1 231 (Eq.refl _) rfl
theorem q1_232 : (Jvm.Cond.castable "java/lang/IllegalArgumentException" "java/lang/IllegalArgumentException") ∈ x_Wd := x_i1 232 (Eq.refl _) rfl
theorem q1_233 : (Jvm.Cond.declares ({ cls := "java/lang/RuntimeException", name := "<init>", desc := "()V" } : Jvm.MethodName)) ∈ x_Wd := x_i1 233 (Eq.refl _) rfl
theorem q1_234 : (Jvm.Cond.declares ({ cls := "java/lang/RuntimeException", name := "<init>", desc := "(Ljava/lang/String;)V" } : Jvm.MethodName)) ∈ x_Wd := x_i1 234 (Eq.refl _) rfl
theorem q1_235 : (Jvm.Cond.declares ({ cls := "java/lang/Exception", name := "<init>", desc := "()V" } : Jvm.MethodName)) ∈ x_Wd := x_i1 235 (Eq.refl _) rfl
theorem q1_236 : (Jvm.Cond.declares ({ cls := "java/lang/Exception", name := "<init>", desc := "(Ljava/lang/String;)V" } : Jvm.MethodName)) ∈ x_Wd := x_i1 236 (Eq.refl _) rfl
theorem q1_237 : (Jvm.Cond.declares ({ cls := "java/lang/Throwable", name := "<init>", desc := "()V" } : Jvm.MethodName)) ∈ x_Wd := x_i1 237 (Eq.refl _) rfl
theorem q1_238 : (Jvm.Cond.declares ({ cls := "java/lang/Throwable", name := "<init>", desc := "(Ljava/lang/String;)V" } : Jvm.MethodName)) ∈ x_Wd := x_i1 238 (Eq.refl _) rfl
theorem q1_239 : (Jvm.Cond.selects "java/lang/IllegalArgumentException" ({ cls := "java/lang/Throwable", name := "fillInStackTrace", desc := "(I)Ljava/lang/Throwable;" } : Jvm.MethodName) ({ cls := "java/lang/Throwable", name := "fillInStackTrace", desc := "(I)Ljava/lang/Throwable;" } : Jvm.MethodName)) ∈ x_Wd := x_i1 239 (Eq.refl _) rfl
theorem q2_0 : (Jvm.Cond.selects "java/lang/IllegalArgumentException" ({ cls := "java/lang/Throwable", name := "fillInStackTrace", desc := "()Ljava/lang/Throwable;" } : Jvm.MethodName) ({ cls := "java/lang/Throwable", name := "fillInStackTrace", desc := "()Ljava/lang/Throwable;" } : Jvm.MethodName)) ∈ x_Wd := x_i2 0 (Eq.refl _) rfl
theorem q2_1 : (Jvm.Cond.lays "java/lang/IllegalArgumentException" "java/lang/Throwable" "cause" "Ljava/lang/Throwable;") ∈ x_Wd := x_i2 1 (Eq.refl _) rfl
theorem q2_2 : (Jvm.Cond.lays "java/lang/Throwable" "java/lang/Throwable" "cause" "Ljava/lang/Throwable;") ∈ x_Wd := x_i2 2 (Eq.refl _) rfl
theorem q2_3 : (Jvm.Cond.lays "java/lang/IllegalArgumentException" "java/lang/Throwable" "stackTrace" "[Ljava/lang/StackTraceElement;") ∈ x_Wd := x_i2 3 (Eq.refl _) rfl
theorem q2_4 : (Jvm.Cond.lays "java/lang/Throwable" "java/lang/Throwable" "stackTrace" "[Ljava/lang/StackTraceElement;") ∈ x_Wd := x_i2 4 (Eq.refl _) rfl
theorem q2_5 : (Jvm.Cond.lays "java/lang/IllegalArgumentException" "java/lang/Throwable" "suppressedExceptions" "Ljava/util/List;") ∈ x_Wd := x_i2 5 (Eq.refl _) rfl
theorem q2_6 : (Jvm.Cond.lays "java/lang/Throwable" "java/lang/Throwable" "suppressedExceptions" "Ljava/util/List;") ∈ x_Wd := x_i2 6 (Eq.refl _) rfl
theorem q2_7 : (Jvm.Cond.lays "java/lang/IllegalArgumentException" "java/lang/Throwable" "detailMessage" "Ljava/lang/String;") ∈ x_Wd := x_i2 7 (Eq.refl _) rfl
theorem q2_8 : (Jvm.Cond.lays "java/lang/Throwable" "java/lang/Throwable" "detailMessage" "Ljava/lang/String;") ∈ x_Wd := x_i2 8 (Eq.refl _) rfl
theorem q2_9 : (Jvm.Cond.lays "java/lang/IllegalArgumentException" "java/lang/Throwable" "backtrace" "Ljava/lang/Object;") ∈ x_Wd := x_i2 9 (Eq.refl _) rfl
theorem q2_10 : (Jvm.Cond.lays "java/lang/Throwable" "java/lang/Throwable" "backtrace" "Ljava/lang/Object;") ∈ x_Wd := x_i2 10 (Eq.refl _) rfl
theorem q2_11 : (Jvm.Cond.fieldLink "java/lang/Throwable" (198 : Nat) "java/lang/Throwable" "backtrace" "Ljava/lang/Object;") ∈ x_Wd := x_i2 11 (Eq.refl _) rfl
theorem q2_12 : (Jvm.Cond.superclass "java/lang/Throwable" "java/lang/Object") ∈ x_Wd := x_i2 12 (Eq.refl _) rfl
theorem q2_13 : (Jvm.Cond.instanceMethod ({ cls := "java/lang/Throwable", name := "<init>", desc := "()V" } : Jvm.MethodName)) ∈ x_Wd := x_i2 13 (Eq.refl _) rfl
theorem q2_14 : (Jvm.Cond.code ({ cls := "java/lang/Throwable", name := "<init>", desc := "()V" } : Jvm.MethodName) prog_31_method_1_code (1 : Nat) (Option.none : Option Jvm.ClassFile.FieldType)) ∈ x_Wd := x_i2 14 (Eq.refl _) rfl
theorem q2_15 : (Jvm.Cond.methodLink "java/lang/Throwable" (1 : Nat) ({ cls := "java/lang/Object", name := "<init>", desc := "()V" } : Jvm.MethodName)) ∈ x_Wd := x_i2 15 (Eq.refl _) rfl
theorem q2_16 : (Jvm.Cond.fieldLink "java/lang/Throwable" (13 : Nat) "java/lang/Throwable" "UNASSIGNED_STACK" "[Ljava/lang/StackTraceElement;") ∈ x_Wd := x_i2 16 (Eq.refl _) rfl
theorem q2_18 : (Jvm.Cond.fieldLink "java/lang/Throwable" (20 : Nat) "java/lang/Throwable" "SUPPRESSED_SENTINEL" "Ljava/util/List;") ∈ x_Wd := x_i2 18 (Eq.refl _) rfl
theorem q2_20 : (Jvm.Cond.methodLink "java/lang/Throwable" (27 : Nat) ({ cls := "java/lang/Throwable", name := "fillInStackTrace", desc := "()Ljava/lang/Throwable;" } : Jvm.MethodName)) ∈ x_Wd := x_i2 20 (Eq.refl _) rfl
theorem q2_21 : (Jvm.Cond.instanceMethod ({ cls := "java/lang/Throwable", name := "fillInStackTrace", desc := "()Ljava/lang/Throwable;" } : Jvm.MethodName)) ∈ x_Wd := x_i2 21 (Eq.refl _) rfl
theorem q2_22 : (Jvm.Cond.sameMethod "java/lang/Throwable" "java/lang/Throwable" "fillInStackTrace" "()Ljava/lang/Throwable;") ∈ x_Wd := x_i2 22 (Eq.refl _) rfl
theorem q2_23 : (Jvm.Cond.selects "java/lang/ArithmeticException" ({ cls := "java/lang/Throwable", name := "fillInStackTrace", desc := "()Ljava/lang/Throwable;" } : Jvm.MethodName) ({ cls := "java/lang/Throwable", name := "fillInStackTrace", desc := "()Ljava/lang/Throwable;" } : Jvm.MethodName)) ∈ x_Wd := x_i2 23 (Eq.refl _) rfl
theorem q2_24 : (Jvm.Cond.selects "java/lang/IllegalStateException" ({ cls := "java/lang/Throwable", name := "fillInStackTrace", desc := "()Ljava/lang/Throwable;" } : Jvm.MethodName) ({ cls := "java/lang/Throwable", name := "fillInStackTrace", desc := "()Ljava/lang/Throwable;" } : Jvm.MethodName)) ∈ x_Wd := x_i2 24 (Eq.refl _) rfl
theorem q2_25 : (Jvm.Cond.selects "java/lang/IndexOutOfBoundsException" ({ cls := "java/lang/Throwable", name := "fillInStackTrace", desc := "()Ljava/lang/Throwable;" } : Jvm.MethodName) ({ cls := "java/lang/Throwable", name := "fillInStackTrace", desc := "()Ljava/lang/Throwable;" } : Jvm.MethodName)) ∈ x_Wd := x_i2 25 (Eq.refl _) rfl
theorem q2_26 : (Jvm.Cond.selects "java/lang/UnsupportedOperationException" ({ cls := "java/lang/Throwable", name := "fillInStackTrace", desc := "()Ljava/lang/Throwable;" } : Jvm.MethodName) ({ cls := "java/lang/Throwable", name := "fillInStackTrace", desc := "()Ljava/lang/Throwable;" } : Jvm.MethodName)) ∈ x_Wd := x_i2 26 (Eq.refl _) rfl
theorem q2_27 : (Jvm.Cond.codeSync ({ cls := "java/lang/Throwable", name := "fillInStackTrace", desc := "()Ljava/lang/Throwable;" } : Jvm.MethodName) prog_31_method_18_code (1 : Nat) (Option.some (Jvm.ClassFile.FieldType.object "java/lang/Throwable"))) ∈ x_Wd := x_i2 27 (Eq.refl _) rfl
theorem q2_28 : (Jvm.Cond.methodLink "java/lang/Throwable" (202 : Nat) ({ cls := "java/lang/Throwable", name := "fillInStackTrace", desc := "(I)Ljava/lang/Throwable;" } : Jvm.MethodName)) ∈ x_Wd := x_i2 28 (Eq.refl _) rfl
theorem q2_29 : (Jvm.Cond.privateMethod ({ cls := "java/lang/Throwable", name := "fillInStackTrace", desc := "(I)Ljava/lang/Throwable;" } : Jvm.MethodName)) ∈ x_Wd := x_i2 29 (Eq.refl _) rfl
theorem q2_30 : (Jvm.Cond.instanceMethod ({ cls := "java/lang/Throwable", name := "fillInStackTrace", desc := "(I)Ljava/lang/Throwable;" } : Jvm.MethodName)) ∈ x_Wd := x_i2 30 (Eq.refl _) rfl
theorem q2_31 : (Jvm.Cond.instantiable "java/lang/Throwable" (6 : Nat)) ∈ x_Wd := x_i2 31 (Eq.refl _) rfl
theorem q2_32 : (Jvm.Cond.native ({ cls := "java/lang/Throwable", name := "fillInStackTrace", desc := "(I)Ljava/lang/Throwable;" } : Jvm.MethodName)) ∈ x_Wd := x_i2 32 (Eq.refl _) rfl
theorem q2_34 : (Jvm.Cond.methodLink "CashLink" (185 : Nat) ({ cls := "java/lang/IllegalArgumentException", name := "<init>", desc := "(Ljava/lang/String;)V" } : Jvm.MethodName)) ∈ x_Wd := x_i2 34 (Eq.refl _) rfl
theorem q2_35 : (Jvm.Cond.instanceMethod ({ cls := "java/lang/IllegalArgumentException", name := "<init>", desc := "(Ljava/lang/String;)V" } : Jvm.MethodName)) ∈ x_Wd := x_i2 35 (Eq.refl _) rfl
theorem q2_36 : (Jvm.Cond.code ({ cls := "java/lang/IllegalArgumentException", name := "<init>", desc := "(Ljava/lang/String;)V" } : Jvm.MethodName) prog_19_method_2_code (2 : Nat) (Option.none : Option Jvm.ClassFile.FieldType)) ∈ x_Wd := x_i2 36 (Eq.refl _) rfl
theorem q2_37 : (Jvm.Cond.methodLink "java/lang/IllegalArgumentException" (7 : Nat) ({ cls := "java/lang/RuntimeException", name := "<init>", desc := "(Ljava/lang/String;)V" } : Jvm.MethodName)) ∈ x_Wd := x_i2 37 (Eq.refl _) rfl
theorem q2_38 : (Jvm.Cond.instanceMethod ({ cls := "java/lang/RuntimeException", name := "<init>", desc := "(Ljava/lang/String;)V" } : Jvm.MethodName)) ∈ x_Wd := x_i2 38 (Eq.refl _) rfl
theorem q2_39 : (Jvm.Cond.code ({ cls := "java/lang/RuntimeException", name := "<init>", desc := "(Ljava/lang/String;)V" } : Jvm.MethodName) prog_25_method_2_code (2 : Nat) (Option.none : Option Jvm.ClassFile.FieldType)) ∈ x_Wd := x_i2 39 (Eq.refl _) rfl
theorem q2_40 : (Jvm.Cond.methodLink "java/lang/RuntimeException" (7 : Nat) ({ cls := "java/lang/Exception", name := "<init>", desc := "(Ljava/lang/String;)V" } : Jvm.MethodName)) ∈ x_Wd := x_i2 40 (Eq.refl _) rfl
theorem q2_41 : (Jvm.Cond.instanceMethod ({ cls := "java/lang/Exception", name := "<init>", desc := "(Ljava/lang/String;)V" } : Jvm.MethodName)) ∈ x_Wd := x_i2 41 (Eq.refl _) rfl
theorem q2_42 : (Jvm.Cond.code ({ cls := "java/lang/Exception", name := "<init>", desc := "(Ljava/lang/String;)V" } : Jvm.MethodName) prog_18_method_2_code (2 : Nat) (Option.none : Option Jvm.ClassFile.FieldType)) ∈ x_Wd := x_i2 42 (Eq.refl _) rfl
theorem q2_43 : (Jvm.Cond.methodLink "java/lang/Exception" (7 : Nat) ({ cls := "java/lang/Throwable", name := "<init>", desc := "(Ljava/lang/String;)V" } : Jvm.MethodName)) ∈ x_Wd := x_i2 43 (Eq.refl _) rfl
theorem q2_44 : (Jvm.Cond.instanceMethod ({ cls := "java/lang/Throwable", name := "<init>", desc := "(Ljava/lang/String;)V" } : Jvm.MethodName)) ∈ x_Wd := x_i2 44 (Eq.refl _) rfl
theorem q2_45 : (Jvm.Cond.code ({ cls := "java/lang/Throwable", name := "<init>", desc := "(Ljava/lang/String;)V" } : Jvm.MethodName) prog_31_method_2_code (2 : Nat) (Option.none : Option Jvm.ClassFile.FieldType)) ∈ x_Wd := x_i2 45 (Eq.refl _) rfl
theorem q2_46 : (Jvm.Cond.fieldLink "java/lang/Throwable" (198 : Nat) "java/lang/Throwable" "backtrace" "Ljava/lang/Object;") ∈ x_Wd := x_i2 46 (Eq.refl _) rfl
theorem q2_47 : (Jvm.Cond.fieldLink "java/lang/Throwable" (31 : Nat) "java/lang/Throwable" "detailMessage" "Ljava/lang/String;") ∈ x_Wd := x_i2 47 (Eq.refl _) rfl
theorem q2_48 : (Jvm.Cond.fieldLink "java/lang/Throwable" (7 : Nat) "java/lang/Throwable" "cause" "Ljava/lang/Throwable;") ∈ x_Wd := x_i2 48 (Eq.refl _) rfl
theorem q2_49 : (Jvm.Cond.fieldLink "java/lang/Throwable" (17 : Nat) "java/lang/Throwable" "stackTrace" "[Ljava/lang/StackTraceElement;") ∈ x_Wd := x_i2 49 (Eq.refl _) rfl
theorem q2_50 : (Jvm.Cond.fieldLink "java/lang/Throwable" (24 : Nat) "java/lang/Throwable" "suppressedExceptions" "Ljava/util/List;") ∈ x_Wd := x_i2 50 (Eq.refl _) rfl
theorem q2_51 : (Jvm.Cond.soleField "java/lang/Throwable" "backtrace") ∈ x_Wd := x_i2 51 (Eq.refl _) rfl
theorem q2_52 : (Jvm.Cond.soleField "java/lang/Throwable" "detailMessage") ∈ x_Wd := x_i2 52 (Eq.refl _) rfl
theorem q2_53 : (Jvm.Cond.soleField "java/lang/Throwable" "cause") ∈ x_Wd := x_i2 53 (Eq.refl _) rfl
theorem q2_54 : (Jvm.Cond.soleField "java/lang/Throwable" "stackTrace") ∈ x_Wd := x_i2 54 (Eq.refl _) rfl
theorem q2_55 : (Jvm.Cond.lays "java/lang/IllegalArgumentException" "java/lang/Throwable" "depth" "I") ∈ x_Wd := x_i2 55 (Eq.refl _) rfl
theorem q2_56 : (Jvm.Cond.soleField "java/lang/Throwable" "depth") ∈ x_Wd := x_i2 56 (Eq.refl _) rfl
theorem q2_57 : (Jvm.Cond.soleField "java/lang/Throwable" "suppressedExceptions") ∈ x_Wd := x_i2 57 (Eq.refl _) rfl
theorem q2_58 : (Jvm.Cond.superclass "java/lang/IllegalArgumentException" "java/lang/RuntimeException") ∈ x_Wd := x_i2 58 (Eq.refl _) rfl
theorem q2_74 : (Jvm.Cond.classLink "CashLink" (194 : Nat) "java/lang/IllegalStateException") ∈ x_Wd := x_i2 74 (Eq.refl _) rfl
theorem q2_75 : (Jvm.Cond.instantiable "java/lang/IllegalStateException" (6 : Nat)) ∈ x_Wd := x_i2 75 (Eq.refl _) rfl
theorem q2_76 : (Jvm.Cond.castable "java/lang/IllegalStateException" "java/lang/IllegalStateException") ∈ x_Wd := x_i2 76 (Eq.refl _) rfl
theorem q2_77 : (Jvm.Cond.selects "java/lang/IllegalStateException" ({ cls := "java/lang/Throwable", name := "fillInStackTrace", desc := "(I)Ljava/lang/Throwable;" } : Jvm.MethodName) ({ cls := "java/lang/Throwable", name := "fillInStackTrace", desc := "(I)Ljava/lang/Throwable;" } : Jvm.MethodName)) ∈ x_Wd := x_i2 77 (Eq.refl _) rfl
theorem q2_78 : (Jvm.Cond.lays "java/lang/IllegalStateException" "java/lang/Throwable" "cause" "Ljava/lang/Throwable;") ∈ x_Wd := x_i2 78 (Eq.refl _) rfl
theorem q2_79 : (Jvm.Cond.lays "java/lang/IllegalStateException" "java/lang/Throwable" "stackTrace" "[Ljava/lang/StackTraceElement;") ∈ x_Wd := x_i2 79 (Eq.refl _) rfl
theorem q2_80 : (Jvm.Cond.lays "java/lang/IllegalStateException" "java/lang/Throwable" "suppressedExceptions" "Ljava/util/List;") ∈ x_Wd := x_i2 80 (Eq.refl _) rfl
theorem q2_81 : (Jvm.Cond.lays "java/lang/IllegalStateException" "java/lang/Throwable" "detailMessage" "Ljava/lang/String;") ∈ x_Wd := x_i2 81 (Eq.refl _) rfl
theorem q2_82 : (Jvm.Cond.lays "java/lang/IllegalStateException" "java/lang/Throwable" "backtrace" "Ljava/lang/Object;") ∈ x_Wd := x_i2 82 (Eq.refl _) rfl
theorem q2_84 : (Jvm.Cond.methodLink "CashLink" (198 : Nat) ({ cls := "java/lang/IllegalStateException", name := "<init>", desc := "(Ljava/lang/String;)V" } : Jvm.MethodName)) ∈ x_Wd := x_i2 84 (Eq.refl _) rfl
theorem q2_85 : (Jvm.Cond.instanceMethod ({ cls := "java/lang/IllegalStateException", name := "<init>", desc := "(Ljava/lang/String;)V" } : Jvm.MethodName)) ∈ x_Wd := x_i2 85 (Eq.refl _) rfl
theorem q2_86 : (Jvm.Cond.code ({ cls := "java/lang/IllegalStateException", name := "<init>", desc := "(Ljava/lang/String;)V" } : Jvm.MethodName) prog_20_method_2_code (2 : Nat) (Option.none : Option Jvm.ClassFile.FieldType)) ∈ x_Wd := x_i2 86 (Eq.refl _) rfl
theorem q2_87 : (Jvm.Cond.methodLink "java/lang/IllegalStateException" (7 : Nat) ({ cls := "java/lang/RuntimeException", name := "<init>", desc := "(Ljava/lang/String;)V" } : Jvm.MethodName)) ∈ x_Wd := x_i2 87 (Eq.refl _) rfl
theorem q2_88 : (Jvm.Cond.lays "java/lang/IllegalStateException" "java/lang/Throwable" "depth" "I") ∈ x_Wd := x_i2 88 (Eq.refl _) rfl
theorem q2_89 : (Jvm.Cond.superclass "java/lang/IllegalStateException" "java/lang/RuntimeException") ∈ x_Wd := x_i2 89 (Eq.refl _) rfl
theorem q2_134 : (Jvm.Cond.classLink "CashLink$Machine" (87 : Nat) "java/lang/UnsupportedOperationException") ∈ x_Wd := x_i2 134 (Eq.refl _) rfl
theorem q2_135 : (Jvm.Cond.instantiable "java/lang/UnsupportedOperationException" (6 : Nat)) ∈ x_Wd := x_i2 135 (Eq.refl _) rfl
theorem q2_136 : (Jvm.Cond.castable "java/lang/UnsupportedOperationException" "java/lang/UnsupportedOperationException") ∈ x_Wd := x_i2 136 (Eq.refl _) rfl
theorem q2_137 : (Jvm.Cond.selects "java/lang/UnsupportedOperationException" ({ cls := "java/lang/Throwable", name := "fillInStackTrace", desc := "(I)Ljava/lang/Throwable;" } : Jvm.MethodName) ({ cls := "java/lang/Throwable", name := "fillInStackTrace", desc := "(I)Ljava/lang/Throwable;" } : Jvm.MethodName)) ∈ x_Wd := x_i2 137 (Eq.refl _) rfl
theorem q2_138 : (Jvm.Cond.lays "java/lang/UnsupportedOperationException" "java/lang/Throwable" "cause" "Ljava/lang/Throwable;") ∈ x_Wd := x_i2 138 (Eq.refl _) rfl
theorem q2_139 : (Jvm.Cond.lays "java/lang/UnsupportedOperationException" "java/lang/Throwable" "stackTrace" "[Ljava/lang/StackTraceElement;") ∈ x_Wd := x_i2 139 (Eq.refl _) rfl
theorem q2_140 : (Jvm.Cond.lays "java/lang/UnsupportedOperationException" "java/lang/Throwable" "suppressedExceptions" "Ljava/util/List;") ∈ x_Wd := x_i2 140 (Eq.refl _) rfl
theorem q2_141 : (Jvm.Cond.lays "java/lang/UnsupportedOperationException" "java/lang/Throwable" "detailMessage" "Ljava/lang/String;") ∈ x_Wd := x_i2 141 (Eq.refl _) rfl
theorem q2_142 : (Jvm.Cond.lays "java/lang/UnsupportedOperationException" "java/lang/Throwable" "backtrace" "Ljava/lang/Object;") ∈ x_Wd := x_i2 142 (Eq.refl _) rfl
theorem q2_144 : (Jvm.Cond.methodLink "CashLink$Machine" (91 : Nat) ({ cls := "java/lang/UnsupportedOperationException", name := "<init>", desc := "(Ljava/lang/String;)V" } : Jvm.MethodName)) ∈ x_Wd := x_i2 144 (Eq.refl _) rfl
theorem q2_145 : (Jvm.Cond.instanceMethod ({ cls := "java/lang/UnsupportedOperationException", name := "<init>", desc := "(Ljava/lang/String;)V" } : Jvm.MethodName)) ∈ x_Wd := x_i2 145 (Eq.refl _) rfl
theorem q2_146 : (Jvm.Cond.code ({ cls := "java/lang/UnsupportedOperationException", name := "<init>", desc := "(Ljava/lang/String;)V" } : Jvm.MethodName) prog_32_method_2_code (2 : Nat) (Option.none : Option Jvm.ClassFile.FieldType)) ∈ x_Wd := x_i2 146 (Eq.refl _) rfl
theorem q2_147 : (Jvm.Cond.methodLink "java/lang/UnsupportedOperationException" (7 : Nat) ({ cls := "java/lang/RuntimeException", name := "<init>", desc := "(Ljava/lang/String;)V" } : Jvm.MethodName)) ∈ x_Wd := x_i2 147 (Eq.refl _) rfl
theorem q2_148 : (Jvm.Cond.lays "java/lang/UnsupportedOperationException" "java/lang/Throwable" "depth" "I") ∈ x_Wd := x_i2 148 (Eq.refl _) rfl
theorem q2_149 : (Jvm.Cond.superclass "java/lang/UnsupportedOperationException" "java/lang/RuntimeException") ∈ x_Wd := x_i2 149 (Eq.refl _) rfl
theorem q2_225 : (Jvm.Cond.selects "java/lang/ArithmeticException" ({ cls := "java/lang/Object", name := "getClass", desc := "()Ljava/lang/Class;" } : Jvm.MethodName) ({ cls := "java/lang/Object", name := "getClass", desc := "()Ljava/lang/Class;" } : Jvm.MethodName)) ∈ x_Wd := x_i2 225 (Eq.refl _) rfl
theorem q2_226 : (Jvm.Cond.selects "java/lang/IllegalArgumentException" ({ cls := "java/lang/Object", name := "getClass", desc := "()Ljava/lang/Class;" } : Jvm.MethodName) ({ cls := "java/lang/Object", name := "getClass", desc := "()Ljava/lang/Class;" } : Jvm.MethodName)) ∈ x_Wd := x_i2 226 (Eq.refl _) rfl
theorem q2_227 : (Jvm.Cond.selects "java/lang/IllegalStateException" ({ cls := "java/lang/Object", name := "getClass", desc := "()Ljava/lang/Class;" } : Jvm.MethodName) ({ cls := "java/lang/Object", name := "getClass", desc := "()Ljava/lang/Class;" } : Jvm.MethodName)) ∈ x_Wd := x_i2 227 (Eq.refl _) rfl
theorem q2_228 : (Jvm.Cond.selects "java/lang/IndexOutOfBoundsException" ({ cls := "java/lang/Object", name := "getClass", desc := "()Ljava/lang/Class;" } : Jvm.MethodName) ({ cls := "java/lang/Object", name := "getClass", desc := "()Ljava/lang/Class;" } : Jvm.MethodName)) ∈ x_Wd := x_i2 228 (Eq.refl _) rfl
theorem q2_230 : (Jvm.Cond.selects "java/lang/UnsupportedOperationException" ({ cls := "java/lang/Object", name := "getClass", desc := "()Ljava/lang/Class;" } : Jvm.MethodName) ({ cls := "java/lang/Object", name := "getClass", desc := "()Ljava/lang/Class;" } : Jvm.MethodName)) ∈ x_Wd := x_i2 230 (Eq.refl _) rfl
theorem q3_5 : (Jvm.Cond.classLink "CashLink$Journal" (44 : Nat) "java/lang/ArithmeticException") ∈ x_Wd := x_i3 5 (Eq.refl _) rfl
theorem q3_6 : (Jvm.Cond.instantiable "java/lang/ArithmeticException" (6 : Nat)) ∈ x_Wd := x_i3 6 (Eq.refl _) rfl
theorem q3_7 : (Jvm.Cond.castable "java/lang/ArithmeticException" "java/lang/ArithmeticException") ∈ x_Wd := x_i3 7 (Eq.refl _) rfl
theorem q3_8 : (Jvm.Cond.selects "java/lang/ArithmeticException" ({ cls := "java/lang/Throwable", name := "fillInStackTrace", desc := "(I)Ljava/lang/Throwable;" } : Jvm.MethodName) ({ cls := "java/lang/Throwable", name := "fillInStackTrace", desc := "(I)Ljava/lang/Throwable;" } : Jvm.MethodName)) ∈ x_Wd := x_i3 8 (Eq.refl _) rfl
theorem q3_9 : (Jvm.Cond.lays "java/lang/ArithmeticException" "java/lang/Throwable" "cause" "Ljava/lang/Throwable;") ∈ x_Wd := x_i3 9 (Eq.refl _) rfl
theorem q3_10 : (Jvm.Cond.lays "java/lang/ArithmeticException" "java/lang/Throwable" "stackTrace" "[Ljava/lang/StackTraceElement;") ∈ x_Wd := x_i3 10 (Eq.refl _) rfl
theorem q3_11 : (Jvm.Cond.lays "java/lang/ArithmeticException" "java/lang/Throwable" "suppressedExceptions" "Ljava/util/List;") ∈ x_Wd := x_i3 11 (Eq.refl _) rfl
theorem q3_12 : (Jvm.Cond.lays "java/lang/ArithmeticException" "java/lang/Throwable" "detailMessage" "Ljava/lang/String;") ∈ x_Wd := x_i3 12 (Eq.refl _) rfl
theorem q3_13 : (Jvm.Cond.lays "java/lang/ArithmeticException" "java/lang/Throwable" "backtrace" "Ljava/lang/Object;") ∈ x_Wd := x_i3 13 (Eq.refl _) rfl
theorem q3_15 : (Jvm.Cond.methodLink "CashLink$Journal" (48 : Nat) ({ cls := "java/lang/ArithmeticException", name := "<init>", desc := "(Ljava/lang/String;)V" } : Jvm.MethodName)) ∈ x_Wd := x_i3 15 (Eq.refl _) rfl
theorem q3_16 : (Jvm.Cond.instanceMethod ({ cls := "java/lang/ArithmeticException", name := "<init>", desc := "(Ljava/lang/String;)V" } : Jvm.MethodName)) ∈ x_Wd := x_i3 16 (Eq.refl _) rfl
theorem q3_17 : (Jvm.Cond.code ({ cls := "java/lang/ArithmeticException", name := "<init>", desc := "(Ljava/lang/String;)V" } : Jvm.MethodName) prog_15_method_2_code (2 : Nat) (Option.none : Option Jvm.ClassFile.FieldType)) ∈ x_Wd := x_i3 17 (Eq.refl _) rfl
theorem q3_18 : (Jvm.Cond.methodLink "java/lang/ArithmeticException" (7 : Nat) ({ cls := "java/lang/RuntimeException", name := "<init>", desc := "(Ljava/lang/String;)V" } : Jvm.MethodName)) ∈ x_Wd := x_i3 18 (Eq.refl _) rfl
theorem q3_19 : (Jvm.Cond.lays "java/lang/ArithmeticException" "java/lang/Throwable" "depth" "I") ∈ x_Wd := x_i3 19 (Eq.refl _) rfl
theorem q3_20 : (Jvm.Cond.superclass "java/lang/ArithmeticException" "java/lang/RuntimeException") ∈ x_Wd := x_i3 20 (Eq.refl _) rfl
theorem q3_162 : (Jvm.Cond.classLink "CashLink" (137 : Nat) "java/lang/IndexOutOfBoundsException") ∈ x_Wd := x_i3 162 (Eq.refl _) rfl
theorem q3_163 : (Jvm.Cond.instantiable "java/lang/IndexOutOfBoundsException" (6 : Nat)) ∈ x_Wd := x_i3 163 (Eq.refl _) rfl
theorem q3_164 : (Jvm.Cond.castable "java/lang/IndexOutOfBoundsException" "java/lang/IndexOutOfBoundsException") ∈ x_Wd := x_i3 164 (Eq.refl _) rfl
theorem q3_165 : (Jvm.Cond.selects "java/lang/IndexOutOfBoundsException" ({ cls := "java/lang/Throwable", name := "fillInStackTrace", desc := "(I)Ljava/lang/Throwable;" } : Jvm.MethodName) ({ cls := "java/lang/Throwable", name := "fillInStackTrace", desc := "(I)Ljava/lang/Throwable;" } : Jvm.MethodName)) ∈ x_Wd := x_i3 165 (Eq.refl _) rfl
theorem q3_166 : (Jvm.Cond.lays "java/lang/IndexOutOfBoundsException" "java/lang/Throwable" "cause" "Ljava/lang/Throwable;") ∈ x_Wd := x_i3 166 (Eq.refl _) rfl
theorem q3_167 : (Jvm.Cond.lays "java/lang/IndexOutOfBoundsException" "java/lang/Throwable" "stackTrace" "[Ljava/lang/StackTraceElement;") ∈ x_Wd := x_i3 167 (Eq.refl _) rfl
theorem q3_168 : (Jvm.Cond.lays "java/lang/IndexOutOfBoundsException" "java/lang/Throwable" "suppressedExceptions" "Ljava/util/List;") ∈ x_Wd := x_i3 168 (Eq.refl _) rfl
theorem q3_169 : (Jvm.Cond.lays "java/lang/IndexOutOfBoundsException" "java/lang/Throwable" "detailMessage" "Ljava/lang/String;") ∈ x_Wd := x_i3 169 (Eq.refl _) rfl
theorem q3_170 : (Jvm.Cond.lays "java/lang/IndexOutOfBoundsException" "java/lang/Throwable" "backtrace" "Ljava/lang/Object;") ∈ x_Wd := x_i3 170 (Eq.refl _) rfl
theorem q3_172 : (Jvm.Cond.methodLink "CashLink" (141 : Nat) ({ cls := "java/lang/IndexOutOfBoundsException", name := "<init>", desc := "(Ljava/lang/String;)V" } : Jvm.MethodName)) ∈ x_Wd := x_i3 172 (Eq.refl _) rfl
theorem q3_173 : (Jvm.Cond.instanceMethod ({ cls := "java/lang/IndexOutOfBoundsException", name := "<init>", desc := "(Ljava/lang/String;)V" } : Jvm.MethodName)) ∈ x_Wd := x_i3 173 (Eq.refl _) rfl
theorem q3_174 : (Jvm.Cond.code ({ cls := "java/lang/IndexOutOfBoundsException", name := "<init>", desc := "(Ljava/lang/String;)V" } : Jvm.MethodName) prog_21_method_2_code (2 : Nat) (Option.none : Option Jvm.ClassFile.FieldType)) ∈ x_Wd := x_i3 174 (Eq.refl _) rfl
theorem q3_175 : (Jvm.Cond.methodLink "java/lang/IndexOutOfBoundsException" (7 : Nat) ({ cls := "java/lang/RuntimeException", name := "<init>", desc := "(Ljava/lang/String;)V" } : Jvm.MethodName)) ∈ x_Wd := x_i3 175 (Eq.refl _) rfl
theorem q3_176 : (Jvm.Cond.lays "java/lang/IndexOutOfBoundsException" "java/lang/Throwable" "depth" "I") ∈ x_Wd := x_i3 176 (Eq.refl _) rfl
theorem q3_177 : (Jvm.Cond.superclass "java/lang/IndexOutOfBoundsException" "java/lang/RuntimeException") ∈ x_Wd := x_i3 177 (Eq.refl _) rfl
theorem q6_111 : (Jvm.Cond.methodLink "CashLinkModel" (106 : Nat) ({ cls := "java/lang/ArithmeticException", name := "<init>", desc := "()V" } : Jvm.MethodName)) ∈ x_Wd := x_i6 111 (Eq.refl _) rfl
theorem q6_112 : (Jvm.Cond.instanceMethod ({ cls := "java/lang/ArithmeticException", name := "<init>", desc := "()V" } : Jvm.MethodName)) ∈ x_Wd := x_i6 112 (Eq.refl _) rfl
theorem q6_113 : (Jvm.Cond.code ({ cls := "java/lang/ArithmeticException", name := "<init>", desc := "()V" } : Jvm.MethodName) prog_15_method_1_code (1 : Nat) (Option.none : Option Jvm.ClassFile.FieldType)) ∈ x_Wd := x_i6 113 (Eq.refl _) rfl
theorem q6_114 : (Jvm.Cond.methodLink "java/lang/ArithmeticException" (1 : Nat) ({ cls := "java/lang/RuntimeException", name := "<init>", desc := "()V" } : Jvm.MethodName)) ∈ x_Wd := x_i6 114 (Eq.refl _) rfl
theorem q6_115 : (Jvm.Cond.instanceMethod ({ cls := "java/lang/RuntimeException", name := "<init>", desc := "()V" } : Jvm.MethodName)) ∈ x_Wd := x_i6 115 (Eq.refl _) rfl
theorem q6_116 : (Jvm.Cond.code ({ cls := "java/lang/RuntimeException", name := "<init>", desc := "()V" } : Jvm.MethodName) prog_25_method_1_code (1 : Nat) (Option.none : Option Jvm.ClassFile.FieldType)) ∈ x_Wd := x_i6 116 (Eq.refl _) rfl
theorem q6_117 : (Jvm.Cond.methodLink "java/lang/RuntimeException" (1 : Nat) ({ cls := "java/lang/Exception", name := "<init>", desc := "()V" } : Jvm.MethodName)) ∈ x_Wd := x_i6 117 (Eq.refl _) rfl
theorem q6_118 : (Jvm.Cond.instanceMethod ({ cls := "java/lang/Exception", name := "<init>", desc := "()V" } : Jvm.MethodName)) ∈ x_Wd := x_i6 118 (Eq.refl _) rfl
theorem q6_119 : (Jvm.Cond.code ({ cls := "java/lang/Exception", name := "<init>", desc := "()V" } : Jvm.MethodName) prog_18_method_1_code (1 : Nat) (Option.none : Option Jvm.ClassFile.FieldType)) ∈ x_Wd := x_i6 119 (Eq.refl _) rfl
theorem q6_120 : (Jvm.Cond.methodLink "java/lang/Exception" (1 : Nat) ({ cls := "java/lang/Throwable", name := "<init>", desc := "()V" } : Jvm.MethodName)) ∈ x_Wd := x_i6 120 (Eq.refl _) rfl
theorem q6_232 : (Jvm.Cond.sameMethod "java/lang/Throwable" "java/lang/Throwable" "fillInStackTrace" "(I)Ljava/lang/Throwable;") ∈ x_Wd := x_i6 232 (Eq.refl _) rfl
def x_ex : List Cond := [(Jvm.Cond.initialized "java/lang/Throwable"), (Jvm.Cond.initialized "java/lang/Exception"), (Jvm.Cond.initialized "java/lang/RuntimeException"), (Jvm.Cond.initialized "java/lang/IllegalArgumentException"), (Jvm.Cond.initialized "java/lang/IllegalStateException"), (Jvm.Cond.initialized "java/lang/UnsupportedOperationException"), (Jvm.Cond.initialized "java/lang/ArithmeticException"), (Jvm.Cond.initialized "java/lang/IndexOutOfBoundsException"), (Jvm.Cond.instanceMethod ({ cls := "java/lang/Object", name := "<init>", desc := "()V" } : Jvm.MethodName)), (Jvm.Cond.code ({ cls := "java/lang/Object", name := "<init>", desc := "()V" } : Jvm.MethodName) object_method_1_code (1 : Nat) (Option.none : Option Jvm.ClassFile.FieldType)), (Jvm.Cond.classLink "CashLinkLaw" (13 : Nat) "java/lang/IllegalArgumentException"), (Jvm.Cond.classLink "CashLinkLaw" (15 : Nat) "java/lang/IllegalStateException"), (Jvm.Cond.classLink "CashLink" (181 : Nat) "java/lang/IllegalArgumentException"), (Jvm.Cond.instantiable "java/lang/IllegalArgumentException" (6 : Nat)), (Jvm.Cond.castable "java/lang/IllegalArgumentException" "java/lang/IllegalArgumentException"), (Jvm.Cond.declares ({ cls := "java/lang/RuntimeException", name := "<init>", desc := "()V" } : Jvm.MethodName)), (Jvm.Cond.declares ({ cls := "java/lang/RuntimeException", name := "<init>", desc := "(Ljava/lang/String;)V" } : Jvm.MethodName)), (Jvm.Cond.declares ({ cls := "java/lang/Exception", name := "<init>", desc := "()V" } : Jvm.MethodName)), (Jvm.Cond.declares ({ cls := "java/lang/Exception", name := "<init>", desc := "(Ljava/lang/String;)V" } : Jvm.MethodName)), (Jvm.Cond.declares ({ cls := "java/lang/Throwable", name := "<init>", desc := "()V" } : Jvm.MethodName)), (Jvm.Cond.declares ({ cls := "java/lang/Throwable", name := "<init>", desc := "(Ljava/lang/String;)V" } : Jvm.MethodName)), (Jvm.Cond.selects "java/lang/IllegalArgumentException" ({ cls := "java/lang/Throwable", name := "fillInStackTrace", desc := "(I)Ljava/lang/Throwable;" } : Jvm.MethodName) ({ cls := "java/lang/Throwable", name := "fillInStackTrace", desc := "(I)Ljava/lang/Throwable;" } : Jvm.MethodName)), (Jvm.Cond.selects "java/lang/IllegalArgumentException" ({ cls := "java/lang/Throwable", name := "fillInStackTrace", desc := "()Ljava/lang/Throwable;" } : Jvm.MethodName) ({ cls := "java/lang/Throwable", name := "fillInStackTrace", desc := "()Ljava/lang/Throwable;" } : Jvm.MethodName)), (Jvm.Cond.lays "java/lang/IllegalArgumentException" "java/lang/Throwable" "cause" "Ljava/lang/Throwable;"), (Jvm.Cond.lays "java/lang/Throwable" "java/lang/Throwable" "cause" "Ljava/lang/Throwable;"), (Jvm.Cond.lays "java/lang/IllegalArgumentException" "java/lang/Throwable" "stackTrace" "[Ljava/lang/StackTraceElement;"), (Jvm.Cond.lays "java/lang/Throwable" "java/lang/Throwable" "stackTrace" "[Ljava/lang/StackTraceElement;"), (Jvm.Cond.lays "java/lang/IllegalArgumentException" "java/lang/Throwable" "suppressedExceptions" "Ljava/util/List;"), (Jvm.Cond.lays "java/lang/Throwable" "java/lang/Throwable" "suppressedExceptions" "Ljava/util/List;"), (Jvm.Cond.lays "java/lang/IllegalArgumentException" "java/lang/Throwable" "detailMessage" "Ljava/lang/String;"), (Jvm.Cond.lays "java/lang/Throwable" "java/lang/Throwable" "detailMessage" "Ljava/lang/String;"), (Jvm.Cond.lays "java/lang/IllegalArgumentException" "java/lang/Throwable" "backtrace" "Ljava/lang/Object;"), (Jvm.Cond.lays "java/lang/Throwable" "java/lang/Throwable" "backtrace" "Ljava/lang/Object;"), (Jvm.Cond.fieldLink "java/lang/Throwable" (198 : Nat) "java/lang/Throwable" "backtrace" "Ljava/lang/Object;"), (Jvm.Cond.superclass "java/lang/Throwable" "java/lang/Object"), (Jvm.Cond.instanceMethod ({ cls := "java/lang/Throwable", name := "<init>", desc := "()V" } : Jvm.MethodName)), (Jvm.Cond.code ({ cls := "java/lang/Throwable", name := "<init>", desc := "()V" } : Jvm.MethodName) prog_31_method_1_code (1 : Nat) (Option.none : Option Jvm.ClassFile.FieldType)), (Jvm.Cond.methodLink "java/lang/Throwable" (1 : Nat) ({ cls := "java/lang/Object", name := "<init>", desc := "()V" } : Jvm.MethodName)), (Jvm.Cond.fieldLink "java/lang/Throwable" (13 : Nat) "java/lang/Throwable" "UNASSIGNED_STACK" "[Ljava/lang/StackTraceElement;"), (Jvm.Cond.fieldLink "java/lang/Throwable" (20 : Nat) "java/lang/Throwable" "SUPPRESSED_SENTINEL" "Ljava/util/List;"), (Jvm.Cond.methodLink "java/lang/Throwable" (27 : Nat) ({ cls := "java/lang/Throwable", name := "fillInStackTrace", desc := "()Ljava/lang/Throwable;" } : Jvm.MethodName)), (Jvm.Cond.instanceMethod ({ cls := "java/lang/Throwable", name := "fillInStackTrace", desc := "()Ljava/lang/Throwable;" } : Jvm.MethodName)), (Jvm.Cond.sameMethod "java/lang/Throwable" "java/lang/Throwable" "fillInStackTrace" "()Ljava/lang/Throwable;"), (Jvm.Cond.selects "java/lang/ArithmeticException" ({ cls := "java/lang/Throwable", name := "fillInStackTrace", desc := "()Ljava/lang/Throwable;" } : Jvm.MethodName) ({ cls := "java/lang/Throwable", name := "fillInStackTrace", desc := "()Ljava/lang/Throwable;" } : Jvm.MethodName)), (Jvm.Cond.selects "java/lang/IllegalStateException" ({ cls := "java/lang/Throwable", name := "fillInStackTrace", desc := "()Ljava/lang/Throwable;" } : Jvm.MethodName) ({ cls := "java/lang/Throwable", name := "fillInStackTrace", desc := "()Ljava/lang/Throwable;" } : Jvm.MethodName)), (Jvm.Cond.selects "java/lang/IndexOutOfBoundsException" ({ cls := "java/lang/Throwable", name := "fillInStackTrace", desc := "()Ljava/lang/Throwable;" } : Jvm.MethodName) ({ cls := "java/lang/Throwable", name := "fillInStackTrace", desc := "()Ljava/lang/Throwable;" } : Jvm.MethodName)), (Jvm.Cond.selects "java/lang/UnsupportedOperationException" ({ cls := "java/lang/Throwable", name := "fillInStackTrace", desc := "()Ljava/lang/Throwable;" } : Jvm.MethodName) ({ cls := "java/lang/Throwable", name := "fillInStackTrace", desc := "()Ljava/lang/Throwable;" } : Jvm.MethodName)), (Jvm.Cond.codeSync ({ cls := "java/lang/Throwable", name := "fillInStackTrace", desc := "()Ljava/lang/Throwable;" } : Jvm.MethodName) prog_31_method_18_code (1 : Nat) (Option.some (Jvm.ClassFile.FieldType.object "java/lang/Throwable"))), (Jvm.Cond.methodLink "java/lang/Throwable" (202 : Nat) ({ cls := "java/lang/Throwable", name := "fillInStackTrace", desc := "(I)Ljava/lang/Throwable;" } : Jvm.MethodName)), (Jvm.Cond.privateMethod ({ cls := "java/lang/Throwable", name := "fillInStackTrace", desc := "(I)Ljava/lang/Throwable;" } : Jvm.MethodName)), (Jvm.Cond.instanceMethod ({ cls := "java/lang/Throwable", name := "fillInStackTrace", desc := "(I)Ljava/lang/Throwable;" } : Jvm.MethodName)), (Jvm.Cond.instantiable "java/lang/Throwable" (6 : Nat)), (Jvm.Cond.native ({ cls := "java/lang/Throwable", name := "fillInStackTrace", desc := "(I)Ljava/lang/Throwable;" } : Jvm.MethodName)), (Jvm.Cond.methodLink "CashLink" (185 : Nat) ({ cls := "java/lang/IllegalArgumentException", name := "<init>", desc := "(Ljava/lang/String;)V" } : Jvm.MethodName)), (Jvm.Cond.instanceMethod ({ cls := "java/lang/IllegalArgumentException", name := "<init>", desc := "(Ljava/lang/String;)V" } : Jvm.MethodName)), (Jvm.Cond.code ({ cls := "java/lang/IllegalArgumentException", name := "<init>", desc := "(Ljava/lang/String;)V" } : Jvm.MethodName) prog_19_method_2_code (2 : Nat) (Option.none : Option Jvm.ClassFile.FieldType)), (Jvm.Cond.methodLink "java/lang/IllegalArgumentException" (7 : Nat) ({ cls := "java/lang/RuntimeException", name := "<init>", desc := "(Ljava/lang/String;)V" } : Jvm.MethodName)), (Jvm.Cond.instanceMethod ({ cls := "java/lang/RuntimeException", name := "<init>", desc := "(Ljava/lang/String;)V" } : Jvm.MethodName)), (Jvm.Cond.code ({ cls := "java/lang/RuntimeException", name := "<init>", desc := "(Ljava/lang/String;)V" } : Jvm.MethodName) prog_25_method_2_code (2 : Nat) (Option.none : Option Jvm.ClassFile.FieldType)), (Jvm.Cond.methodLink "java/lang/RuntimeException" (7 : Nat) ({ cls := "java/lang/Exception", name := "<init>", desc := "(Ljava/lang/String;)V" } : Jvm.MethodName)), (Jvm.Cond.instanceMethod ({ cls := "java/lang/Exception", name := "<init>", desc := "(Ljava/lang/String;)V" } : Jvm.MethodName)), (Jvm.Cond.code ({ cls := "java/lang/Exception", name := "<init>", desc := "(Ljava/lang/String;)V" } : Jvm.MethodName) prog_18_method_2_code (2 : Nat) (Option.none : Option Jvm.ClassFile.FieldType)), (Jvm.Cond.methodLink "java/lang/Exception" (7 : Nat) ({ cls := "java/lang/Throwable", name := "<init>", desc := "(Ljava/lang/String;)V" } : Jvm.MethodName)), (Jvm.Cond.instanceMethod ({ cls := "java/lang/Throwable", name := "<init>", desc := "(Ljava/lang/String;)V" } : Jvm.MethodName)), (Jvm.Cond.code ({ cls := "java/lang/Throwable", name := "<init>", desc := "(Ljava/lang/String;)V" } : Jvm.MethodName) prog_31_method_2_code (2 : Nat) (Option.none : Option Jvm.ClassFile.FieldType)), (Jvm.Cond.fieldLink "java/lang/Throwable" (198 : Nat) "java/lang/Throwable" "backtrace" "Ljava/lang/Object;"), (Jvm.Cond.fieldLink "java/lang/Throwable" (31 : Nat) "java/lang/Throwable" "detailMessage" "Ljava/lang/String;"), (Jvm.Cond.fieldLink "java/lang/Throwable" (7 : Nat) "java/lang/Throwable" "cause" "Ljava/lang/Throwable;"), (Jvm.Cond.fieldLink "java/lang/Throwable" (17 : Nat) "java/lang/Throwable" "stackTrace" "[Ljava/lang/StackTraceElement;"), (Jvm.Cond.fieldLink "java/lang/Throwable" (24 : Nat) "java/lang/Throwable" "suppressedExceptions" "Ljava/util/List;"), (Jvm.Cond.soleField "java/lang/Throwable" "backtrace"), (Jvm.Cond.soleField "java/lang/Throwable" "detailMessage"), (Jvm.Cond.soleField "java/lang/Throwable" "cause"), (Jvm.Cond.soleField "java/lang/Throwable" "stackTrace"), (Jvm.Cond.lays "java/lang/IllegalArgumentException" "java/lang/Throwable" "depth" "I"), (Jvm.Cond.soleField "java/lang/Throwable" "depth"), (Jvm.Cond.soleField "java/lang/Throwable" "suppressedExceptions"), (Jvm.Cond.superclass "java/lang/IllegalArgumentException" "java/lang/RuntimeException"), (Jvm.Cond.classLink "CashLink" (194 : Nat) "java/lang/IllegalStateException"), (Jvm.Cond.instantiable "java/lang/IllegalStateException" (6 : Nat)), (Jvm.Cond.castable "java/lang/IllegalStateException" "java/lang/IllegalStateException"), (Jvm.Cond.selects "java/lang/IllegalStateException" ({ cls := "java/lang/Throwable", name := "fillInStackTrace", desc := "(I)Ljava/lang/Throwable;" } : Jvm.MethodName) ({ cls := "java/lang/Throwable", name := "fillInStackTrace", desc := "(I)Ljava/lang/Throwable;" } : Jvm.MethodName)), (Jvm.Cond.lays "java/lang/IllegalStateException" "java/lang/Throwable" "cause" "Ljava/lang/Throwable;"), (Jvm.Cond.lays "java/lang/IllegalStateException" "java/lang/Throwable" "stackTrace" "[Ljava/lang/StackTraceElement;"), (Jvm.Cond.lays "java/lang/IllegalStateException" "java/lang/Throwable" "suppressedExceptions" "Ljava/util/List;"), (Jvm.Cond.lays "java/lang/IllegalStateException" "java/lang/Throwable" "detailMessage" "Ljava/lang/String;"), (Jvm.Cond.lays "java/lang/IllegalStateException" "java/lang/Throwable" "backtrace" "Ljava/lang/Object;"), (Jvm.Cond.methodLink "CashLink" (198 : Nat) ({ cls := "java/lang/IllegalStateException", name := "<init>", desc := "(Ljava/lang/String;)V" } : Jvm.MethodName)), (Jvm.Cond.instanceMethod ({ cls := "java/lang/IllegalStateException", name := "<init>", desc := "(Ljava/lang/String;)V" } : Jvm.MethodName)), (Jvm.Cond.code ({ cls := "java/lang/IllegalStateException", name := "<init>", desc := "(Ljava/lang/String;)V" } : Jvm.MethodName) prog_20_method_2_code (2 : Nat) (Option.none : Option Jvm.ClassFile.FieldType)), (Jvm.Cond.methodLink "java/lang/IllegalStateException" (7 : Nat) ({ cls := "java/lang/RuntimeException", name := "<init>", desc := "(Ljava/lang/String;)V" } : Jvm.MethodName)), (Jvm.Cond.lays "java/lang/IllegalStateException" "java/lang/Throwable" "depth" "I"), (Jvm.Cond.superclass "java/lang/IllegalStateException" "java/lang/RuntimeException"), (Jvm.Cond.classLink "CashLinkLaw" (25 : Nat) "java/lang/UnsupportedOperationException"), (Jvm.Cond.classLink "CashLinkLaw" (27 : Nat) "java/lang/ArithmeticException"), (Jvm.Cond.classLink "CashLink$Machine" (87 : Nat) "java/lang/UnsupportedOperationException"), (Jvm.Cond.instantiable "java/lang/UnsupportedOperationException" (6 : Nat)), (Jvm.Cond.castable "java/lang/UnsupportedOperationException" "java/lang/UnsupportedOperationException"), (Jvm.Cond.selects "java/lang/UnsupportedOperationException" ({ cls := "java/lang/Throwable", name := "fillInStackTrace", desc := "(I)Ljava/lang/Throwable;" } : Jvm.MethodName) ({ cls := "java/lang/Throwable", name := "fillInStackTrace", desc := "(I)Ljava/lang/Throwable;" } : Jvm.MethodName)), (Jvm.Cond.lays "java/lang/UnsupportedOperationException" "java/lang/Throwable" "cause" "Ljava/lang/Throwable;"), (Jvm.Cond.lays "java/lang/UnsupportedOperationException" "java/lang/Throwable" "stackTrace" "[Ljava/lang/StackTraceElement;"), (Jvm.Cond.lays "java/lang/UnsupportedOperationException" "java/lang/Throwable" "suppressedExceptions" "Ljava/util/List;"), (Jvm.Cond.lays "java/lang/UnsupportedOperationException" "java/lang/Throwable" "detailMessage" "Ljava/lang/String;"), (Jvm.Cond.lays "java/lang/UnsupportedOperationException" "java/lang/Throwable" "backtrace" "Ljava/lang/Object;"), (Jvm.Cond.methodLink "CashLink$Machine" (91 : Nat) ({ cls := "java/lang/UnsupportedOperationException", name := "<init>", desc := "(Ljava/lang/String;)V" } : Jvm.MethodName)), (Jvm.Cond.instanceMethod ({ cls := "java/lang/UnsupportedOperationException", name := "<init>", desc := "(Ljava/lang/String;)V" } : Jvm.MethodName)), (Jvm.Cond.code ({ cls := "java/lang/UnsupportedOperationException", name := "<init>", desc := "(Ljava/lang/String;)V" } : Jvm.MethodName) prog_32_method_2_code (2 : Nat) (Option.none : Option Jvm.ClassFile.FieldType)), (Jvm.Cond.methodLink "java/lang/UnsupportedOperationException" (7 : Nat) ({ cls := "java/lang/RuntimeException", name := "<init>", desc := "(Ljava/lang/String;)V" } : Jvm.MethodName)), (Jvm.Cond.lays "java/lang/UnsupportedOperationException" "java/lang/Throwable" "depth" "I"), (Jvm.Cond.superclass "java/lang/UnsupportedOperationException" "java/lang/RuntimeException"), (Jvm.Cond.selects "java/lang/ArithmeticException" ({ cls := "java/lang/Object", name := "getClass", desc := "()Ljava/lang/Class;" } : Jvm.MethodName) ({ cls := "java/lang/Object", name := "getClass", desc := "()Ljava/lang/Class;" } : Jvm.MethodName)), (Jvm.Cond.selects "java/lang/IllegalArgumentException" ({ cls := "java/lang/Object", name := "getClass", desc := "()Ljava/lang/Class;" } : Jvm.MethodName) ({ cls := "java/lang/Object", name := "getClass", desc := "()Ljava/lang/Class;" } : Jvm.MethodName)), (Jvm.Cond.selects "java/lang/IllegalStateException" ({ cls := "java/lang/Object", name := "getClass", desc := "()Ljava/lang/Class;" } : Jvm.MethodName) ({ cls := "java/lang/Object", name := "getClass", desc := "()Ljava/lang/Class;" } : Jvm.MethodName)), (Jvm.Cond.selects "java/lang/IndexOutOfBoundsException" ({ cls := "java/lang/Object", name := "getClass", desc := "()Ljava/lang/Class;" } : Jvm.MethodName) ({ cls := "java/lang/Object", name := "getClass", desc := "()Ljava/lang/Class;" } : Jvm.MethodName)), (Jvm.Cond.selects "java/lang/UnsupportedOperationException" ({ cls := "java/lang/Object", name := "getClass", desc := "()Ljava/lang/Class;" } : Jvm.MethodName) ({ cls := "java/lang/Object", name := "getClass", desc := "()Ljava/lang/Class;" } : Jvm.MethodName)), (Jvm.Cond.classLink "CashLink$Journal" (44 : Nat) "java/lang/ArithmeticException"), (Jvm.Cond.instantiable "java/lang/ArithmeticException" (6 : Nat)), (Jvm.Cond.castable "java/lang/ArithmeticException" "java/lang/ArithmeticException"), (Jvm.Cond.selects "java/lang/ArithmeticException" ({ cls := "java/lang/Throwable", name := "fillInStackTrace", desc := "(I)Ljava/lang/Throwable;" } : Jvm.MethodName) ({ cls := "java/lang/Throwable", name := "fillInStackTrace", desc := "(I)Ljava/lang/Throwable;" } : Jvm.MethodName)), (Jvm.Cond.lays "java/lang/ArithmeticException" "java/lang/Throwable" "cause" "Ljava/lang/Throwable;"), (Jvm.Cond.lays "java/lang/ArithmeticException" "java/lang/Throwable" "stackTrace" "[Ljava/lang/StackTraceElement;"), (Jvm.Cond.lays "java/lang/ArithmeticException" "java/lang/Throwable" "suppressedExceptions" "Ljava/util/List;"), (Jvm.Cond.lays "java/lang/ArithmeticException" "java/lang/Throwable" "detailMessage" "Ljava/lang/String;"), (Jvm.Cond.lays "java/lang/ArithmeticException" "java/lang/Throwable" "backtrace" "Ljava/lang/Object;"), (Jvm.Cond.methodLink "CashLink$Journal" (48 : Nat) ({ cls := "java/lang/ArithmeticException", name := "<init>", desc := "(Ljava/lang/String;)V" } : Jvm.MethodName)), (Jvm.Cond.instanceMethod ({ cls := "java/lang/ArithmeticException", name := "<init>", desc := "(Ljava/lang/String;)V" } : Jvm.MethodName)), (Jvm.Cond.code ({ cls := "java/lang/ArithmeticException", name := "<init>", desc := "(Ljava/lang/String;)V" } : Jvm.MethodName) prog_15_method_2_code (2 : Nat) (Option.none : Option Jvm.ClassFile.FieldType)), (Jvm.Cond.methodLink "java/lang/ArithmeticException" (7 : Nat) ({ cls := "java/lang/RuntimeException", name := "<init>", desc := "(Ljava/lang/String;)V" } : Jvm.MethodName)), (Jvm.Cond.lays "java/lang/ArithmeticException" "java/lang/Throwable" "depth" "I"), (Jvm.Cond.superclass "java/lang/ArithmeticException" "java/lang/RuntimeException"), (Jvm.Cond.classLink "CashLinkLaw" (43 : Nat) "java/lang/IndexOutOfBoundsException"), (Jvm.Cond.classLink "CashLink" (137 : Nat) "java/lang/IndexOutOfBoundsException"), (Jvm.Cond.instantiable "java/lang/IndexOutOfBoundsException" (6 : Nat)), (Jvm.Cond.castable "java/lang/IndexOutOfBoundsException" "java/lang/IndexOutOfBoundsException"), (Jvm.Cond.selects "java/lang/IndexOutOfBoundsException" ({ cls := "java/lang/Throwable", name := "fillInStackTrace", desc := "(I)Ljava/lang/Throwable;" } : Jvm.MethodName) ({ cls := "java/lang/Throwable", name := "fillInStackTrace", desc := "(I)Ljava/lang/Throwable;" } : Jvm.MethodName)), (Jvm.Cond.lays "java/lang/IndexOutOfBoundsException" "java/lang/Throwable" "cause" "Ljava/lang/Throwable;"), (Jvm.Cond.lays "java/lang/IndexOutOfBoundsException" "java/lang/Throwable" "stackTrace" "[Ljava/lang/StackTraceElement;"), (Jvm.Cond.lays "java/lang/IndexOutOfBoundsException" "java/lang/Throwable" "suppressedExceptions" "Ljava/util/List;"), (Jvm.Cond.lays "java/lang/IndexOutOfBoundsException" "java/lang/Throwable" "detailMessage" "Ljava/lang/String;"), (Jvm.Cond.lays "java/lang/IndexOutOfBoundsException" "java/lang/Throwable" "backtrace" "Ljava/lang/Object;"), (Jvm.Cond.methodLink "CashLink" (141 : Nat) ({ cls := "java/lang/IndexOutOfBoundsException", name := "<init>", desc := "(Ljava/lang/String;)V" } : Jvm.MethodName)), (Jvm.Cond.instanceMethod ({ cls := "java/lang/IndexOutOfBoundsException", name := "<init>", desc := "(Ljava/lang/String;)V" } : Jvm.MethodName)), (Jvm.Cond.code ({ cls := "java/lang/IndexOutOfBoundsException", name := "<init>", desc := "(Ljava/lang/String;)V" } : Jvm.MethodName) prog_21_method_2_code (2 : Nat) (Option.none : Option Jvm.ClassFile.FieldType)), (Jvm.Cond.methodLink "java/lang/IndexOutOfBoundsException" (7 : Nat) ({ cls := "java/lang/RuntimeException", name := "<init>", desc := "(Ljava/lang/String;)V" } : Jvm.MethodName)), (Jvm.Cond.lays "java/lang/IndexOutOfBoundsException" "java/lang/Throwable" "depth" "I"), (Jvm.Cond.superclass "java/lang/IndexOutOfBoundsException" "java/lang/RuntimeException"), (Jvm.Cond.classLink "CashLinkModel" (104 : Nat) "java/lang/ArithmeticException"), (Jvm.Cond.methodLink "CashLinkModel" (106 : Nat) ({ cls := "java/lang/ArithmeticException", name := "<init>", desc := "()V" } : Jvm.MethodName)), (Jvm.Cond.instanceMethod ({ cls := "java/lang/ArithmeticException", name := "<init>", desc := "()V" } : Jvm.MethodName)), (Jvm.Cond.code ({ cls := "java/lang/ArithmeticException", name := "<init>", desc := "()V" } : Jvm.MethodName) prog_15_method_1_code (1 : Nat) (Option.none : Option Jvm.ClassFile.FieldType)), (Jvm.Cond.methodLink "java/lang/ArithmeticException" (1 : Nat) ({ cls := "java/lang/RuntimeException", name := "<init>", desc := "()V" } : Jvm.MethodName)), (Jvm.Cond.instanceMethod ({ cls := "java/lang/RuntimeException", name := "<init>", desc := "()V" } : Jvm.MethodName)), (Jvm.Cond.code ({ cls := "java/lang/RuntimeException", name := "<init>", desc := "()V" } : Jvm.MethodName) prog_25_method_1_code (1 : Nat) (Option.none : Option Jvm.ClassFile.FieldType)), (Jvm.Cond.methodLink "java/lang/RuntimeException" (1 : Nat) ({ cls := "java/lang/Exception", name := "<init>", desc := "()V" } : Jvm.MethodName)), (Jvm.Cond.instanceMethod ({ cls := "java/lang/Exception", name := "<init>", desc := "()V" } : Jvm.MethodName)), (Jvm.Cond.code ({ cls := "java/lang/Exception", name := "<init>", desc := "()V" } : Jvm.MethodName) prog_18_method_1_code (1 : Nat) (Option.none : Option Jvm.ClassFile.FieldType)), (Jvm.Cond.methodLink "java/lang/Exception" (1 : Nat) ({ cls := "java/lang/Throwable", name := "<init>", desc := "()V" } : Jvm.MethodName)), (Jvm.Cond.sameMethod "java/lang/Throwable" "java/lang/Throwable" "fillInStackTrace" "(I)Ljava/lang/Throwable;")]
theorem x_exin : ∀ w ∈ x_ex, w ∈ x_Wd := by
  unfold x_ex
  refine List.forall_mem_cons.mpr ⟨q1_13, ?_⟩
  refine List.forall_mem_cons.mpr ⟨q1_14, ?_⟩
  refine List.forall_mem_cons.mpr ⟨q1_15, ?_⟩
  refine List.forall_mem_cons.mpr ⟨q1_16, ?_⟩
  refine List.forall_mem_cons.mpr ⟨q1_17, ?_⟩
  refine List.forall_mem_cons.mpr ⟨q1_19, ?_⟩
  refine List.forall_mem_cons.mpr ⟨q1_25, ?_⟩
  refine List.forall_mem_cons.mpr ⟨q1_30, ?_⟩
  refine List.forall_mem_cons.mpr ⟨q1_42, ?_⟩
  refine List.forall_mem_cons.mpr ⟨q1_43, ?_⟩
  refine List.forall_mem_cons.mpr ⟨q1_217, ?_⟩
  refine List.forall_mem_cons.mpr ⟨q1_218, ?_⟩
  refine List.forall_mem_cons.mpr ⟨q1_230, ?_⟩
  refine List.forall_mem_cons.mpr ⟨q1_231, ?_⟩
  refine List.forall_mem_cons.mpr ⟨q1_232, ?_⟩
  refine List.forall_mem_cons.mpr ⟨q1_233, ?_⟩
  refine List.forall_mem_cons.mpr ⟨q1_234, ?_⟩
  refine List.forall_mem_cons.mpr ⟨q1_235, ?_⟩
  refine List.forall_mem_cons.mpr ⟨q1_236, ?_⟩
  refine List.forall_mem_cons.mpr ⟨q1_237, ?_⟩
  refine List.forall_mem_cons.mpr ⟨q1_238, ?_⟩
  refine List.forall_mem_cons.mpr ⟨q1_239, ?_⟩
  refine List.forall_mem_cons.mpr ⟨q2_0, ?_⟩
  refine List.forall_mem_cons.mpr ⟨q2_1, ?_⟩
  refine List.forall_mem_cons.mpr ⟨q2_2, ?_⟩
  refine List.forall_mem_cons.mpr ⟨q2_3, ?_⟩
  refine List.forall_mem_cons.mpr ⟨q2_4, ?_⟩
  refine List.forall_mem_cons.mpr ⟨q2_5, ?_⟩
  refine List.forall_mem_cons.mpr ⟨q2_6, ?_⟩
  refine List.forall_mem_cons.mpr ⟨q2_7, ?_⟩
  refine List.forall_mem_cons.mpr ⟨q2_8, ?_⟩
  refine List.forall_mem_cons.mpr ⟨q2_9, ?_⟩
  refine List.forall_mem_cons.mpr ⟨q2_10, ?_⟩
  refine List.forall_mem_cons.mpr ⟨q2_11, ?_⟩
  refine List.forall_mem_cons.mpr ⟨q2_12, ?_⟩
  refine List.forall_mem_cons.mpr ⟨q2_13, ?_⟩
  refine List.forall_mem_cons.mpr ⟨q2_14, ?_⟩
  refine List.forall_mem_cons.mpr ⟨q2_15, ?_⟩
  refine List.forall_mem_cons.mpr ⟨q2_16, ?_⟩
  refine List.forall_mem_cons.mpr ⟨q2_18, ?_⟩
  refine List.forall_mem_cons.mpr ⟨q2_20, ?_⟩
  refine List.forall_mem_cons.mpr ⟨q2_21, ?_⟩
  refine List.forall_mem_cons.mpr ⟨q2_22, ?_⟩
  refine List.forall_mem_cons.mpr ⟨q2_23, ?_⟩
  refine List.forall_mem_cons.mpr ⟨q2_24, ?_⟩
  refine List.forall_mem_cons.mpr ⟨q2_25, ?_⟩
  refine List.forall_mem_cons.mpr ⟨q2_26, ?_⟩
  refine List.forall_mem_cons.mpr ⟨q2_27, ?_⟩
  refine List.forall_mem_cons.mpr ⟨q2_28, ?_⟩
  refine List.forall_mem_cons.mpr ⟨q2_29, ?_⟩
  refine List.forall_mem_cons.mpr ⟨q2_30, ?_⟩
  refine List.forall_mem_cons.mpr ⟨q2_31, ?_⟩
  refine List.forall_mem_cons.mpr ⟨q2_32, ?_⟩
  refine List.forall_mem_cons.mpr ⟨q2_34, ?_⟩
  refine List.forall_mem_cons.mpr ⟨q2_35, ?_⟩
  refine List.forall_mem_cons.mpr ⟨q2_36, ?_⟩
  refine List.forall_mem_cons.mpr ⟨q2_37, ?_⟩
  refine List.forall_mem_cons.mpr ⟨q2_38, ?_⟩
  refine List.forall_mem_cons.mpr ⟨q2_39, ?_⟩
  refine List.forall_mem_cons.mpr ⟨q2_40, ?_⟩
  refine List.forall_mem_cons.mpr ⟨q2_41, ?_⟩
  refine List.forall_mem_cons.mpr ⟨q2_42, ?_⟩
  refine List.forall_mem_cons.mpr ⟨q2_43, ?_⟩
  refine List.forall_mem_cons.mpr ⟨q2_44, ?_⟩
  refine List.forall_mem_cons.mpr ⟨q2_45, ?_⟩
  refine List.forall_mem_cons.mpr ⟨q2_46, ?_⟩
  refine List.forall_mem_cons.mpr ⟨q2_47, ?_⟩
  refine List.forall_mem_cons.mpr ⟨q2_48, ?_⟩
  refine List.forall_mem_cons.mpr ⟨q2_49, ?_⟩
  refine List.forall_mem_cons.mpr ⟨q2_50, ?_⟩
  refine List.forall_mem_cons.mpr ⟨q2_51, ?_⟩
  refine List.forall_mem_cons.mpr ⟨q2_52, ?_⟩
  refine List.forall_mem_cons.mpr ⟨q2_53, ?_⟩
  refine List.forall_mem_cons.mpr ⟨q2_54, ?_⟩
  refine List.forall_mem_cons.mpr ⟨q2_55, ?_⟩
  refine List.forall_mem_cons.mpr ⟨q2_56, ?_⟩
  refine List.forall_mem_cons.mpr ⟨q2_57, ?_⟩
  refine List.forall_mem_cons.mpr ⟨q2_58, ?_⟩
  refine List.forall_mem_cons.mpr ⟨q2_74, ?_⟩
  refine List.forall_mem_cons.mpr ⟨q2_75, ?_⟩
  refine List.forall_mem_cons.mpr ⟨q2_76, ?_⟩
  refine List.forall_mem_cons.mpr ⟨q2_77, ?_⟩
  refine List.forall_mem_cons.mpr ⟨q2_78, ?_⟩
  refine List.forall_mem_cons.mpr ⟨q2_79, ?_⟩
  refine List.forall_mem_cons.mpr ⟨q2_80, ?_⟩
  refine List.forall_mem_cons.mpr ⟨q2_81, ?_⟩
  refine List.forall_mem_cons.mpr ⟨q2_82, ?_⟩
  refine List.forall_mem_cons.mpr ⟨q2_84, ?_⟩
  refine List.forall_mem_cons.mpr ⟨q2_85, ?_⟩
  refine List.forall_mem_cons.mpr ⟨q2_86, ?_⟩
  refine List.forall_mem_cons.mpr ⟨q2_87, ?_⟩
  refine List.forall_mem_cons.mpr ⟨q2_88, ?_⟩
  refine List.forall_mem_cons.mpr ⟨q2_89, ?_⟩
  refine List.forall_mem_cons.mpr ⟨q2_108, ?_⟩
  refine List.forall_mem_cons.mpr ⟨q2_109, ?_⟩
  refine List.forall_mem_cons.mpr ⟨q2_134, ?_⟩
  refine List.forall_mem_cons.mpr ⟨q2_135, ?_⟩
  refine List.forall_mem_cons.mpr ⟨q2_136, ?_⟩
  refine List.forall_mem_cons.mpr ⟨q2_137, ?_⟩
  refine List.forall_mem_cons.mpr ⟨q2_138, ?_⟩
  refine List.forall_mem_cons.mpr ⟨q2_139, ?_⟩
  refine List.forall_mem_cons.mpr ⟨q2_140, ?_⟩
  refine List.forall_mem_cons.mpr ⟨q2_141, ?_⟩
  refine List.forall_mem_cons.mpr ⟨q2_142, ?_⟩
  refine List.forall_mem_cons.mpr ⟨q2_144, ?_⟩
  refine List.forall_mem_cons.mpr ⟨q2_145, ?_⟩
  refine List.forall_mem_cons.mpr ⟨q2_146, ?_⟩
  refine List.forall_mem_cons.mpr ⟨q2_147, ?_⟩
  refine List.forall_mem_cons.mpr ⟨q2_148, ?_⟩
  refine List.forall_mem_cons.mpr ⟨q2_149, ?_⟩
  refine List.forall_mem_cons.mpr ⟨q2_225, ?_⟩
  refine List.forall_mem_cons.mpr ⟨q2_226, ?_⟩
  refine List.forall_mem_cons.mpr ⟨q2_227, ?_⟩
  refine List.forall_mem_cons.mpr ⟨q2_228, ?_⟩
  refine List.forall_mem_cons.mpr ⟨q2_230, ?_⟩
  refine List.forall_mem_cons.mpr ⟨q3_5, ?_⟩
  refine List.forall_mem_cons.mpr ⟨q3_6, ?_⟩
  refine List.forall_mem_cons.mpr ⟨q3_7, ?_⟩
  refine List.forall_mem_cons.mpr ⟨q3_8, ?_⟩
  refine List.forall_mem_cons.mpr ⟨q3_9, ?_⟩
  refine List.forall_mem_cons.mpr ⟨q3_10, ?_⟩
  refine List.forall_mem_cons.mpr ⟨q3_11, ?_⟩
  refine List.forall_mem_cons.mpr ⟨q3_12, ?_⟩
  refine List.forall_mem_cons.mpr ⟨q3_13, ?_⟩
  refine List.forall_mem_cons.mpr ⟨q3_15, ?_⟩
  refine List.forall_mem_cons.mpr ⟨q3_16, ?_⟩
  refine List.forall_mem_cons.mpr ⟨q3_17, ?_⟩
  refine List.forall_mem_cons.mpr ⟨q3_18, ?_⟩
  refine List.forall_mem_cons.mpr ⟨q3_19, ?_⟩
  refine List.forall_mem_cons.mpr ⟨q3_20, ?_⟩
  refine List.forall_mem_cons.mpr ⟨q3_149, ?_⟩
  refine List.forall_mem_cons.mpr ⟨q3_162, ?_⟩
  refine List.forall_mem_cons.mpr ⟨q3_163, ?_⟩
  refine List.forall_mem_cons.mpr ⟨q3_164, ?_⟩
  refine List.forall_mem_cons.mpr ⟨q3_165, ?_⟩
  refine List.forall_mem_cons.mpr ⟨q3_166, ?_⟩
  refine List.forall_mem_cons.mpr ⟨q3_167, ?_⟩
  refine List.forall_mem_cons.mpr ⟨q3_168, ?_⟩
  refine List.forall_mem_cons.mpr ⟨q3_169, ?_⟩
  refine List.forall_mem_cons.mpr ⟨q3_170, ?_⟩
  refine List.forall_mem_cons.mpr ⟨q3_172, ?_⟩
  refine List.forall_mem_cons.mpr ⟨q3_173, ?_⟩
  refine List.forall_mem_cons.mpr ⟨q3_174, ?_⟩
  refine List.forall_mem_cons.mpr ⟨q3_175, ?_⟩
  refine List.forall_mem_cons.mpr ⟨q3_176, ?_⟩
  refine List.forall_mem_cons.mpr ⟨q3_177, ?_⟩
  refine List.forall_mem_cons.mpr ⟨q6_78, ?_⟩
  refine List.forall_mem_cons.mpr ⟨q6_111, ?_⟩
  refine List.forall_mem_cons.mpr ⟨q6_112, ?_⟩
  refine List.forall_mem_cons.mpr ⟨q6_113, ?_⟩
  refine List.forall_mem_cons.mpr ⟨q6_114, ?_⟩
  refine List.forall_mem_cons.mpr ⟨q6_115, ?_⟩
  refine List.forall_mem_cons.mpr ⟨q6_116, ?_⟩
  refine List.forall_mem_cons.mpr ⟨q6_117, ?_⟩
  refine List.forall_mem_cons.mpr ⟨q6_118, ?_⟩
  refine List.forall_mem_cons.mpr ⟨q6_119, ?_⟩
  refine List.forall_mem_cons.mpr ⟨q6_120, ?_⟩
  refine List.forall_mem_cons.mpr ⟨q6_232, ?_⟩
  exact fun _ h => absurd h List.not_mem_nil
