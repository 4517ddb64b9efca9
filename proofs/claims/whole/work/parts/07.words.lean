theorem k_0 : (Cond.initialized "EdgeWearLaw") ∈ mBig := mBig_in 16 (by decide +kernel) rfl
theorem k_1 : (Cond.initialized "EdgeWear") ∈ mBig := mBig_in 17 (by decide +kernel) rfl
theorem k_2 : (Cond.initialized "EdgeWear$Sort") ∈ mBig := mBig_in 18 (by decide +kernel) rfl
theorem k_3 : (Cond.initialized "EdgeWear$Rules") ∈ mBig := mBig_in 19 (by decide +kernel) rfl
theorem k_4 : (Cond.initialized "EdgeWearModel") ∈ mBig := mBig_in 20 (by decide +kernel) rfl
theorem k_5 : (Cond.initialized "java/lang/Throwable") ∈ mBig := mBig_in 21 (by decide +kernel) rfl
theorem k_6 : (Cond.initialized "java/lang/Exception") ∈ mBig := mBig_in 22 (by decide +kernel) rfl
theorem k_7 : (Cond.initialized "java/lang/RuntimeException") ∈ mBig := mBig_in 23 (by decide +kernel) rfl
theorem k_8 : (Cond.initialized "java/lang/IndexOutOfBoundsException") ∈ mBig := mBig_in 24 (by decide +kernel) rfl
theorem k_9 : (Cond.initialized "java/lang/IllegalArgumentException") ∈ mBig := mBig_in 25 (by decide +kernel) rfl
theorem k_10 : (Cond.initialized "java/lang/IllegalStateException") ∈ mBig := mBig_in 26 (by decide +kernel) rfl
theorem k_11 : (Cond.initialized "EdgeWear$Tool") ∈ mBig := mBig_in 27 (by decide +kernel) rfl
theorem k_12 : (Cond.initialized "EdgeWear$Readings") ∈ mBig := mBig_in 28 (by decide +kernel) rfl
theorem k_13 : (Cond.initialized "java/lang/Math") ∈ mBig := mBig_in 29 (by decide +kernel) rfl
theorem k_14 : (Cond.initialized "java/lang/System") ∈ mBig := mBig_in 30 (by decide +kernel) rfl
theorem k_15 : (Cond.initialized "EdgeWear$Order") ∈ mBig := mBig_in 31 (by decide +kernel) rfl
theorem k_16 : (Cond.classLink "EdgeWearLaw" 8 "EdgeWear") ∈ mBig := mBig_in 32 (by decide +kernel) rfl
theorem k_17 : (Cond.instantiable "EdgeWear" 8) ∈ mBig := mBig_in 33 (by decide +kernel) rfl
theorem k_18 : (Cond.methodLink "EdgeWearLaw" 90 ⟨"EdgeWear", "<init>", "(I)V"⟩) ∈ mBig := mBig_in 34 (by decide +kernel) rfl
theorem k_19 : (Cond.instanceMethod ⟨"EdgeWear", "<init>", "(I)V"⟩) ∈ mBig := mBig_in 35 (by decide +kernel) rfl
set_option maxRecDepth 100000 in
theorem k_20 : (Cond.code ⟨"EdgeWear", "<init>", "(I)V"⟩ prog_1_method_1_code 3 none) ∈ mBig := mBig_in 36 (rfl) rfl
theorem k_21 : (Cond.methodLink "EdgeWear" 1 ⟨"java/lang/Object", "<init>", "()V"⟩) ∈ mBig := mBig_in 37 (by decide +kernel) rfl
theorem k_22 : (Cond.instanceMethod ⟨"java/lang/Object", "<init>", "()V"⟩) ∈ mBig := mBig_in 38 (by decide +kernel) rfl
set_option maxRecDepth 100000 in
theorem k_23 : (Cond.code ⟨"java/lang/Object", "<init>", "()V"⟩ object_method_1_code 1 none) ∈ mBig := mBig_in 39 (rfl) rfl
theorem k_24 : (Cond.classLink "EdgeWear" 17 "EdgeWear$Sort") ∈ mBig := mBig_in 40 (by decide +kernel) rfl
theorem k_26 : (Cond.instantiable "EdgeWear$Sort" 6) ∈ mBig := mBig_in 42 (by decide +kernel) rfl
theorem k_27 : (Cond.methodLink "EdgeWear" 23 ⟨"EdgeWear$Sort", "<init>", "(I)V"⟩) ∈ mBig := mBig_in 43 (by decide +kernel) rfl
theorem k_28 : (Cond.instanceMethod ⟨"EdgeWear$Sort", "<init>", "(I)V"⟩) ∈ mBig := mBig_in 44 (by decide +kernel) rfl
set_option maxRecDepth 100000 in
theorem k_29 : (Cond.code ⟨"EdgeWear$Sort", "<init>", "(I)V"⟩ prog_5_method_1_code 2 none) ∈ mBig := mBig_in 45 (rfl) rfl
theorem k_30 : (Cond.methodLink "EdgeWear$Sort" 3 ⟨"java/lang/Object", "<init>", "()V"⟩) ∈ mBig := mBig_in 46 (by decide +kernel) rfl
theorem k_31 : (Cond.constantLong "EdgeWear$Sort" 19 (1000000 : Int64)) ∈ mBig := mBig_in 47 (by decide +kernel) rfl
theorem k_32 : (Cond.fieldLink "EdgeWear$Sort" 9 "EdgeWear$Sort" "number" "I") ∈ mBig := mBig_in 48 (by decide +kernel) rfl
theorem k_33 : (Cond.fieldLink "EdgeWear$Tool" 56 "EdgeWear$Sort" "number" "I") ∈ mBig := mBig_in 49 (by decide +kernel) rfl
theorem k_34 : (Cond.fieldLink "EdgeWear" 118 "EdgeWear$Sort" "number" "I") ∈ mBig := mBig_in 50 (by decide +kernel) rfl
theorem k_35 : (Cond.fieldLink "EdgeWear$Sort" 15 "EdgeWear$Sort" "lives" "[I") ∈ mBig := mBig_in 51 (by decide +kernel) rfl
theorem k_36 : (Cond.fieldLink "EdgeWear" 151 "EdgeWear$Sort" "lives" "[I") ∈ mBig := mBig_in 52 (by decide +kernel) rfl
theorem k_37 : (Cond.fieldLink "EdgeWear$Sort" 31 "EdgeWear$Sort" "lifeCount" "I") ∈ mBig := mBig_in 53 (by decide +kernel) rfl
theorem k_38 : (Cond.fieldLink "EdgeWear" 148 "EdgeWear$Sort" "lifeCount" "I") ∈ mBig := mBig_in 54 (by decide +kernel) rfl
theorem k_39 : (Cond.fieldLink "EdgeWear$Sort" 21 "EdgeWear$Sort" "wearLimit" "J") ∈ mBig := mBig_in 55 (by decide +kernel) rfl
theorem k_40 : (Cond.fieldLink "EdgeWear$Tool" 51 "EdgeWear$Sort" "wearLimit" "J") ∈ mBig := mBig_in 56 (by decide +kernel) rfl
theorem k_41 : (Cond.fieldLink "EdgeWear" 78 "EdgeWear$Sort" "wearLimit" "J") ∈ mBig := mBig_in 57 (by decide +kernel) rfl
theorem k_42 : (Cond.fieldLink "EdgeWear$Sort" 25 "EdgeWear$Sort" "changeCost" "I") ∈ mBig := mBig_in 58 (by decide +kernel) rfl
theorem k_43 : (Cond.fieldLink "EdgeWear" 158 "EdgeWear$Sort" "changeCost" "I") ∈ mBig := mBig_in 59 (by decide +kernel) rfl
theorem k_44 : (Cond.fieldLink "EdgeWear$Sort" 28 "EdgeWear$Sort" "failCost" "I") ∈ mBig := mBig_in 60 (by decide +kernel) rfl
theorem k_45 : (Cond.fieldLink "EdgeWear" 161 "EdgeWear$Sort" "failCost" "I") ∈ mBig := mBig_in 61 (by decide +kernel) rfl
theorem k_59 : (Cond.arrayClass FieldType.int) ∈ mBig := mBig_in 75 (by decide +kernel) rfl
theorem k_60 : (Cond.classLink "EdgeWear" 26 "EdgeWear$Tool") ∈ mBig := mBig_in 76 (by decide +kernel) rfl
theorem k_62 : (Cond.classLink "EdgeWear" 32 "EdgeWear$Order") ∈ mBig := mBig_in 78 (by decide +kernel) rfl
theorem k_64 : (Cond.classLink "EdgeWear" 38 "EdgeWear$Rules") ∈ mBig := mBig_in 80 (by decide +kernel) rfl
theorem k_65 : (Cond.instantiable "EdgeWear$Rules" 4) ∈ mBig := mBig_in 81 (by decide +kernel) rfl
theorem k_66 : (Cond.methodLink "EdgeWear" 40 ⟨"EdgeWear$Rules", "<init>", "()V"⟩) ∈ mBig := mBig_in 82 (by decide +kernel) rfl
theorem k_67 : (Cond.instanceMethod ⟨"EdgeWear$Rules", "<init>", "()V"⟩) ∈ mBig := mBig_in 83 (by decide +kernel) rfl
set_option maxRecDepth 100000 in
theorem k_68 : (Cond.code ⟨"EdgeWear$Rules", "<init>", "()V"⟩ prog_4_method_1_code 1 none) ∈ mBig := mBig_in 84 (rfl) rfl
theorem k_69 : (Cond.methodLink "EdgeWear$Rules" 3 ⟨"java/lang/Object", "<init>", "()V"⟩) ∈ mBig := mBig_in 85 (by decide +kernel) rfl
theorem k_70 : (Cond.fieldLink "EdgeWear$Rules" 9 "EdgeWear$Rules" "high" "I") ∈ mBig := mBig_in 86 (by decide +kernel) rfl
theorem k_71 : (Cond.fieldLink "EdgeWear" 195 "EdgeWear$Rules" "high" "I") ∈ mBig := mBig_in 87 (by decide +kernel) rfl
theorem k_72 : (Cond.fieldLink "EdgeWear$Rules" 15 "EdgeWear$Rules" "run" "I") ∈ mBig := mBig_in 88 (by decide +kernel) rfl
theorem k_73 : (Cond.fieldLink "EdgeWear" 198 "EdgeWear$Rules" "run" "I") ∈ mBig := mBig_in 89 (by decide +kernel) rfl
theorem k_74 : (Cond.fieldLink "EdgeWear$Rules" 18 "EdgeWear$Rules" "middle" "I") ∈ mBig := mBig_in 90 (by decide +kernel) rfl
theorem k_75 : (Cond.fieldLink "EdgeWear" 201 "EdgeWear$Rules" "middle" "I") ∈ mBig := mBig_in 91 (by decide +kernel) rfl
theorem k_76 : (Cond.fieldLink "EdgeWear$Rules" 21 "EdgeWear$Rules" "jump" "I") ∈ mBig := mBig_in 92 (by decide +kernel) rfl
theorem k_77 : (Cond.fieldLink "EdgeWear" 204 "EdgeWear$Rules" "jump" "I") ∈ mBig := mBig_in 93 (by decide +kernel) rfl
theorem k_87 : (Cond.fieldLink "EdgeWear" 7 "EdgeWear" "seed" "I") ∈ mBig := mBig_in 103 (by decide +kernel) rfl
theorem k_88 : (Cond.fieldLink "EdgeWear" 13 "EdgeWear" "rates" "[I") ∈ mBig := mBig_in 104 (by decide +kernel) rfl
theorem k_89 : (Cond.fieldLink "EdgeWear" 19 "EdgeWear" "sorts" "[LEdgeWear$Sort;") ∈ mBig := mBig_in 105 (by decide +kernel) rfl
theorem k_90 : (Cond.fieldLink "EdgeWear" 28 "EdgeWear" "tools" "[LEdgeWear$Tool;") ∈ mBig := mBig_in 106 (by decide +kernel) rfl
theorem k_91 : (Cond.fieldLink "EdgeWear" 34 "EdgeWear" "orders" "[LEdgeWear$Order;") ∈ mBig := mBig_in 107 (by decide +kernel) rfl
theorem k_92 : (Cond.fieldLink "EdgeWear" 41 "EdgeWear" "powerRules" "LEdgeWear$Rules;") ∈ mBig := mBig_in 108 (by decide +kernel) rfl
theorem k_93 : (Cond.fieldLink "EdgeWear" 57 "EdgeWear" "toolCount" "I") ∈ mBig := mBig_in 109 (by decide +kernel) rfl
theorem k_94 : (Cond.fieldLink "EdgeWear" 230 "EdgeWear" "orderCount" "I") ∈ mBig := mBig_in 110 (by decide +kernel) rfl
theorem k_112 : (Cond.methodLink "EdgeWearLaw" 163 ⟨"EdgeWear", "open", "()I"⟩) ∈ mBig := mBig_in 128 (by decide +kernel) rfl
theorem k_113 : (Cond.instanceMethod ⟨"EdgeWear", "open", "()I"⟩) ∈ mBig := mBig_in 129 (by decide +kernel) rfl
theorem k_114 : (Cond.selects "EdgeWear" ⟨"EdgeWear", "open", "()I"⟩ ⟨"EdgeWear", "open", "()I"⟩) ∈ mBig := mBig_in 130 (by decide +kernel) rfl
set_option maxRecDepth 100000 in
theorem k_115 : (Cond.code ⟨"EdgeWear", "open", "()I"⟩ prog_1_method_20_code 4 (some FieldType.int)) ∈ mBig := mBig_in 131 (rfl) rfl
theorem k_116 : (Cond.methodLink "EdgeWearLaw" 84 ⟨"EdgeWearLaw", "cell", "([II)I"⟩) ∈ mBig := mBig_in 132 (by decide +kernel) rfl
theorem k_117 : (Cond.static ⟨"EdgeWearLaw", "cell", "([II)I"⟩) ∈ mBig := mBig_in 133 (by decide +kernel) rfl
set_option maxRecDepth 100000 in
theorem k_118 : (Cond.code ⟨"EdgeWearLaw", "cell", "([II)I"⟩ method_2_code 2 (some FieldType.int)) ∈ mBig := mBig_in 134 (rfl) rfl
theorem k_119 : (Cond.methodLink "EdgeWearLaw" 96 ⟨"EdgeWearLaw", "tool", "(LEdgeWear;III[J)I"⟩) ∈ mBig := mBig_in 135 (by decide +kernel) rfl
theorem k_120 : (Cond.static ⟨"EdgeWearLaw", "tool", "(LEdgeWear;III[J)I"⟩) ∈ mBig := mBig_in 136 (by decide +kernel) rfl
set_option maxRecDepth 100000 in
theorem k_121 : (Cond.codeWith ⟨"EdgeWearLaw", "tool", "(LEdgeWear;III[J)I"⟩ method_3_code 6 (some FieldType.int) [(0, 12, 15, 13), (0, 12, 19, 15), (0, 12, 23, 17)]) ∈ mBig := mBig_in 137 (rfl) rfl
theorem k_122 : (Cond.classLink "EdgeWearLaw" 13 "java/lang/IndexOutOfBoundsException") ∈ mBig := mBig_in 138 (by decide +kernel) rfl
theorem k_123 : (Cond.classLink "EdgeWearLaw" 15 "java/lang/IllegalArgumentException") ∈ mBig := mBig_in 139 (by decide +kernel) rfl
theorem k_124 : (Cond.classLink "EdgeWearLaw" 17 "java/lang/IllegalStateException") ∈ mBig := mBig_in 140 (by decide +kernel) rfl
theorem k_125 : (Cond.methodLink "EdgeWearLaw" 7 ⟨"EdgeWear", "tool", "(III)I"⟩) ∈ mBig := mBig_in 141 (by decide +kernel) rfl
theorem k_126 : (Cond.instanceMethod ⟨"EdgeWear", "tool", "(III)I"⟩) ∈ mBig := mBig_in 142 (by decide +kernel) rfl
theorem k_127 : (Cond.selects "EdgeWear" ⟨"EdgeWear", "tool", "(III)I"⟩ ⟨"EdgeWear", "tool", "(III)I"⟩) ∈ mBig := mBig_in 143 (by decide +kernel) rfl
set_option maxRecDepth 100000 in
theorem k_128 : (Cond.code ⟨"EdgeWear", "tool", "(III)I"⟩ prog_1_method_2_code 6 (some FieldType.int)) ∈ mBig := mBig_in 144 (rfl) rfl
theorem k_129 : (Cond.methodLink "EdgeWear" 45 ⟨"EdgeWear", "sortAt", "(I)LEdgeWear$Sort;"⟩) ∈ mBig := mBig_in 145 (by decide +kernel) rfl
theorem k_131 : (Cond.instanceMethod ⟨"EdgeWear", "sortAt", "(I)LEdgeWear$Sort;"⟩) ∈ mBig := mBig_in 147 (by decide +kernel) rfl
set_option maxRecDepth 100000 in
theorem k_132 : (Cond.code ⟨"EdgeWear", "sortAt", "(I)LEdgeWear$Sort;"⟩ prog_1_method_23_code 3 (some (FieldType.object "EdgeWear$Sort"))) ∈ mBig := mBig_in 148 (rfl) rfl
theorem k_133 : (Cond.classLink "EdgeWear" 131 "java/lang/IndexOutOfBoundsException") ∈ mBig := mBig_in 149 (by decide +kernel) rfl
theorem k_134 : (Cond.instantiable "java/lang/IndexOutOfBoundsException" 6) ∈ mBig := mBig_in 150 (by decide +kernel) rfl
theorem k_142 : (Cond.selects "java/lang/IndexOutOfBoundsException" ⟨"java/lang/Throwable", "fillInStackTrace", "(I)Ljava/lang/Throwable;"⟩ ⟨"java/lang/Throwable", "fillInStackTrace", "(I)Ljava/lang/Throwable;"⟩) ∈ mBig := mBig_in 158 (by decide +kernel) rfl
theorem k_143 : (Cond.selects "java/lang/IndexOutOfBoundsException" ⟨"java/lang/Throwable", "fillInStackTrace", "()Ljava/lang/Throwable;"⟩ ⟨"java/lang/Throwable", "fillInStackTrace", "()Ljava/lang/Throwable;"⟩) ∈ mBig := mBig_in 159 (by decide +kernel) rfl
theorem k_154 : (Cond.fieldLink "java/lang/Throwable" 198 "java/lang/Throwable" "backtrace" "Ljava/lang/Object;") ∈ mBig := mBig_in 170 (by decide +kernel) rfl
theorem k_156 : (Cond.instanceMethod ⟨"java/lang/Throwable", "<init>", "()V"⟩) ∈ mBig := mBig_in 172 (by decide +kernel) rfl
set_option maxRecDepth 100000 in
theorem k_157 : (Cond.code ⟨"java/lang/Throwable", "<init>", "()V"⟩ prog_17_method_1_code 1 none) ∈ mBig := mBig_in 173 (rfl) rfl
theorem k_158 : (Cond.methodLink "java/lang/Throwable" 1 ⟨"java/lang/Object", "<init>", "()V"⟩) ∈ mBig := mBig_in 174 (by decide +kernel) rfl
theorem k_159 : (Cond.fieldLink "java/lang/Throwable" 13 "java/lang/Throwable" "UNASSIGNED_STACK" "[Ljava/lang/StackTraceElement;") ∈ mBig := mBig_in 175 (by decide +kernel) rfl
theorem k_161 : (Cond.fieldLink "java/lang/Throwable" 20 "java/lang/Throwable" "SUPPRESSED_SENTINEL" "Ljava/util/List;") ∈ mBig := mBig_in 177 (by decide +kernel) rfl
theorem k_163 : (Cond.methodLink "java/lang/Throwable" 27 ⟨"java/lang/Throwable", "fillInStackTrace", "()Ljava/lang/Throwable;"⟩) ∈ mBig := mBig_in 179 (by decide +kernel) rfl
theorem k_164 : (Cond.instanceMethod ⟨"java/lang/Throwable", "fillInStackTrace", "()Ljava/lang/Throwable;"⟩) ∈ mBig := mBig_in 180 (by decide +kernel) rfl
theorem k_166 : (Cond.selects "java/lang/IllegalArgumentException" ⟨"java/lang/Throwable", "fillInStackTrace", "()Ljava/lang/Throwable;"⟩ ⟨"java/lang/Throwable", "fillInStackTrace", "()Ljava/lang/Throwable;"⟩) ∈ mBig := mBig_in 182 (by decide +kernel) rfl
theorem k_167 : (Cond.selects "java/lang/IllegalStateException" ⟨"java/lang/Throwable", "fillInStackTrace", "()Ljava/lang/Throwable;"⟩ ⟨"java/lang/Throwable", "fillInStackTrace", "()Ljava/lang/Throwable;"⟩) ∈ mBig := mBig_in 183 (by decide +kernel) rfl
theorem k_169 : (Cond.methodLink "java/lang/Throwable" 202 ⟨"java/lang/Throwable", "fillInStackTrace", "(I)Ljava/lang/Throwable;"⟩) ∈ mBig := mBig_in 185 (by decide +kernel) rfl
theorem k_171 : (Cond.instanceMethod ⟨"java/lang/Throwable", "fillInStackTrace", "(I)Ljava/lang/Throwable;"⟩) ∈ mBig := mBig_in 187 (by decide +kernel) rfl
theorem k_172 : (Cond.instantiable "java/lang/Throwable" 6) ∈ mBig := mBig_in 188 (by decide +kernel) rfl
theorem k_173 : (Cond.native ⟨"java/lang/Throwable", "fillInStackTrace", "(I)Ljava/lang/Throwable;"⟩) ∈ mBig := mBig_in 189 (by decide +kernel) rfl
theorem k_175 : (Cond.methodLink "EdgeWear" 135 ⟨"java/lang/IndexOutOfBoundsException", "<init>", "(Ljava/lang/String;)V"⟩) ∈ mBig := mBig_in 191 (by decide +kernel) rfl
theorem k_176 : (Cond.instanceMethod ⟨"java/lang/IndexOutOfBoundsException", "<init>", "(Ljava/lang/String;)V"⟩) ∈ mBig := mBig_in 192 (by decide +kernel) rfl
set_option maxRecDepth 100000 in
theorem k_177 : (Cond.code ⟨"java/lang/IndexOutOfBoundsException", "<init>", "(Ljava/lang/String;)V"⟩ prog_12_method_2_code 2 none) ∈ mBig := mBig_in 193 (rfl) rfl
theorem k_178 : (Cond.methodLink "java/lang/IndexOutOfBoundsException" 7 ⟨"java/lang/RuntimeException", "<init>", "(Ljava/lang/String;)V"⟩) ∈ mBig := mBig_in 194 (by decide +kernel) rfl
theorem k_179 : (Cond.instanceMethod ⟨"java/lang/RuntimeException", "<init>", "(Ljava/lang/String;)V"⟩) ∈ mBig := mBig_in 195 (by decide +kernel) rfl
set_option maxRecDepth 100000 in
theorem k_180 : (Cond.code ⟨"java/lang/RuntimeException", "<init>", "(Ljava/lang/String;)V"⟩ prog_14_method_2_code 2 none) ∈ mBig := mBig_in 196 (rfl) rfl
theorem k_181 : (Cond.methodLink "java/lang/RuntimeException" 7 ⟨"java/lang/Exception", "<init>", "(Ljava/lang/String;)V"⟩) ∈ mBig := mBig_in 197 (by decide +kernel) rfl
theorem k_182 : (Cond.instanceMethod ⟨"java/lang/Exception", "<init>", "(Ljava/lang/String;)V"⟩) ∈ mBig := mBig_in 198 (by decide +kernel) rfl
set_option maxRecDepth 100000 in
theorem k_183 : (Cond.code ⟨"java/lang/Exception", "<init>", "(Ljava/lang/String;)V"⟩ prog_9_method_2_code 2 none) ∈ mBig := mBig_in 199 (rfl) rfl
theorem k_184 : (Cond.methodLink "java/lang/Exception" 7 ⟨"java/lang/Throwable", "<init>", "(Ljava/lang/String;)V"⟩) ∈ mBig := mBig_in 200 (by decide +kernel) rfl
theorem k_185 : (Cond.instanceMethod ⟨"java/lang/Throwable", "<init>", "(Ljava/lang/String;)V"⟩) ∈ mBig := mBig_in 201 (by decide +kernel) rfl
set_option maxRecDepth 100000 in
theorem k_186 : (Cond.code ⟨"java/lang/Throwable", "<init>", "(Ljava/lang/String;)V"⟩ prog_17_method_2_code 2 none) ∈ mBig := mBig_in 202 (rfl) rfl
theorem k_188 : (Cond.fieldLink "java/lang/Throwable" 31 "java/lang/Throwable" "detailMessage" "Ljava/lang/String;") ∈ mBig := mBig_in 204 (by decide +kernel) rfl
theorem k_189 : (Cond.fieldLink "java/lang/Throwable" 7 "java/lang/Throwable" "cause" "Ljava/lang/Throwable;") ∈ mBig := mBig_in 205 (by decide +kernel) rfl
theorem k_190 : (Cond.fieldLink "java/lang/Throwable" 17 "java/lang/Throwable" "stackTrace" "[Ljava/lang/StackTraceElement;") ∈ mBig := mBig_in 206 (by decide +kernel) rfl
theorem k_191 : (Cond.fieldLink "java/lang/Throwable" 24 "java/lang/Throwable" "suppressedExceptions" "Ljava/util/List;") ∈ mBig := mBig_in 207 (by decide +kernel) rfl
theorem k_200 : (Cond.arrayClass FieldType.byte) ∈ mBig := mBig_in 216 (by decide +kernel) rfl
theorem k_201 : (Cond.constant "EdgeWear" 49 (1000000 : Int32)) ∈ mBig := mBig_in 217 (by decide +kernel) rfl
theorem k_202 : (Cond.classLink "EdgeWear" 50 "java/lang/IllegalArgumentException") ∈ mBig := mBig_in 218 (by decide +kernel) rfl
theorem k_203 : (Cond.instantiable "java/lang/IllegalArgumentException" 6) ∈ mBig := mBig_in 219 (by decide +kernel) rfl
theorem k_205 : (Cond.selects "java/lang/IllegalArgumentException" ⟨"java/lang/Throwable", "fillInStackTrace", "(I)Ljava/lang/Throwable;"⟩ ⟨"java/lang/Throwable", "fillInStackTrace", "(I)Ljava/lang/Throwable;"⟩) ∈ mBig := mBig_in 221 (by decide +kernel) rfl
theorem k_212 : (Cond.methodLink "EdgeWear" 54 ⟨"java/lang/IllegalArgumentException", "<init>", "(Ljava/lang/String;)V"⟩) ∈ mBig := mBig_in 228 (by decide +kernel) rfl
theorem k_213 : (Cond.instanceMethod ⟨"java/lang/IllegalArgumentException", "<init>", "(Ljava/lang/String;)V"⟩) ∈ mBig := mBig_in 229 (by decide +kernel) rfl
set_option maxRecDepth 100000 in
theorem k_214 : (Cond.code ⟨"java/lang/IllegalArgumentException", "<init>", "(Ljava/lang/String;)V"⟩ prog_10_method_2_code 2 none) ∈ mBig := mBig_in 230 (rfl) rfl
theorem k_215 : (Cond.methodLink "java/lang/IllegalArgumentException" 7 ⟨"java/lang/RuntimeException", "<init>", "(Ljava/lang/String;)V"⟩) ∈ mBig := mBig_in 231 (by decide +kernel) rfl
theorem k_218 : (Cond.classLink "EdgeWear" 60 "java/lang/IllegalStateException") ∈ mBig := mBig_in 234 (by decide +kernel) rfl
theorem k_219 : (Cond.instantiable "java/lang/IllegalStateException" 6) ∈ mBig := mBig_in 235 (by decide +kernel) rfl
theorem k_221 : (Cond.selects "java/lang/IllegalStateException" ⟨"java/lang/Throwable", "fillInStackTrace", "(I)Ljava/lang/Throwable;"⟩ ⟨"java/lang/Throwable", "fillInStackTrace", "(I)Ljava/lang/Throwable;"⟩) ∈ mBig := mBig_in 237 (by decide +kernel) rfl
theorem k_228 : (Cond.methodLink "EdgeWear" 64 ⟨"java/lang/IllegalStateException", "<init>", "(Ljava/lang/String;)V"⟩) ∈ mBig := mBig_in 244 (by decide +kernel) rfl
theorem k_229 : (Cond.instanceMethod ⟨"java/lang/IllegalStateException", "<init>", "(Ljava/lang/String;)V"⟩) ∈ mBig := mBig_in 245 (by decide +kernel) rfl
set_option maxRecDepth 100000 in
theorem k_230 : (Cond.code ⟨"java/lang/IllegalStateException", "<init>", "(Ljava/lang/String;)V"⟩ prog_11_method_2_code 2 none) ∈ mBig := mBig_in 246 (rfl) rfl
theorem k_231 : (Cond.methodLink "java/lang/IllegalStateException" 7 ⟨"java/lang/RuntimeException", "<init>", "(Ljava/lang/String;)V"⟩) ∈ mBig := mBig_in 247 (by decide +kernel) rfl
theorem k_234 : (Cond.instantiable "EdgeWear$Tool" 9) ∈ mBig := mBig_in 250 (by decide +kernel) rfl
theorem k_235 : (Cond.methodLink "EdgeWear" 65 ⟨"EdgeWear$Tool", "<init>", "(LEdgeWear$Sort;II)V"⟩) ∈ mBig := mBig_in 251 (by decide +kernel) rfl
theorem k_236 : (Cond.instanceMethod ⟨"EdgeWear$Tool", "<init>", "(LEdgeWear$Sort;II)V"⟩) ∈ mBig := mBig_in 252 (by decide +kernel) rfl
set_option maxRecDepth 100000 in
theorem k_237 : (Cond.code ⟨"EdgeWear$Tool", "<init>", "(LEdgeWear$Sort;II)V"⟩ prog_6_method_1_code 4 none) ∈ mBig := mBig_in 253 (rfl) rfl
theorem k_238 : (Cond.methodLink "EdgeWear$Tool" 3 ⟨"java/lang/Object", "<init>", "()V"⟩) ∈ mBig := mBig_in 254 (by decide +kernel) rfl
theorem k_239 : (Cond.classLink "EdgeWear$Tool" 22 "EdgeWear$Readings") ∈ mBig := mBig_in 255 (by decide +kernel) rfl
theorem k_240 : (Cond.instantiable "EdgeWear$Readings" 3) ∈ mBig := mBig_in 256 (by decide +kernel) rfl
theorem k_241 : (Cond.methodLink "EdgeWear$Tool" 24 ⟨"EdgeWear$Readings", "<init>", "()V"⟩) ∈ mBig := mBig_in 257 (by decide +kernel) rfl
theorem k_242 : (Cond.instanceMethod ⟨"EdgeWear$Readings", "<init>", "()V"⟩) ∈ mBig := mBig_in 258 (by decide +kernel) rfl
set_option maxRecDepth 100000 in
theorem k_243 : (Cond.code ⟨"EdgeWear$Readings", "<init>", "()V"⟩ prog_3_method_1_code 1 none) ∈ mBig := mBig_in 259 (rfl) rfl
theorem k_244 : (Cond.methodLink "EdgeWear$Readings" 3 ⟨"java/lang/Object", "<init>", "()V"⟩) ∈ mBig := mBig_in 260 (by decide +kernel) rfl
theorem k_245 : (Cond.fieldLink "EdgeWear$Readings" 9 "EdgeWear$Readings" "latestFirst" "[I") ∈ mBig := mBig_in 261 (by decide +kernel) rfl
theorem k_246 : (Cond.fieldLink "EdgeWear$Readings" 25 "EdgeWear$Readings" "count" "I") ∈ mBig := mBig_in 262 (by decide +kernel) rfl
theorem k_247 : (Cond.fieldLink "EdgeWear$Readings" 15 "EdgeWear$Readings" "lastMinute" "I") ∈ mBig := mBig_in 263 (by decide +kernel) rfl
theorem k_248 : (Cond.fieldLink "EdgeWear" 213 "EdgeWear$Readings" "lastMinute" "I") ∈ mBig := mBig_in 264 (by decide +kernel) rfl
theorem k_256 : (Cond.fieldLink "EdgeWear$Tool" 9 "EdgeWear$Tool" "sort" "LEdgeWear$Sort;") ∈ mBig := mBig_in 272 (by decide +kernel) rfl
theorem k_257 : (Cond.fieldLink "EdgeWear" 114 "EdgeWear$Tool" "sort" "LEdgeWear$Sort;") ∈ mBig := mBig_in 273 (by decide +kernel) rfl
theorem k_258 : (Cond.fieldLink "EdgeWear$Tool" 19 "EdgeWear$Tool" "least" "I") ∈ mBig := mBig_in 274 (by decide +kernel) rfl
theorem k_259 : (Cond.fieldLink "EdgeWear$Tool" 25 "EdgeWear$Tool" "readings" "LEdgeWear$Readings;") ∈ mBig := mBig_in 275 (by decide +kernel) rfl
theorem k_260 : (Cond.fieldLink "EdgeWear" 207 "EdgeWear$Tool" "readings" "LEdgeWear$Readings;") ∈ mBig := mBig_in 276 (by decide +kernel) rfl
theorem k_261 : (Cond.fieldLink "EdgeWear$Tool" 15 "EdgeWear$Tool" "length" "I") ∈ mBig := mBig_in 277 (by decide +kernel) rfl
theorem k_262 : (Cond.fieldLink "EdgeWear" 111 "EdgeWear$Tool" "length" "I") ∈ mBig := mBig_in 278 (by decide +kernel) rfl
theorem k_263 : (Cond.fieldLink "EdgeWear$Tool" 29 "EdgeWear$Tool" "wear" "J") ∈ mBig := mBig_in 279 (by decide +kernel) rfl
theorem k_264 : (Cond.fieldLink "EdgeWear" 108 "EdgeWear$Tool" "wear" "J") ∈ mBig := mBig_in 280 (by decide +kernel) rfl
theorem k_265 : (Cond.fieldLink "EdgeWear$Tool" 41 "EdgeWear$Tool" "uses" "J") ∈ mBig := mBig_in 281 (by decide +kernel) rfl
theorem k_266 : (Cond.fieldLink "EdgeWear" 125 "EdgeWear$Tool" "uses" "J") ∈ mBig := mBig_in 282 (by decide +kernel) rfl
theorem k_267 : (Cond.fieldLink "EdgeWear$Tool" 48 "EdgeWear$Tool" "grindings" "J") ∈ mBig := mBig_in 283 (by decide +kernel) rfl
theorem k_268 : (Cond.fieldLink "EdgeWear" 128 "EdgeWear$Tool" "grindings" "J") ∈ mBig := mBig_in 284 (by decide +kernel) rfl
theorem k_269 : (Cond.fieldLink "EdgeWear$Tool" 44 "EdgeWear$Tool" "barred" "Z") ∈ mBig := mBig_in 285 (by decide +kernel) rfl
theorem k_270 : (Cond.fieldLink "EdgeWear" 88 "EdgeWear$Tool" "barred" "Z") ∈ mBig := mBig_in 286 (by decide +kernel) rfl
theorem k_271 : (Cond.fieldLink "EdgeWear$Tool" 59 "EdgeWear$Tool" "out" "Z") ∈ mBig := mBig_in 287 (by decide +kernel) rfl
theorem k_272 : (Cond.fieldLink "EdgeWear" 143 "EdgeWear$Tool" "out" "Z") ∈ mBig := mBig_in 288 (by decide +kernel) rfl
theorem k_292 : (Cond.methodLink "EdgeWearLaw" 104 ⟨"EdgeWearLaw", "rate", "(LEdgeWear;III)I"⟩) ∈ mBig := mBig_in 308 (by decide +kernel) rfl
theorem k_293 : (Cond.static ⟨"EdgeWearLaw", "rate", "(LEdgeWear;III)I"⟩) ∈ mBig := mBig_in 309 (by decide +kernel) rfl
set_option maxRecDepth 100000 in
theorem k_294 : (Cond.codeWith ⟨"EdgeWearLaw", "rate", "(LEdgeWear;III)I"⟩ method_4_code 5 (some FieldType.int) [(0, 7, 10, 13), (0, 7, 14, 15)]) ∈ mBig := mBig_in 310 (rfl) rfl
theorem k_295 : (Cond.methodLink "EdgeWearLaw" 19 ⟨"EdgeWear", "rate", "(III)V"⟩) ∈ mBig := mBig_in 311 (by decide +kernel) rfl
theorem k_296 : (Cond.instanceMethod ⟨"EdgeWear", "rate", "(III)V"⟩) ∈ mBig := mBig_in 312 (by decide +kernel) rfl
theorem k_297 : (Cond.selects "EdgeWear" ⟨"EdgeWear", "rate", "(III)V"⟩ ⟨"EdgeWear", "rate", "(III)V"⟩) ∈ mBig := mBig_in 313 (by decide +kernel) rfl
set_option maxRecDepth 100000 in
theorem k_298 : (Cond.code ⟨"EdgeWear", "rate", "(III)V"⟩ prog_1_method_3_code 5 none) ∈ mBig := mBig_in 314 (rfl) rfl
theorem k_299 : (Cond.methodLink "EdgeWear" 68 ⟨"EdgeWear", "rateIndex", "(II)I"⟩) ∈ mBig := mBig_in 315 (by decide +kernel) rfl
theorem k_300 : (Cond.static ⟨"EdgeWear", "rateIndex", "(II)I"⟩) ∈ mBig := mBig_in 316 (by decide +kernel) rfl
set_option maxRecDepth 100000 in
theorem k_301 : (Cond.code ⟨"EdgeWear", "rateIndex", "(II)I"⟩ prog_1_method_24_code 2 (some FieldType.int)) ∈ mBig := mBig_in 317 (rfl) rfl
theorem k_304 : (Cond.methodLink "EdgeWearLaw" 110 ⟨"EdgeWearLaw", "limit", "(LEdgeWear;IJ)I"⟩) ∈ mBig := mBig_in 320 (by decide +kernel) rfl
theorem k_305 : (Cond.static ⟨"EdgeWearLaw", "limit", "(LEdgeWear;IJ)I"⟩) ∈ mBig := mBig_in 321 (by decide +kernel) rfl
set_option maxRecDepth 100000 in
theorem k_306 : (Cond.codeWith ⟨"EdgeWearLaw", "limit", "(LEdgeWear;IJ)I"⟩ method_5_code 5 (some FieldType.int) [(0, 6, 9, 13), (0, 6, 13, 15)]) ∈ mBig := mBig_in 322 (rfl) rfl
theorem k_307 : (Cond.methodLink "EdgeWearLaw" 23 ⟨"EdgeWear", "limit", "(IJ)V"⟩) ∈ mBig := mBig_in 323 (by decide +kernel) rfl
theorem k_308 : (Cond.instanceMethod ⟨"EdgeWear", "limit", "(IJ)V"⟩) ∈ mBig := mBig_in 324 (by decide +kernel) rfl
theorem k_309 : (Cond.selects "EdgeWear" ⟨"EdgeWear", "limit", "(IJ)V"⟩ ⟨"EdgeWear", "limit", "(IJ)V"⟩) ∈ mBig := mBig_in 325 (by decide +kernel) rfl
set_option maxRecDepth 100000 in
theorem k_310 : (Cond.code ⟨"EdgeWear", "limit", "(IJ)V"⟩ prog_1_method_4_code 5 none) ∈ mBig := mBig_in 326 (rfl) rfl
theorem k_311 : (Cond.constantLong "EdgeWear" 74 (1000000000000 : Int64)) ∈ mBig := mBig_in 327 (by decide +kernel) rfl
theorem k_313 : (Cond.methodLink "EdgeWearLaw" 114 ⟨"EdgeWearLaw", "use", "(LEdgeWear;IIII[J)I"⟩) ∈ mBig := mBig_in 329 (by decide +kernel) rfl
theorem k_314 : (Cond.static ⟨"EdgeWearLaw", "use", "(LEdgeWear;IIII[J)I"⟩) ∈ mBig := mBig_in 330 (by decide +kernel) rfl
set_option maxRecDepth 100000 in
theorem k_315 : (Cond.codeWith ⟨"EdgeWearLaw", "use", "(LEdgeWear;IIII[J)I"⟩ method_6_code 7 (some FieldType.int) [(0, 21, 24, 13), (0, 21, 28, 15), (0, 21, 32, 17)]) ∈ mBig := mBig_in 331 (rfl) rfl
theorem k_316 : (Cond.methodLink "EdgeWearLaw" 27 ⟨"EdgeWear", "use", "(IIII)Z"⟩) ∈ mBig := mBig_in 332 (by decide +kernel) rfl
theorem k_317 : (Cond.instanceMethod ⟨"EdgeWear", "use", "(IIII)Z"⟩) ∈ mBig := mBig_in 333 (by decide +kernel) rfl
theorem k_318 : (Cond.selects "EdgeWear" ⟨"EdgeWear", "use", "(IIII)Z"⟩ ⟨"EdgeWear", "use", "(IIII)Z"⟩) ∈ mBig := mBig_in 334 (by decide +kernel) rfl
set_option maxRecDepth 100000 in
theorem k_319 : (Cond.code ⟨"EdgeWear", "use", "(IIII)Z"⟩ prog_1_method_5_code 7 (some FieldType.boolean)) ∈ mBig := mBig_in 335 (rfl) rfl
theorem k_320 : (Cond.methodLink "EdgeWear" 82 ⟨"EdgeWear", "toolAt", "(I)LEdgeWear$Tool;"⟩) ∈ mBig := mBig_in 336 (by decide +kernel) rfl
theorem k_322 : (Cond.instanceMethod ⟨"EdgeWear", "toolAt", "(I)LEdgeWear$Tool;"⟩) ∈ mBig := mBig_in 338 (by decide +kernel) rfl
set_option maxRecDepth 100000 in
theorem k_323 : (Cond.code ⟨"EdgeWear", "toolAt", "(I)LEdgeWear$Tool;"⟩ prog_1_method_22_code 3 (some (FieldType.object "EdgeWear$Tool"))) ∈ mBig := mBig_in 339 (rfl) rfl
theorem k_327 : (Cond.methodLink "EdgeWear" 94 ⟨"EdgeWear$Tool", "wearBy", "(J)V"⟩) ∈ mBig := mBig_in 343 (by decide +kernel) rfl
theorem k_328 : (Cond.instanceMethod ⟨"EdgeWear$Tool", "wearBy", "(J)V"⟩) ∈ mBig := mBig_in 344 (by decide +kernel) rfl
theorem k_329 : (Cond.selects "EdgeWear$Tool" ⟨"EdgeWear$Tool", "wearBy", "(J)V"⟩ ⟨"EdgeWear$Tool", "wearBy", "(J)V"⟩) ∈ mBig := mBig_in 345 (by decide +kernel) rfl
set_option maxRecDepth 100000 in
theorem k_330 : (Cond.code ⟨"EdgeWear$Tool", "wearBy", "(J)V"⟩ prog_6_method_2_code 3 none) ∈ mBig := mBig_in 346 (rfl) rfl
theorem k_331 : (Cond.constantLong "EdgeWear$Tool" 33 (1000000000000000 : Int64)) ∈ mBig := mBig_in 347 (by decide +kernel) rfl
theorem k_332 : (Cond.methodLink "EdgeWear$Tool" 35 ⟨"java/lang/Math", "min", "(JJ)J"⟩) ∈ mBig := mBig_in 348 (by decide +kernel) rfl
theorem k_333 : (Cond.static ⟨"java/lang/Math", "min", "(JJ)J"⟩) ∈ mBig := mBig_in 349 (by decide +kernel) rfl
set_option maxRecDepth 100000 in
theorem k_334 : (Cond.code ⟨"java/lang/Math", "min", "(JJ)J"⟩ prog_13_method_70_code 4 (some FieldType.long)) ∈ mBig := mBig_in 350 (rfl) rfl
theorem k_335 : (Cond.methodLink "EdgeWear" 98 ⟨"EdgeWear$Tool", "isBlunt", "()Z"⟩) ∈ mBig := mBig_in 351 (by decide +kernel) rfl
theorem k_336 : (Cond.instanceMethod ⟨"EdgeWear$Tool", "isBlunt", "()Z"⟩) ∈ mBig := mBig_in 352 (by decide +kernel) rfl
theorem k_337 : (Cond.selects "EdgeWear$Tool" ⟨"EdgeWear$Tool", "isBlunt", "()Z"⟩ ⟨"EdgeWear$Tool", "isBlunt", "()Z"⟩) ∈ mBig := mBig_in 353 (by decide +kernel) rfl
set_option maxRecDepth 100000 in
theorem k_338 : (Cond.code ⟨"EdgeWear$Tool", "isBlunt", "()Z"⟩ prog_6_method_4_code 1 (some FieldType.boolean)) ∈ mBig := mBig_in 354 (rfl) rfl
theorem k_339 : (Cond.methodLink "EdgeWearLaw" 118 ⟨"EdgeWearLaw", "grind", "(LEdgeWear;II[J)I"⟩) ∈ mBig := mBig_in 355 (by decide +kernel) rfl
theorem k_340 : (Cond.static ⟨"EdgeWearLaw", "grind", "(LEdgeWear;II[J)I"⟩) ∈ mBig := mBig_in 356 (by decide +kernel) rfl
set_option maxRecDepth 100000 in
theorem k_341 : (Cond.codeWith ⟨"EdgeWearLaw", "grind", "(LEdgeWear;II[J)I"⟩ method_7_code 5 (some FieldType.int) [(0, 17, 20, 13), (0, 17, 24, 15), (0, 17, 28, 17)]) ∈ mBig := mBig_in 357 (rfl) rfl
theorem k_342 : (Cond.methodLink "EdgeWearLaw" 31 ⟨"EdgeWear", "grind", "(II)Z"⟩) ∈ mBig := mBig_in 358 (by decide +kernel) rfl
theorem k_343 : (Cond.instanceMethod ⟨"EdgeWear", "grind", "(II)Z"⟩) ∈ mBig := mBig_in 359 (by decide +kernel) rfl
theorem k_344 : (Cond.selects "EdgeWear" ⟨"EdgeWear", "grind", "(II)Z"⟩ ⟨"EdgeWear", "grind", "(II)Z"⟩) ∈ mBig := mBig_in 360 (by decide +kernel) rfl
set_option maxRecDepth 100000 in
theorem k_345 : (Cond.code ⟨"EdgeWear", "grind", "(II)Z"⟩ prog_1_method_6_code 4 (some FieldType.boolean)) ∈ mBig := mBig_in 361 (rfl) rfl
theorem k_347 : (Cond.methodLink "EdgeWear" 104 ⟨"EdgeWear$Tool", "grindOrBar", "(I)Z"⟩) ∈ mBig := mBig_in 363 (by decide +kernel) rfl
theorem k_348 : (Cond.instanceMethod ⟨"EdgeWear$Tool", "grindOrBar", "(I)Z"⟩) ∈ mBig := mBig_in 364 (by decide +kernel) rfl
theorem k_349 : (Cond.selects "EdgeWear$Tool" ⟨"EdgeWear$Tool", "grindOrBar", "(I)Z"⟩ ⟨"EdgeWear$Tool", "grindOrBar", "(I)Z"⟩) ∈ mBig := mBig_in 365 (by decide +kernel) rfl
set_option maxRecDepth 100000 in
theorem k_350 : (Cond.code ⟨"EdgeWear$Tool", "grindOrBar", "(I)Z"⟩ prog_6_method_3_code 2 (some FieldType.boolean)) ∈ mBig := mBig_in 366 (rfl) rfl
theorem k_351 : (Cond.methodLink "EdgeWearLaw" 122 ⟨"EdgeWearLaw", "about", "(LEdgeWear;II[J)I"⟩) ∈ mBig := mBig_in 367 (by decide +kernel) rfl
theorem k_352 : (Cond.static ⟨"EdgeWearLaw", "about", "(LEdgeWear;II[J)I"⟩) ∈ mBig := mBig_in 368 (by decide +kernel) rfl
set_option maxRecDepth 100000 in
theorem k_353 : (Cond.codeWith ⟨"EdgeWearLaw", "about", "(LEdgeWear;II[J)I"⟩ method_8_code 5 (some FieldType.int) [(0, 9, 12, 13)]) ∈ mBig := mBig_in 369 (rfl) rfl
theorem k_354 : (Cond.methodLink "EdgeWearLaw" 35 ⟨"EdgeWear", "about", "(II)J"⟩) ∈ mBig := mBig_in 370 (by decide +kernel) rfl
theorem k_355 : (Cond.instanceMethod ⟨"EdgeWear", "about", "(II)J"⟩) ∈ mBig := mBig_in 371 (by decide +kernel) rfl
theorem k_356 : (Cond.selects "EdgeWear" ⟨"EdgeWear", "about", "(II)J"⟩ ⟨"EdgeWear", "about", "(II)J"⟩) ∈ mBig := mBig_in 372 (by decide +kernel) rfl
set_option maxRecDepth 100000 in
theorem k_357 : (Cond.code ⟨"EdgeWear", "about", "(II)J"⟩ prog_1_method_7_code 4 (some FieldType.long)) ∈ mBig := mBig_in 373 (rfl) rfl
theorem k_358 : (Cond.methodLink "EdgeWear" 121 ⟨"EdgeWear$Tool", "marks", "()I"⟩) ∈ mBig := mBig_in 374 (by decide +kernel) rfl
theorem k_359 : (Cond.instanceMethod ⟨"EdgeWear$Tool", "marks", "()I"⟩) ∈ mBig := mBig_in 375 (by decide +kernel) rfl
theorem k_360 : (Cond.selects "EdgeWear$Tool" ⟨"EdgeWear$Tool", "marks", "()I"⟩ ⟨"EdgeWear$Tool", "marks", "()I"⟩) ∈ mBig := mBig_in 376 (by decide +kernel) rfl
set_option maxRecDepth 100000 in
theorem k_361 : (Cond.code ⟨"EdgeWear$Tool", "marks", "()I"⟩ prog_6_method_6_code 1 (some FieldType.int)) ∈ mBig := mBig_in 377 (rfl) rfl
theorem k_362 : (Cond.methodLink "EdgeWear$Tool" 62 ⟨"EdgeWear$Tool", "isBlunt", "()Z"⟩) ∈ mBig := mBig_in 378 (by decide +kernel) rfl
theorem k_364 : (Cond.methodLink "EdgeWearLaw" 125 ⟨"EdgeWearLaw", "spare", "(LEdgeWear;I[J)I"⟩) ∈ mBig := mBig_in 380 (by decide +kernel) rfl
theorem k_365 : (Cond.static ⟨"EdgeWearLaw", "spare", "(LEdgeWear;I[J)I"⟩) ∈ mBig := mBig_in 381 (by decide +kernel) rfl
set_option maxRecDepth 100000 in
theorem k_366 : (Cond.codeWith ⟨"EdgeWearLaw", "spare", "(LEdgeWear;I[J)I"⟩ method_9_code 4 (some FieldType.int) [(0, 9, 12, 13)]) ∈ mBig := mBig_in 382 (rfl) rfl
theorem k_367 : (Cond.methodLink "EdgeWearLaw" 39 ⟨"EdgeWear", "spare", "(I)I"⟩) ∈ mBig := mBig_in 383 (by decide +kernel) rfl
theorem k_368 : (Cond.instanceMethod ⟨"EdgeWear", "spare", "(I)I"⟩) ∈ mBig := mBig_in 384 (by decide +kernel) rfl
theorem k_369 : (Cond.selects "EdgeWear" ⟨"EdgeWear", "spare", "(I)I"⟩ ⟨"EdgeWear", "spare", "(I)I"⟩) ∈ mBig := mBig_in 385 (by decide +kernel) rfl
set_option maxRecDepth 100000 in
theorem k_370 : (Cond.code ⟨"EdgeWear", "spare", "(I)I"⟩ prog_1_method_8_code 6 (some FieldType.int)) ∈ mBig := mBig_in 386 (rfl) rfl
theorem k_371 : (Cond.methodLink "EdgeWear" 136 ⟨"EdgeWear$Tool", "isSpareOf", "(I)Z"⟩) ∈ mBig := mBig_in 387 (by decide +kernel) rfl
theorem k_372 : (Cond.instanceMethod ⟨"EdgeWear$Tool", "isSpareOf", "(I)Z"⟩) ∈ mBig := mBig_in 388 (by decide +kernel) rfl
theorem k_373 : (Cond.selects "EdgeWear$Tool" ⟨"EdgeWear$Tool", "isSpareOf", "(I)Z"⟩ ⟨"EdgeWear$Tool", "isSpareOf", "(I)Z"⟩) ∈ mBig := mBig_in 389 (by decide +kernel) rfl
set_option maxRecDepth 100000 in
theorem k_374 : (Cond.code ⟨"EdgeWear$Tool", "isSpareOf", "(I)Z"⟩ prog_6_method_5_code 2 (some FieldType.boolean)) ∈ mBig := mBig_in 390 (rfl) rfl
theorem k_375 : (Cond.methodLink "EdgeWearLaw" 129 ⟨"EdgeWearLaw", "take", "(LEdgeWear;I[J)I"⟩) ∈ mBig := mBig_in 391 (by decide +kernel) rfl
theorem k_376 : (Cond.static ⟨"EdgeWearLaw", "take", "(LEdgeWear;I[J)I"⟩) ∈ mBig := mBig_in 392 (by decide +kernel) rfl
set_option maxRecDepth 100000 in
theorem k_377 : (Cond.codeWith ⟨"EdgeWearLaw", "take", "(LEdgeWear;I[J)I"⟩ method_10_code 4 (some FieldType.int) [(0, 9, 12, 13)]) ∈ mBig := mBig_in 393 (rfl) rfl
theorem k_378 : (Cond.methodLink "EdgeWearLaw" 43 ⟨"EdgeWear", "take", "(I)I"⟩) ∈ mBig := mBig_in 394 (by decide +kernel) rfl
theorem k_379 : (Cond.instanceMethod ⟨"EdgeWear", "take", "(I)I"⟩) ∈ mBig := mBig_in 395 (by decide +kernel) rfl
theorem k_380 : (Cond.selects "EdgeWear" ⟨"EdgeWear", "take", "(I)I"⟩ ⟨"EdgeWear", "take", "(I)I"⟩) ∈ mBig := mBig_in 396 (by decide +kernel) rfl
set_option maxRecDepth 100000 in
theorem k_381 : (Cond.code ⟨"EdgeWear", "take", "(I)I"⟩ prog_1_method_9_code 3 (some FieldType.int)) ∈ mBig := mBig_in 397 (rfl) rfl
theorem k_382 : (Cond.methodLink "EdgeWear" 139 ⟨"EdgeWear", "nextSpare", "(I)I"⟩) ∈ mBig := mBig_in 398 (by decide +kernel) rfl
theorem k_384 : (Cond.instanceMethod ⟨"EdgeWear", "nextSpare", "(I)I"⟩) ∈ mBig := mBig_in 400 (by decide +kernel) rfl
set_option maxRecDepth 100000 in
theorem k_385 : (Cond.code ⟨"EdgeWear", "nextSpare", "(I)I"⟩ prog_1_method_25_code 6 (some FieldType.int)) ∈ mBig := mBig_in 401 (rfl) rfl
theorem k_386 : (Cond.constant "EdgeWear" 263 (1000001 : Int32)) ∈ mBig := mBig_in 402 (by decide +kernel) rfl
theorem k_387 : (Cond.methodLink "EdgeWearLaw" 132 ⟨"EdgeWearLaw", "bring", "(LEdgeWear;I[J)I"⟩) ∈ mBig := mBig_in 403 (by decide +kernel) rfl
theorem k_388 : (Cond.static ⟨"EdgeWearLaw", "bring", "(LEdgeWear;I[J)I"⟩) ∈ mBig := mBig_in 404 (by decide +kernel) rfl
set_option maxRecDepth 100000 in
theorem k_389 : (Cond.codeWith ⟨"EdgeWearLaw", "bring", "(LEdgeWear;I[J)I"⟩ method_11_code 4 (some FieldType.int) [(0, 16, 19, 13)]) ∈ mBig := mBig_in 405 (rfl) rfl
theorem k_390 : (Cond.methodLink "EdgeWearLaw" 46 ⟨"EdgeWear", "bring", "(I)Z"⟩) ∈ mBig := mBig_in 406 (by decide +kernel) rfl
theorem k_391 : (Cond.instanceMethod ⟨"EdgeWear", "bring", "(I)Z"⟩) ∈ mBig := mBig_in 407 (by decide +kernel) rfl
theorem k_392 : (Cond.selects "EdgeWear" ⟨"EdgeWear", "bring", "(I)Z"⟩ ⟨"EdgeWear", "bring", "(I)Z"⟩) ∈ mBig := mBig_in 408 (by decide +kernel) rfl
set_option maxRecDepth 100000 in
theorem k_393 : (Cond.code ⟨"EdgeWear", "bring", "(I)Z"⟩ prog_1_method_10_code 4 (some FieldType.boolean)) ∈ mBig := mBig_in 409 (rfl) rfl
theorem k_394 : (Cond.methodLink "EdgeWearLaw" 135 ⟨"EdgeWearLaw", "life", "(LEdgeWear;II[J)I"⟩) ∈ mBig := mBig_in 410 (by decide +kernel) rfl
theorem k_395 : (Cond.static ⟨"EdgeWearLaw", "life", "(LEdgeWear;II[J)I"⟩) ∈ mBig := mBig_in 411 (by decide +kernel) rfl
set_option maxRecDepth 100000 in
theorem k_396 : (Cond.codeWith ⟨"EdgeWearLaw", "life", "(LEdgeWear;II[J)I"⟩ method_12_code 5 (some FieldType.int) [(0, 10, 13, 13), (0, 10, 17, 15), (0, 10, 21, 17)]) ∈ mBig := mBig_in 412 (rfl) rfl
theorem k_397 : (Cond.methodLink "EdgeWearLaw" 50 ⟨"EdgeWear", "life", "(II)I"⟩) ∈ mBig := mBig_in 413 (by decide +kernel) rfl
theorem k_398 : (Cond.instanceMethod ⟨"EdgeWear", "life", "(II)I"⟩) ∈ mBig := mBig_in 414 (by decide +kernel) rfl
theorem k_399 : (Cond.selects "EdgeWear" ⟨"EdgeWear", "life", "(II)I"⟩ ⟨"EdgeWear", "life", "(II)I"⟩) ∈ mBig := mBig_in 415 (by decide +kernel) rfl
set_option maxRecDepth 100000 in
theorem k_400 : (Cond.code ⟨"EdgeWear", "life", "(II)I"⟩ prog_1_method_11_code 4 (some FieldType.int)) ∈ mBig := mBig_in 416 (rfl) rfl
theorem k_403 : (Cond.methodLink "EdgeWearLaw" 138 ⟨"EdgeWearLaw", "cost", "(LEdgeWear;III)I"⟩) ∈ mBig := mBig_in 419 (by decide +kernel) rfl
theorem k_404 : (Cond.static ⟨"EdgeWearLaw", "cost", "(LEdgeWear;III)I"⟩) ∈ mBig := mBig_in 420 (by decide +kernel) rfl
set_option maxRecDepth 100000 in
theorem k_405 : (Cond.codeWith ⟨"EdgeWearLaw", "cost", "(LEdgeWear;III)I"⟩ method_13_code 5 (some FieldType.int) [(0, 7, 10, 13), (0, 7, 14, 15)]) ∈ mBig := mBig_in 421 (rfl) rfl
theorem k_406 : (Cond.methodLink "EdgeWearLaw" 54 ⟨"EdgeWear", "cost", "(III)V"⟩) ∈ mBig := mBig_in 422 (by decide +kernel) rfl
theorem k_407 : (Cond.instanceMethod ⟨"EdgeWear", "cost", "(III)V"⟩) ∈ mBig := mBig_in 423 (by decide +kernel) rfl
theorem k_408 : (Cond.selects "EdgeWear" ⟨"EdgeWear", "cost", "(III)V"⟩ ⟨"EdgeWear", "cost", "(III)V"⟩) ∈ mBig := mBig_in 424 (by decide +kernel) rfl
set_option maxRecDepth 100000 in
theorem k_409 : (Cond.code ⟨"EdgeWear", "cost", "(III)V"⟩ prog_1_method_12_code 5 none) ∈ mBig := mBig_in 425 (rfl) rfl
theorem k_411 : (Cond.methodLink "EdgeWearLaw" 141 ⟨"EdgeWearLaw", "change", "(LEdgeWear;I[J)I"⟩) ∈ mBig := mBig_in 427 (by decide +kernel) rfl
theorem k_412 : (Cond.static ⟨"EdgeWearLaw", "change", "(LEdgeWear;I[J)I"⟩) ∈ mBig := mBig_in 428 (by decide +kernel) rfl
set_option maxRecDepth 100000 in
theorem k_413 : (Cond.codeWith ⟨"EdgeWearLaw", "change", "(LEdgeWear;I[J)I"⟩ method_14_code 4 (some FieldType.int) [(0, 9, 12, 13), (0, 9, 15, 17)]) ∈ mBig := mBig_in 429 (rfl) rfl
theorem k_414 : (Cond.methodLink "EdgeWearLaw" 57 ⟨"EdgeWear", "change", "(I)I"⟩) ∈ mBig := mBig_in 430 (by decide +kernel) rfl
theorem k_415 : (Cond.instanceMethod ⟨"EdgeWear", "change", "(I)I"⟩) ∈ mBig := mBig_in 431 (by decide +kernel) rfl
theorem k_416 : (Cond.selects "EdgeWear" ⟨"EdgeWear", "change", "(I)I"⟩ ⟨"EdgeWear", "change", "(I)I"⟩) ∈ mBig := mBig_in 432 (by decide +kernel) rfl
set_option maxRecDepth 100000 in
theorem k_417 : (Cond.code ⟨"EdgeWear", "change", "(I)I"⟩ prog_1_method_13_code 3 (some FieldType.int)) ∈ mBig := mBig_in 433 (rfl) rfl
theorem k_419 : (Cond.methodLink "EdgeWear" 166 ⟨"EdgeWear$Sort", "bestUses", "()I"⟩) ∈ mBig := mBig_in 435 (by decide +kernel) rfl
theorem k_420 : (Cond.instanceMethod ⟨"EdgeWear$Sort", "bestUses", "()I"⟩) ∈ mBig := mBig_in 436 (by decide +kernel) rfl
theorem k_421 : (Cond.selects "EdgeWear$Sort" ⟨"EdgeWear$Sort", "bestUses", "()I"⟩ ⟨"EdgeWear$Sort", "bestUses", "()I"⟩) ∈ mBig := mBig_in 437 (by decide +kernel) rfl
set_option maxRecDepth 100000 in
theorem k_422 : (Cond.code ⟨"EdgeWear$Sort", "bestUses", "()I"⟩ prog_5_method_5_code 3 (some FieldType.int)) ∈ mBig := mBig_in 438 (rfl) rfl
theorem k_423 : (Cond.methodLink "EdgeWear$Sort" 43 ⟨"EdgeWear$Sort", "isBetter", "(II)Z"⟩) ∈ mBig := mBig_in 439 (by decide +kernel) rfl
theorem k_424 : (Cond.instanceMethod ⟨"EdgeWear$Sort", "isBetter", "(II)Z"⟩) ∈ mBig := mBig_in 440 (by decide +kernel) rfl
theorem k_425 : (Cond.selects "EdgeWear$Sort" ⟨"EdgeWear$Sort", "isBetter", "(II)Z"⟩ ⟨"EdgeWear$Sort", "isBetter", "(II)Z"⟩) ∈ mBig := mBig_in 441 (by decide +kernel) rfl
set_option maxRecDepth 100000 in
theorem k_426 : (Cond.code ⟨"EdgeWear$Sort", "isBetter", "(II)Z"⟩ prog_5_method_6_code 7 (some FieldType.boolean)) ∈ mBig := mBig_in 442 (rfl) rfl
theorem k_427 : (Cond.methodLink "EdgeWear$Sort" 47 ⟨"EdgeWear$Sort", "costAt", "(I)J"⟩) ∈ mBig := mBig_in 443 (by decide +kernel) rfl
theorem k_428 : (Cond.instanceMethod ⟨"EdgeWear$Sort", "costAt", "(I)J"⟩) ∈ mBig := mBig_in 444 (by decide +kernel) rfl
theorem k_429 : (Cond.selects "EdgeWear$Sort" ⟨"EdgeWear$Sort", "costAt", "(I)J"⟩ ⟨"EdgeWear$Sort", "costAt", "(I)J"⟩) ∈ mBig := mBig_in 445 (by decide +kernel) rfl
set_option maxRecDepth 100000 in
theorem k_430 : (Cond.code ⟨"EdgeWear$Sort", "costAt", "(I)J"⟩ prog_5_method_3_code 5 (some FieldType.long)) ∈ mBig := mBig_in 446 (rfl) rfl
theorem k_431 : (Cond.methodLink "EdgeWear$Sort" 51 ⟨"EdgeWear$Sort", "usesAt", "(I)J"⟩) ∈ mBig := mBig_in 447 (by decide +kernel) rfl
theorem k_432 : (Cond.instanceMethod ⟨"EdgeWear$Sort", "usesAt", "(I)J"⟩) ∈ mBig := mBig_in 448 (by decide +kernel) rfl
theorem k_433 : (Cond.selects "EdgeWear$Sort" ⟨"EdgeWear$Sort", "usesAt", "(I)J"⟩ ⟨"EdgeWear$Sort", "usesAt", "(I)J"⟩) ∈ mBig := mBig_in 449 (by decide +kernel) rfl
set_option maxRecDepth 100000 in
theorem k_434 : (Cond.code ⟨"EdgeWear$Sort", "usesAt", "(I)J"⟩ prog_5_method_4_code 5 (some FieldType.long)) ∈ mBig := mBig_in 450 (rfl) rfl
theorem k_435 : (Cond.methodLink "EdgeWear$Sort" 40 ⟨"java/lang/Math", "min", "(II)I"⟩) ∈ mBig := mBig_in 451 (by decide +kernel) rfl
theorem k_436 : (Cond.static ⟨"java/lang/Math", "min", "(II)I"⟩) ∈ mBig := mBig_in 452 (by decide +kernel) rfl
set_option maxRecDepth 100000 in
theorem k_437 : (Cond.code ⟨"java/lang/Math", "min", "(II)I"⟩ prog_13_method_69_code 2 (some FieldType.int)) ∈ mBig := mBig_in 453 (rfl) rfl
theorem k_438 : (Cond.methodLink "EdgeWearLaw" 144 ⟨"EdgeWearLaw", "changed", "(LEdgeWear;III[J)I"⟩) ∈ mBig := mBig_in 454 (by decide +kernel) rfl
theorem k_439 : (Cond.static ⟨"EdgeWearLaw", "changed", "(LEdgeWear;III[J)I"⟩) ∈ mBig := mBig_in 455 (by decide +kernel) rfl
set_option maxRecDepth 100000 in
theorem k_440 : (Cond.codeWith ⟨"EdgeWearLaw", "changed", "(LEdgeWear;III[J)I"⟩ method_15_code 6 (some FieldType.int) [(0, 11, 14, 13), (0, 11, 18, 15), (0, 11, 22, 17)]) ∈ mBig := mBig_in 456 (rfl) rfl
theorem k_441 : (Cond.methodLink "EdgeWearLaw" 60 ⟨"EdgeWear", "changed", "(III)J"⟩) ∈ mBig := mBig_in 457 (by decide +kernel) rfl
theorem k_442 : (Cond.instanceMethod ⟨"EdgeWear", "changed", "(III)J"⟩) ∈ mBig := mBig_in 458 (by decide +kernel) rfl
theorem k_443 : (Cond.selects "EdgeWear" ⟨"EdgeWear", "changed", "(III)J"⟩ ⟨"EdgeWear", "changed", "(III)J"⟩) ∈ mBig := mBig_in 459 (by decide +kernel) rfl
set_option maxRecDepth 100000 in
theorem k_444 : (Cond.code ⟨"EdgeWear", "changed", "(III)J"⟩ prog_1_method_14_code 5 (some FieldType.long)) ∈ mBig := mBig_in 460 (rfl) rfl
theorem k_447 : (Cond.methodLink "EdgeWear" 173 ⟨"EdgeWear$Sort", "greatestLife", "()I"⟩) ∈ mBig := mBig_in 463 (by decide +kernel) rfl
theorem k_448 : (Cond.instanceMethod ⟨"EdgeWear$Sort", "greatestLife", "()I"⟩) ∈ mBig := mBig_in 464 (by decide +kernel) rfl
theorem k_449 : (Cond.selects "EdgeWear$Sort" ⟨"EdgeWear$Sort", "greatestLife", "()I"⟩ ⟨"EdgeWear$Sort", "greatestLife", "()I"⟩) ∈ mBig := mBig_in 465 (by decide +kernel) rfl
set_option maxRecDepth 100000 in
theorem k_450 : (Cond.code ⟨"EdgeWear$Sort", "greatestLife", "()I"⟩ prog_5_method_2_code 3 (some FieldType.int)) ∈ mBig := mBig_in 466 (rfl) rfl
theorem k_451 : (Cond.methodLink "EdgeWear$Sort" 34 ⟨"java/lang/Math", "max", "(II)I"⟩) ∈ mBig := mBig_in 467 (by decide +kernel) rfl
theorem k_452 : (Cond.static ⟨"java/lang/Math", "max", "(II)I"⟩) ∈ mBig := mBig_in 468 (by decide +kernel) rfl
set_option maxRecDepth 100000 in
theorem k_453 : (Cond.code ⟨"java/lang/Math", "max", "(II)I"⟩ prog_13_method_65_code 2 (some FieldType.int)) ∈ mBig := mBig_in 469 (rfl) rfl
theorem k_455 : (Cond.methodLink "EdgeWear" 178 ⟨"EdgeWear$Sort", "costAt", "(I)J"⟩) ∈ mBig := mBig_in 471 (by decide +kernel) rfl
theorem k_456 : (Cond.methodLink "EdgeWear" 182 ⟨"EdgeWear$Sort", "usesAt", "(I)J"⟩) ∈ mBig := mBig_in 472 (by decide +kernel) rfl
theorem k_457 : (Cond.methodLink "EdgeWearLaw" 147 ⟨"EdgeWearLaw", "breaks", "(LEdgeWear;II[J)I"⟩) ∈ mBig := mBig_in 473 (by decide +kernel) rfl
theorem k_458 : (Cond.static ⟨"EdgeWearLaw", "breaks", "(LEdgeWear;II[J)I"⟩) ∈ mBig := mBig_in 474 (by decide +kernel) rfl
set_option maxRecDepth 100000 in
theorem k_459 : (Cond.codeWith ⟨"EdgeWearLaw", "breaks", "(LEdgeWear;II[J)I"⟩ method_16_code 5 (some FieldType.int) [(0, 10, 13, 13), (0, 10, 17, 15), (0, 10, 21, 17)]) ∈ mBig := mBig_in 475 (rfl) rfl
theorem k_460 : (Cond.methodLink "EdgeWearLaw" 64 ⟨"EdgeWear", "breaks", "(II)I"⟩) ∈ mBig := mBig_in 476 (by decide +kernel) rfl
theorem k_461 : (Cond.instanceMethod ⟨"EdgeWear", "breaks", "(II)I"⟩) ∈ mBig := mBig_in 477 (by decide +kernel) rfl
theorem k_462 : (Cond.selects "EdgeWear" ⟨"EdgeWear", "breaks", "(II)I"⟩ ⟨"EdgeWear", "breaks", "(II)I"⟩) ∈ mBig := mBig_in 478 (by decide +kernel) rfl
set_option maxRecDepth 100000 in
theorem k_463 : (Cond.code ⟨"EdgeWear", "breaks", "(II)I"⟩ prog_1_method_15_code 5 (some FieldType.int)) ∈ mBig := mBig_in 479 (rfl) rfl
theorem k_465 : (Cond.methodLink "EdgeWear" 187 ⟨"EdgeWear", "mixed", "(II)J"⟩) ∈ mBig := mBig_in 481 (by decide +kernel) rfl
theorem k_467 : (Cond.instanceMethod ⟨"EdgeWear", "mixed", "(II)J"⟩) ∈ mBig := mBig_in 483 (by decide +kernel) rfl
set_option maxRecDepth 100000 in
theorem k_468 : (Cond.code ⟨"EdgeWear", "mixed", "(II)J"⟩ prog_1_method_26_code 5 (some FieldType.long)) ∈ mBig := mBig_in 484 (rfl) rfl
theorem k_469 : (Cond.constantLong "EdgeWear" 251 (4 : Int64)) ∈ mBig := mBig_in 485 (by decide +kernel) rfl
theorem k_470 : (Cond.constantLong "EdgeWear" 264 (-7046029254386353131 : Int64)) ∈ mBig := mBig_in 486 (by decide +kernel) rfl
theorem k_471 : (Cond.constantLong "EdgeWear" 266 (-4658895280553007687 : Int64)) ∈ mBig := mBig_in 487 (by decide +kernel) rfl
theorem k_472 : (Cond.constantLong "EdgeWear" 268 (-7723592293110705685 : Int64)) ∈ mBig := mBig_in 488 (by decide +kernel) rfl
theorem k_473 : (Cond.methodLink "EdgeWearLaw" 150 ⟨"EdgeWearLaw", "rules", "(LEdgeWear;IIII)I"⟩) ∈ mBig := mBig_in 489 (by decide +kernel) rfl
theorem k_474 : (Cond.static ⟨"EdgeWearLaw", "rules", "(LEdgeWear;IIII)I"⟩) ∈ mBig := mBig_in 490 (by decide +kernel) rfl
set_option maxRecDepth 100000 in
theorem k_475 : (Cond.codeWith ⟨"EdgeWearLaw", "rules", "(LEdgeWear;IIII)I"⟩ method_17_code 6 (some FieldType.int) [(0, 9, 12, 15)]) ∈ mBig := mBig_in 491 (rfl) rfl
theorem k_476 : (Cond.methodLink "EdgeWearLaw" 67 ⟨"EdgeWear", "rules", "(IIII)V"⟩) ∈ mBig := mBig_in 492 (by decide +kernel) rfl
theorem k_477 : (Cond.instanceMethod ⟨"EdgeWear", "rules", "(IIII)V"⟩) ∈ mBig := mBig_in 493 (by decide +kernel) rfl
theorem k_478 : (Cond.selects "EdgeWear" ⟨"EdgeWear", "rules", "(IIII)V"⟩ ⟨"EdgeWear", "rules", "(IIII)V"⟩) ∈ mBig := mBig_in 494 (by decide +kernel) rfl
set_option maxRecDepth 100000 in
theorem k_479 : (Cond.code ⟨"EdgeWear", "rules", "(IIII)V"⟩ prog_1_method_16_code 5 none) ∈ mBig := mBig_in 495 (rfl) rfl
theorem k_482 : (Cond.methodLink "EdgeWearLaw" 154 ⟨"EdgeWearLaw", "power", "(LEdgeWear;III[J)I"⟩) ∈ mBig := mBig_in 498 (by decide +kernel) rfl
theorem k_483 : (Cond.static ⟨"EdgeWearLaw", "power", "(LEdgeWear;III[J)I"⟩) ∈ mBig := mBig_in 499 (by decide +kernel) rfl
set_option maxRecDepth 100000 in
theorem k_484 : (Cond.codeWith ⟨"EdgeWearLaw", "power", "(LEdgeWear;III[J)I"⟩ method_18_code 6 (some FieldType.int) [(0, 12, 15, 13), (0, 12, 19, 15)]) ∈ mBig := mBig_in 500 (rfl) rfl
theorem k_485 : (Cond.methodLink "EdgeWearLaw" 71 ⟨"EdgeWear", "power", "(III)I"⟩) ∈ mBig := mBig_in 501 (by decide +kernel) rfl
theorem k_486 : (Cond.instanceMethod ⟨"EdgeWear", "power", "(III)I"⟩) ∈ mBig := mBig_in 502 (by decide +kernel) rfl
theorem k_487 : (Cond.selects "EdgeWear" ⟨"EdgeWear", "power", "(III)I"⟩ ⟨"EdgeWear", "power", "(III)I"⟩) ∈ mBig := mBig_in 503 (by decide +kernel) rfl
set_option maxRecDepth 100000 in
theorem k_488 : (Cond.code ⟨"EdgeWear", "power", "(III)I"⟩ prog_1_method_17_code 5 (some FieldType.int)) ∈ mBig := mBig_in 504 (rfl) rfl
theorem k_491 : (Cond.methodLink "EdgeWear" 220 ⟨"EdgeWear$Readings", "add", "(II)V"⟩) ∈ mBig := mBig_in 507 (by decide +kernel) rfl
theorem k_492 : (Cond.instanceMethod ⟨"EdgeWear$Readings", "add", "(II)V"⟩) ∈ mBig := mBig_in 508 (by decide +kernel) rfl
theorem k_493 : (Cond.selects "EdgeWear$Readings" ⟨"EdgeWear$Readings", "add", "(II)V"⟩ ⟨"EdgeWear$Readings", "add", "(II)V"⟩) ∈ mBig := mBig_in 509 (by decide +kernel) rfl
set_option maxRecDepth 100000 in
theorem k_494 : (Cond.code ⟨"EdgeWear$Readings", "add", "(II)V"⟩ prog_3_method_2_code 3 none) ∈ mBig := mBig_in 510 (rfl) rfl
theorem k_495 : (Cond.methodLink "EdgeWear$Readings" 19 ⟨"java/lang/System", "arraycopy", "(Ljava/lang/Object;ILjava/lang/Object;II)V"⟩) ∈ mBig := mBig_in 511 (by decide +kernel) rfl
theorem k_496 : (Cond.static ⟨"java/lang/System", "arraycopy", "(Ljava/lang/Object;ILjava/lang/Object;II)V"⟩) ∈ mBig := mBig_in 512 (by decide +kernel) rfl
theorem k_497 : (Cond.native ⟨"java/lang/System", "arraycopy", "(Ljava/lang/Object;ILjava/lang/Object;II)V"⟩) ∈ mBig := mBig_in 513 (by decide +kernel) rfl
theorem k_498 : (Cond.methodLink "EdgeWear$Readings" 28 ⟨"java/lang/Math", "min", "(II)I"⟩) ∈ mBig := mBig_in 514 (by decide +kernel) rfl
theorem k_499 : (Cond.methodLink "EdgeWear" 224 ⟨"EdgeWear$Rules", "firstThatTells", "(LEdgeWear$Readings;)I"⟩) ∈ mBig := mBig_in 515 (by decide +kernel) rfl
theorem k_500 : (Cond.instanceMethod ⟨"EdgeWear$Rules", "firstThatTells", "(LEdgeWear$Readings;)I"⟩) ∈ mBig := mBig_in 516 (by decide +kernel) rfl
theorem k_501 : (Cond.selects "EdgeWear$Rules" ⟨"EdgeWear$Rules", "firstThatTells", "(LEdgeWear$Readings;)I"⟩ ⟨"EdgeWear$Rules", "firstThatTells", "(LEdgeWear$Readings;)I"⟩) ∈ mBig := mBig_in 517 (by decide +kernel) rfl
set_option maxRecDepth 100000 in
theorem k_502 : (Cond.code ⟨"EdgeWear$Rules", "firstThatTells", "(LEdgeWear$Readings;)I"⟩ prog_4_method_2_code 2 (some FieldType.int)) ∈ mBig := mBig_in 518 (rfl) rfl
theorem k_503 : (Cond.methodLink "EdgeWear$Rules" 24 ⟨"EdgeWear$Readings", "isAbove", "(I)Z"⟩) ∈ mBig := mBig_in 519 (by decide +kernel) rfl
theorem k_504 : (Cond.instanceMethod ⟨"EdgeWear$Readings", "isAbove", "(I)Z"⟩) ∈ mBig := mBig_in 520 (by decide +kernel) rfl
theorem k_505 : (Cond.selects "EdgeWear$Readings" ⟨"EdgeWear$Readings", "isAbove", "(I)Z"⟩ ⟨"EdgeWear$Readings", "isAbove", "(I)Z"⟩) ∈ mBig := mBig_in 521 (by decide +kernel) rfl
set_option maxRecDepth 100000 in
theorem k_506 : (Cond.code ⟨"EdgeWear$Readings", "isAbove", "(I)Z"⟩ prog_3_method_3_code 2 (some FieldType.boolean)) ∈ mBig := mBig_in 522 (rfl) rfl
theorem k_507 : (Cond.methodLink "EdgeWear$Rules" 30 ⟨"EdgeWear$Readings", "isRising", "(I)Z"⟩) ∈ mBig := mBig_in 523 (by decide +kernel) rfl
theorem k_508 : (Cond.instanceMethod ⟨"EdgeWear$Readings", "isRising", "(I)Z"⟩) ∈ mBig := mBig_in 524 (by decide +kernel) rfl
theorem k_509 : (Cond.selects "EdgeWear$Readings" ⟨"EdgeWear$Readings", "isRising", "(I)Z"⟩ ⟨"EdgeWear$Readings", "isRising", "(I)Z"⟩) ∈ mBig := mBig_in 525 (by decide +kernel) rfl
set_option maxRecDepth 100000 in
theorem k_510 : (Cond.code ⟨"EdgeWear$Readings", "isRising", "(I)Z"⟩ prog_3_method_4_code 3 (some FieldType.boolean)) ∈ mBig := mBig_in 526 (rfl) rfl
theorem k_511 : (Cond.methodLink "EdgeWear$Rules" 33 ⟨"EdgeWear$Readings", "staysAbove", "(II)Z"⟩) ∈ mBig := mBig_in 527 (by decide +kernel) rfl
theorem k_512 : (Cond.instanceMethod ⟨"EdgeWear$Readings", "staysAbove", "(II)Z"⟩) ∈ mBig := mBig_in 528 (by decide +kernel) rfl
theorem k_513 : (Cond.selects "EdgeWear$Readings" ⟨"EdgeWear$Readings", "staysAbove", "(II)Z"⟩ ⟨"EdgeWear$Readings", "staysAbove", "(II)Z"⟩) ∈ mBig := mBig_in 529 (by decide +kernel) rfl
set_option maxRecDepth 100000 in
theorem k_514 : (Cond.code ⟨"EdgeWear$Readings", "staysAbove", "(II)Z"⟩ prog_3_method_5_code 4 (some FieldType.boolean)) ∈ mBig := mBig_in 530 (rfl) rfl
theorem k_515 : (Cond.methodLink "EdgeWear$Rules" 37 ⟨"EdgeWear$Readings", "isJumping", "(I)Z"⟩) ∈ mBig := mBig_in 531 (by decide +kernel) rfl
theorem k_516 : (Cond.instanceMethod ⟨"EdgeWear$Readings", "isJumping", "(I)Z"⟩) ∈ mBig := mBig_in 532 (by decide +kernel) rfl
theorem k_517 : (Cond.selects "EdgeWear$Readings" ⟨"EdgeWear$Readings", "isJumping", "(I)Z"⟩ ⟨"EdgeWear$Readings", "isJumping", "(I)Z"⟩) ∈ mBig := mBig_in 533 (by decide +kernel) rfl
set_option maxRecDepth 100000 in
theorem k_518 : (Cond.code ⟨"EdgeWear$Readings", "isJumping", "(I)Z"⟩ prog_3_method_6_code 2 (some FieldType.boolean)) ∈ mBig := mBig_in 534 (rfl) rfl
theorem k_519 : (Cond.methodLink "EdgeWear$Readings" 34 ⟨"EdgeWear$Readings", "step", "(I)I"⟩) ∈ mBig := mBig_in 535 (by decide +kernel) rfl
theorem k_520 : (Cond.instanceMethod ⟨"EdgeWear$Readings", "step", "(I)I"⟩) ∈ mBig := mBig_in 536 (by decide +kernel) rfl
theorem k_521 : (Cond.selects "EdgeWear$Readings" ⟨"EdgeWear$Readings", "step", "(I)I"⟩ ⟨"EdgeWear$Readings", "step", "(I)I"⟩) ∈ mBig := mBig_in 537 (by decide +kernel) rfl
set_option maxRecDepth 100000 in
theorem k_522 : (Cond.code ⟨"EdgeWear$Readings", "step", "(I)I"⟩ prog_3_method_7_code 2 (some FieldType.int)) ∈ mBig := mBig_in 538 (rfl) rfl
theorem k_523 : (Cond.methodLink "EdgeWear$Readings" 38 ⟨"java/lang/Math", "abs", "(I)I"⟩) ∈ mBig := mBig_in 539 (by decide +kernel) rfl
theorem k_524 : (Cond.static ⟨"java/lang/Math", "abs", "(I)I"⟩) ∈ mBig := mBig_in 540 (by decide +kernel) rfl
set_option maxRecDepth 100000 in
theorem k_525 : (Cond.code ⟨"java/lang/Math", "abs", "(I)I"⟩ prog_13_method_59_code 1 (some FieldType.int)) ∈ mBig := mBig_in 541 (rfl) rfl
theorem k_526 : (Cond.methodLink "EdgeWearLaw" 157 ⟨"EdgeWearLaw", "order", "(LEdgeWear;II[J)I"⟩) ∈ mBig := mBig_in 542 (by decide +kernel) rfl
theorem k_527 : (Cond.static ⟨"EdgeWearLaw", "order", "(LEdgeWear;II[J)I"⟩) ∈ mBig := mBig_in 543 (by decide +kernel) rfl
set_option maxRecDepth 100000 in
theorem k_528 : (Cond.codeWith ⟨"EdgeWearLaw", "order", "(LEdgeWear;II[J)I"⟩ method_19_code 5 (some FieldType.int) [(0, 17, 20, 13), (0, 17, 24, 15)]) ∈ mBig := mBig_in 544 (rfl) rfl
theorem k_529 : (Cond.methodLink "EdgeWearLaw" 74 ⟨"EdgeWear", "order", "(II)Z"⟩) ∈ mBig := mBig_in 545 (by decide +kernel) rfl
theorem k_530 : (Cond.instanceMethod ⟨"EdgeWear", "order", "(II)Z"⟩) ∈ mBig := mBig_in 546 (by decide +kernel) rfl
theorem k_531 : (Cond.selects "EdgeWear" ⟨"EdgeWear", "order", "(II)Z"⟩ ⟨"EdgeWear", "order", "(II)Z"⟩) ∈ mBig := mBig_in 547 (by decide +kernel) rfl
set_option maxRecDepth 100000 in
theorem k_532 : (Cond.code ⟨"EdgeWear", "order", "(II)Z"⟩ prog_1_method_18_code 4 (some FieldType.boolean)) ∈ mBig := mBig_in 548 (rfl) rfl
theorem k_534 : (Cond.instantiable "EdgeWear$Order" 3) ∈ mBig := mBig_in 550 (by decide +kernel) rfl
theorem k_535 : (Cond.methodLink "EdgeWear" 233 ⟨"EdgeWear$Order", "<init>", "(II)V"⟩) ∈ mBig := mBig_in 551 (by decide +kernel) rfl
theorem k_536 : (Cond.instanceMethod ⟨"EdgeWear$Order", "<init>", "(II)V"⟩) ∈ mBig := mBig_in 552 (by decide +kernel) rfl
set_option maxRecDepth 100000 in
theorem k_537 : (Cond.code ⟨"EdgeWear$Order", "<init>", "(II)V"⟩ prog_2_method_1_code 3 none) ∈ mBig := mBig_in 553 (rfl) rfl
theorem k_538 : (Cond.methodLink "EdgeWear$Order" 1 ⟨"java/lang/Object", "<init>", "()V"⟩) ∈ mBig := mBig_in 554 (by decide +kernel) rfl
theorem k_539 : (Cond.fieldLink "EdgeWear$Order" 7 "EdgeWear$Order" "sort" "I") ∈ mBig := mBig_in 555 (by decide +kernel) rfl
theorem k_540 : (Cond.fieldLink "EdgeWear$Order" 13 "EdgeWear$Order" "day" "I") ∈ mBig := mBig_in 556 (by decide +kernel) rfl
theorem k_541 : (Cond.fieldLink "EdgeWear$Order" 16 "EdgeWear$Order" "done" "Z") ∈ mBig := mBig_in 557 (by decide +kernel) rfl
theorem k_542 : (Cond.fieldLink "EdgeWear" 242 "EdgeWear$Order" "done" "Z") ∈ mBig := mBig_in 558 (by decide +kernel) rfl
theorem k_550 : (Cond.methodLink "EdgeWearLaw" 160 ⟨"EdgeWearLaw", "joined", "(LEdgeWear;II[J)I"⟩) ∈ mBig := mBig_in 566 (by decide +kernel) rfl
theorem k_551 : (Cond.static ⟨"EdgeWearLaw", "joined", "(LEdgeWear;II[J)I"⟩) ∈ mBig := mBig_in 567 (by decide +kernel) rfl
set_option maxRecDepth 100000 in
theorem k_552 : (Cond.codeWith ⟨"EdgeWearLaw", "joined", "(LEdgeWear;II[J)I"⟩ method_20_code 5 (some FieldType.int) [(0, 10, 13, 13), (0, 10, 17, 15)]) ∈ mBig := mBig_in 568 (rfl) rfl
theorem k_553 : (Cond.methodLink "EdgeWearLaw" 77 ⟨"EdgeWear", "joined", "(II)I"⟩) ∈ mBig := mBig_in 569 (by decide +kernel) rfl
theorem k_554 : (Cond.instanceMethod ⟨"EdgeWear", "joined", "(II)I"⟩) ∈ mBig := mBig_in 570 (by decide +kernel) rfl
theorem k_555 : (Cond.selects "EdgeWear" ⟨"EdgeWear", "joined", "(II)I"⟩ ⟨"EdgeWear", "joined", "(II)I"⟩) ∈ mBig := mBig_in 571 (by decide +kernel) rfl
set_option maxRecDepth 100000 in
theorem k_556 : (Cond.code ⟨"EdgeWear", "joined", "(II)I"⟩ prog_1_method_19_code 4 (some FieldType.int)) ∈ mBig := mBig_in 572 (rfl) rfl
theorem k_557 : (Cond.methodLink "EdgeWear" 235 ⟨"EdgeWear", "isAnyDue", "(II)Z"⟩) ∈ mBig := mBig_in 573 (by decide +kernel) rfl
theorem k_559 : (Cond.instanceMethod ⟨"EdgeWear", "isAnyDue", "(II)Z"⟩) ∈ mBig := mBig_in 575 (by decide +kernel) rfl
set_option maxRecDepth 100000 in
theorem k_560 : (Cond.code ⟨"EdgeWear", "isAnyDue", "(II)Z"⟩ prog_1_method_27_code 5 (some FieldType.boolean)) ∈ mBig := mBig_in 576 (rfl) rfl
theorem k_561 : (Cond.methodLink "EdgeWear" 270 ⟨"EdgeWear$Order", "isDue", "(II)Z"⟩) ∈ mBig := mBig_in 577 (by decide +kernel) rfl
theorem k_562 : (Cond.instanceMethod ⟨"EdgeWear$Order", "isDue", "(II)Z"⟩) ∈ mBig := mBig_in 578 (by decide +kernel) rfl
theorem k_563 : (Cond.selects "EdgeWear$Order" ⟨"EdgeWear$Order", "isDue", "(II)Z"⟩ ⟨"EdgeWear$Order", "isDue", "(II)Z"⟩) ∈ mBig := mBig_in 579 (by decide +kernel) rfl
set_option maxRecDepth 100000 in
theorem k_564 : (Cond.code ⟨"EdgeWear$Order", "isDue", "(II)Z"⟩ prog_2_method_2_code 3 (some FieldType.boolean)) ∈ mBig := mBig_in 580 (rfl) rfl
theorem k_565 : (Cond.methodLink "EdgeWear" 239 ⟨"EdgeWear", "closeDue", "(II)I"⟩) ∈ mBig := mBig_in 581 (by decide +kernel) rfl
theorem k_567 : (Cond.instanceMethod ⟨"EdgeWear", "closeDue", "(II)I"⟩) ∈ mBig := mBig_in 583 (by decide +kernel) rfl
set_option maxRecDepth 100000 in
theorem k_568 : (Cond.code ⟨"EdgeWear", "closeDue", "(II)I"⟩ prog_1_method_28_code 6 (some FieldType.int)) ∈ mBig := mBig_in 584 (rfl) rfl
theorem k_569 : (Cond.methodLink "EdgeWearLaw" 167 ⟨"EdgeWearLaw", "chip", "(LEdgeWear;IIII[J)I"⟩) ∈ mBig := mBig_in 585 (by decide +kernel) rfl
theorem k_570 : (Cond.static ⟨"EdgeWearLaw", "chip", "(LEdgeWear;IIII[J)I"⟩) ∈ mBig := mBig_in 586 (by decide +kernel) rfl
set_option maxRecDepth 100000 in
theorem k_571 : (Cond.codeWith ⟨"EdgeWearLaw", "chip", "(LEdgeWear;IIII[J)I"⟩ method_21_code 7 (some FieldType.int) [(0, 14, 17, 13), (0, 14, 21, 15)]) ∈ mBig := mBig_in 587 (rfl) rfl
theorem k_572 : (Cond.methodLink "EdgeWearLaw" 80 ⟨"EdgeWear", "chip", "(IIII)I"⟩) ∈ mBig := mBig_in 588 (by decide +kernel) rfl
theorem k_573 : (Cond.instanceMethod ⟨"EdgeWear", "chip", "(IIII)I"⟩) ∈ mBig := mBig_in 589 (by decide +kernel) rfl
theorem k_574 : (Cond.selects "EdgeWear" ⟨"EdgeWear", "chip", "(IIII)I"⟩ ⟨"EdgeWear", "chip", "(IIII)I"⟩) ∈ mBig := mBig_in 590 (by decide +kernel) rfl
set_option maxRecDepth 100000 in
theorem k_575 : (Cond.code ⟨"EdgeWear", "chip", "(IIII)I"⟩ prog_1_method_21_code 10 (some FieldType.int)) ∈ mBig := mBig_in 591 (rfl) rfl
theorem k_579 : (Cond.methodLink "EdgeWear" 253 ⟨"EdgeWear", "wholeThickness", "(JI)I"⟩) ∈ mBig := mBig_in 595 (by decide +kernel) rfl
theorem k_580 : (Cond.static ⟨"EdgeWear", "wholeThickness", "(JI)I"⟩) ∈ mBig := mBig_in 596 (by decide +kernel) rfl
set_option maxRecDepth 100000 in
theorem k_581 : (Cond.code ⟨"EdgeWear", "wholeThickness", "(JI)I"⟩ prog_1_method_29_code 7 (some FieldType.int)) ∈ mBig := mBig_in 597 (rfl) rfl
theorem k_582 : (Cond.constant "EdgeWear" 273 (524288 : Int32)) ∈ mBig := mBig_in 598 (by decide +kernel) rfl
theorem k_583 : (Cond.classLink "EdgeWearLaw" 93 "EdgeWearModel") ∈ mBig := mBig_in 599 (by decide +kernel) rfl
theorem k_584 : (Cond.instantiable "EdgeWearModel" 28) ∈ mBig := mBig_in 600 (by decide +kernel) rfl
theorem k_585 : (Cond.methodLink "EdgeWearLaw" 95 ⟨"EdgeWearModel", "<init>", "(I)V"⟩) ∈ mBig := mBig_in 601 (by decide +kernel) rfl
theorem k_586 : (Cond.instanceMethod ⟨"EdgeWearModel", "<init>", "(I)V"⟩) ∈ mBig := mBig_in 602 (by decide +kernel) rfl
set_option maxRecDepth 100000 in
theorem k_587 : (Cond.code ⟨"EdgeWearModel", "<init>", "(I)V"⟩ prog_8_method_1_code 2 none) ∈ mBig := mBig_in 603 (rfl) rfl
theorem k_588 : (Cond.methodLink "EdgeWearModel" 1 ⟨"java/lang/Object", "<init>", "()V"⟩) ∈ mBig := mBig_in 604 (by decide +kernel) rfl
theorem k_589 : (Cond.constantLong "EdgeWearModel" 39 (1000000 : Int64)) ∈ mBig := mBig_in 605 (by decide +kernel) rfl
theorem k_590 : (Cond.fieldLink "EdgeWearModel" 88 "EdgeWearModel" "thrown" "I") ∈ mBig := mBig_in 606 (by decide +kernel) rfl
theorem k_591 : (Cond.fieldLink "EdgeWearModel" 84 "EdgeWearModel" "seed" "J") ∈ mBig := mBig_in 607 (by decide +kernel) rfl
theorem k_592 : (Cond.fieldLink "EdgeWearModel" 91 "EdgeWearModel" "tools" "I") ∈ mBig := mBig_in 608 (by decide +kernel) rfl
theorem k_593 : (Cond.fieldLink "EdgeWearModel" 7 "EdgeWearModel" "sorts" "[I") ∈ mBig := mBig_in 609 (by decide +kernel) rfl
theorem k_594 : (Cond.fieldLink "EdgeWearModel" 13 "EdgeWearModel" "lengths" "[I") ∈ mBig := mBig_in 610 (by decide +kernel) rfl
theorem k_595 : (Cond.fieldLink "EdgeWearModel" 16 "EdgeWearModel" "leasts" "[I") ∈ mBig := mBig_in 611 (by decide +kernel) rfl
theorem k_596 : (Cond.fieldLink "EdgeWearModel" 19 "EdgeWearModel" "wears" "[J") ∈ mBig := mBig_in 612 (by decide +kernel) rfl
theorem k_597 : (Cond.fieldLink "EdgeWearModel" 23 "EdgeWearModel" "barred" "[Z") ∈ mBig := mBig_in 613 (by decide +kernel) rfl
theorem k_598 : (Cond.fieldLink "EdgeWearModel" 27 "EdgeWearModel" "outs" "[Z") ∈ mBig := mBig_in 614 (by decide +kernel) rfl
theorem k_599 : (Cond.fieldLink "EdgeWearModel" 30 "EdgeWearModel" "uses" "[I") ∈ mBig := mBig_in 615 (by decide +kernel) rfl
theorem k_600 : (Cond.fieldLink "EdgeWearModel" 33 "EdgeWearModel" "grinds" "[I") ∈ mBig := mBig_in 616 (by decide +kernel) rfl
theorem k_601 : (Cond.fieldLink "EdgeWearModel" 36 "EdgeWearModel" "rates" "[J") ∈ mBig := mBig_in 617 (by decide +kernel) rfl
theorem k_602 : (Cond.fieldLink "EdgeWearModel" 41 "EdgeWearModel" "limits" "[J") ∈ mBig := mBig_in 618 (by decide +kernel) rfl
theorem k_603 : (Cond.fieldLink "EdgeWearModel" 44 "EdgeWearModel" "lives" "[I") ∈ mBig := mBig_in 619 (by decide +kernel) rfl
theorem k_604 : (Cond.fieldLink "EdgeWearModel" 47 "EdgeWearModel" "many" "[I") ∈ mBig := mBig_in 620 (by decide +kernel) rfl
theorem k_605 : (Cond.fieldLink "EdgeWearModel" 50 "EdgeWearModel" "changes" "[J") ∈ mBig := mBig_in 621 (by decide +kernel) rfl
theorem k_606 : (Cond.fieldLink "EdgeWearModel" 53 "EdgeWearModel" "fails" "[J") ∈ mBig := mBig_in 622 (by decide +kernel) rfl
theorem k_607 : (Cond.fieldLink "EdgeWearModel" 56 "EdgeWearModel" "high" "I") ∈ mBig := mBig_in 623 (by decide +kernel) rfl
theorem k_608 : (Cond.fieldLink "EdgeWearModel" 60 "EdgeWearModel" "run" "I") ∈ mBig := mBig_in 624 (by decide +kernel) rfl
theorem k_609 : (Cond.fieldLink "EdgeWearModel" 63 "EdgeWearModel" "middle" "I") ∈ mBig := mBig_in 625 (by decide +kernel) rfl
theorem k_610 : (Cond.fieldLink "EdgeWearModel" 66 "EdgeWearModel" "jump" "I") ∈ mBig := mBig_in 626 (by decide +kernel) rfl
theorem k_611 : (Cond.fieldLink "EdgeWearModel" 69 "EdgeWearModel" "readings" "[I") ∈ mBig := mBig_in 627 (by decide +kernel) rfl
theorem k_612 : (Cond.fieldLink "EdgeWearModel" 72 "EdgeWearModel" "has" "[I") ∈ mBig := mBig_in 628 (by decide +kernel) rfl
theorem k_613 : (Cond.fieldLink "EdgeWearModel" 75 "EdgeWearModel" "minutes" "[I") ∈ mBig := mBig_in 629 (by decide +kernel) rfl
theorem k_614 : (Cond.fieldLink "EdgeWearModel" 78 "EdgeWearModel" "orderTools" "[I") ∈ mBig := mBig_in 630 (by decide +kernel) rfl
theorem k_615 : (Cond.fieldLink "EdgeWearModel" 81 "EdgeWearModel" "orderDays" "[I") ∈ mBig := mBig_in 631 (by decide +kernel) rfl
theorem k_616 : (Cond.fieldLink "EdgeWearModel" 159 "EdgeWearModel" "orders" "I") ∈ mBig := mBig_in 632 (by decide +kernel) rfl
theorem k_617 : (Cond.fieldLink "EdgeWearModel" 156 "EdgeWearModel" "toldOrders" "I") ∈ mBig := mBig_in 633 (by decide +kernel) rfl
theorem k_675 : (Cond.arrayClass FieldType.long) ∈ mBig := mBig_in 691 (by decide +kernel) rfl
theorem k_676 : (Cond.arrayClass FieldType.boolean) ∈ mBig := mBig_in 692 (by decide +kernel) rfl
theorem k_677 : (Cond.methodLink "EdgeWearLaw" 100 ⟨"EdgeWearModel", "thrown", "()I"⟩) ∈ mBig := mBig_in 693 (by decide +kernel) rfl
theorem k_678 : (Cond.instanceMethod ⟨"EdgeWearModel", "thrown", "()I"⟩) ∈ mBig := mBig_in 694 (by decide +kernel) rfl
theorem k_679 : (Cond.selects "EdgeWearModel" ⟨"EdgeWearModel", "thrown", "()I"⟩ ⟨"EdgeWearModel", "thrown", "()I"⟩) ∈ mBig := mBig_in 695 (by decide +kernel) rfl
set_option maxRecDepth 100000 in
theorem k_680 : (Cond.code ⟨"EdgeWearModel", "thrown", "()I"⟩ prog_8_method_2_code 1 (some FieldType.int)) ∈ mBig := mBig_in 696 (rfl) rfl
theorem k_681 : (Cond.methodLink "EdgeWearLaw" 99 ⟨"EdgeWearModel", "tool", "(III)I"⟩) ∈ mBig := mBig_in 697 (by decide +kernel) rfl
theorem k_682 : (Cond.instanceMethod ⟨"EdgeWearModel", "tool", "(III)I"⟩) ∈ mBig := mBig_in 698 (by decide +kernel) rfl
theorem k_683 : (Cond.selects "EdgeWearModel" ⟨"EdgeWearModel", "tool", "(III)I"⟩ ⟨"EdgeWearModel", "tool", "(III)I"⟩) ∈ mBig := mBig_in 699 (by decide +kernel) rfl
set_option maxRecDepth 100000 in
theorem k_684 : (Cond.code ⟨"EdgeWearModel", "tool", "(III)I"⟩ prog_8_method_6_code 4 (some FieldType.int)) ∈ mBig := mBig_in 700 (rfl) rfl
theorem k_685 : (Cond.methodLink "EdgeWearModel" 94 ⟨"EdgeWearModel", "isFour", "(I)Z"⟩) ∈ mBig := mBig_in 701 (by decide +kernel) rfl
theorem k_686 : (Cond.static ⟨"EdgeWearModel", "isFour", "(I)Z"⟩) ∈ mBig := mBig_in 702 (by decide +kernel) rfl
set_option maxRecDepth 100000 in
theorem k_687 : (Cond.code ⟨"EdgeWearModel", "isFour", "(I)Z"⟩ prog_8_method_4_code 1 (some FieldType.boolean)) ∈ mBig := mBig_in 703 (rfl) rfl
theorem k_688 : (Cond.methodLink "EdgeWearModel" 98 ⟨"EdgeWearModel", "isIn", "(JJJ)Z"⟩) ∈ mBig := mBig_in 704 (by decide +kernel) rfl
theorem k_689 : (Cond.static ⟨"EdgeWearModel", "isIn", "(JJJ)Z"⟩) ∈ mBig := mBig_in 705 (by decide +kernel) rfl
set_option maxRecDepth 100000 in
theorem k_690 : (Cond.code ⟨"EdgeWearModel", "isIn", "(JJJ)Z"⟩ prog_8_method_3_code 6 (some FieldType.boolean)) ∈ mBig := mBig_in 706 (rfl) rfl
theorem k_691 : (Cond.constant "EdgeWearModel" 102 (1000000 : Int32)) ∈ mBig := mBig_in 707 (by decide +kernel) rfl
theorem k_692 : (Cond.methodLink "EdgeWearLaw" 107 ⟨"EdgeWearModel", "rate", "(III)V"⟩) ∈ mBig := mBig_in 708 (by decide +kernel) rfl
theorem k_693 : (Cond.instanceMethod ⟨"EdgeWearModel", "rate", "(III)V"⟩) ∈ mBig := mBig_in 709 (by decide +kernel) rfl
theorem k_694 : (Cond.selects "EdgeWearModel" ⟨"EdgeWearModel", "rate", "(III)V"⟩ ⟨"EdgeWearModel", "rate", "(III)V"⟩) ∈ mBig := mBig_in 710 (by decide +kernel) rfl
set_option maxRecDepth 100000 in
theorem k_695 : (Cond.code ⟨"EdgeWearModel", "rate", "(III)V"⟩ prog_8_method_7_code 4 none) ∈ mBig := mBig_in 711 (rfl) rfl
theorem k_696 : (Cond.methodLink "EdgeWearLaw" 113 ⟨"EdgeWearModel", "limit", "(IJ)V"⟩) ∈ mBig := mBig_in 712 (by decide +kernel) rfl
theorem k_697 : (Cond.instanceMethod ⟨"EdgeWearModel", "limit", "(IJ)V"⟩) ∈ mBig := mBig_in 713 (by decide +kernel) rfl
theorem k_698 : (Cond.selects "EdgeWearModel" ⟨"EdgeWearModel", "limit", "(IJ)V"⟩ ⟨"EdgeWearModel", "limit", "(IJ)V"⟩) ∈ mBig := mBig_in 714 (by decide +kernel) rfl
set_option maxRecDepth 100000 in
theorem k_699 : (Cond.code ⟨"EdgeWearModel", "limit", "(IJ)V"⟩ prog_8_method_8_code 4 none) ∈ mBig := mBig_in 715 (rfl) rfl
theorem k_700 : (Cond.constantLong "EdgeWearModel" 103 (1000000000000 : Int64)) ∈ mBig := mBig_in 716 (by decide +kernel) rfl
theorem k_701 : (Cond.methodLink "EdgeWearLaw" 117 ⟨"EdgeWearModel", "use", "(IIII)Z"⟩) ∈ mBig := mBig_in 717 (by decide +kernel) rfl
theorem k_702 : (Cond.instanceMethod ⟨"EdgeWearModel", "use", "(IIII)Z"⟩) ∈ mBig := mBig_in 718 (by decide +kernel) rfl
theorem k_703 : (Cond.selects "EdgeWearModel" ⟨"EdgeWearModel", "use", "(IIII)Z"⟩ ⟨"EdgeWearModel", "use", "(IIII)Z"⟩) ∈ mBig := mBig_in 719 (by decide +kernel) rfl
set_option maxRecDepth 100000 in
theorem k_704 : (Cond.code ⟨"EdgeWearModel", "use", "(IIII)Z"⟩ prog_8_method_10_code 5 (some FieldType.boolean)) ∈ mBig := mBig_in 720 (rfl) rfl
theorem k_705 : (Cond.methodLink "EdgeWearModel" 105 ⟨"EdgeWearModel", "noTool", "(I)Z"⟩) ∈ mBig := mBig_in 721 (by decide +kernel) rfl
theorem k_707 : (Cond.instanceMethod ⟨"EdgeWearModel", "noTool", "(I)Z"⟩) ∈ mBig := mBig_in 723 (by decide +kernel) rfl
set_option maxRecDepth 100000 in
theorem k_708 : (Cond.code ⟨"EdgeWearModel", "noTool", "(I)Z"⟩ prog_8_method_5_code 2 (some FieldType.boolean)) ∈ mBig := mBig_in 724 (rfl) rfl
theorem k_709 : (Cond.constantLong "EdgeWearModel" 108 (1000000000000000 : Int64)) ∈ mBig := mBig_in 725 (by decide +kernel) rfl
theorem k_710 : (Cond.methodLink "EdgeWearModel" 110 ⟨"EdgeWearModel", "isBlunt", "(I)Z"⟩) ∈ mBig := mBig_in 726 (by decide +kernel) rfl
theorem k_712 : (Cond.instanceMethod ⟨"EdgeWearModel", "isBlunt", "(I)Z"⟩) ∈ mBig := mBig_in 728 (by decide +kernel) rfl
set_option maxRecDepth 100000 in
theorem k_713 : (Cond.code ⟨"EdgeWearModel", "isBlunt", "(I)Z"⟩ prog_8_method_9_code 2 (some FieldType.boolean)) ∈ mBig := mBig_in 729 (rfl) rfl
theorem k_714 : (Cond.methodLink "EdgeWearLaw" 121 ⟨"EdgeWearModel", "grind", "(II)Z"⟩) ∈ mBig := mBig_in 730 (by decide +kernel) rfl
theorem k_715 : (Cond.instanceMethod ⟨"EdgeWearModel", "grind", "(II)Z"⟩) ∈ mBig := mBig_in 731 (by decide +kernel) rfl
theorem k_716 : (Cond.selects "EdgeWearModel" ⟨"EdgeWearModel", "grind", "(II)Z"⟩ ⟨"EdgeWearModel", "grind", "(II)Z"⟩) ∈ mBig := mBig_in 732 (by decide +kernel) rfl
set_option maxRecDepth 100000 in
theorem k_717 : (Cond.code ⟨"EdgeWearModel", "grind", "(II)Z"⟩ prog_8_method_11_code 3 (some FieldType.boolean)) ∈ mBig := mBig_in 733 (rfl) rfl
theorem k_718 : (Cond.methodLink "EdgeWearLaw" 124 ⟨"EdgeWearModel", "about", "(II)J"⟩) ∈ mBig := mBig_in 734 (by decide +kernel) rfl
theorem k_719 : (Cond.instanceMethod ⟨"EdgeWearModel", "about", "(II)J"⟩) ∈ mBig := mBig_in 735 (by decide +kernel) rfl
theorem k_720 : (Cond.selects "EdgeWearModel" ⟨"EdgeWearModel", "about", "(II)J"⟩ ⟨"EdgeWearModel", "about", "(II)J"⟩) ∈ mBig := mBig_in 736 (by decide +kernel) rfl
set_option maxRecDepth 100000 in
theorem k_721 : (Cond.code ⟨"EdgeWearModel", "about", "(II)J"⟩ prog_8_method_12_code 3 (some FieldType.long)) ∈ mBig := mBig_in 737 (rfl) rfl
theorem k_722 : (Cond.constantLong "EdgeWearModel" 113 (5 : Int64)) ∈ mBig := mBig_in 738 (by decide +kernel) rfl
theorem k_723 : (Cond.methodLink "EdgeWearLaw" 128 ⟨"EdgeWearModel", "spare", "(I)I"⟩) ∈ mBig := mBig_in 739 (by decide +kernel) rfl
theorem k_724 : (Cond.instanceMethod ⟨"EdgeWearModel", "spare", "(I)I"⟩) ∈ mBig := mBig_in 740 (by decide +kernel) rfl
theorem k_725 : (Cond.selects "EdgeWearModel" ⟨"EdgeWearModel", "spare", "(I)I"⟩ ⟨"EdgeWearModel", "spare", "(I)I"⟩) ∈ mBig := mBig_in 741 (by decide +kernel) rfl
set_option maxRecDepth 100000 in
theorem k_726 : (Cond.code ⟨"EdgeWearModel", "spare", "(I)I"⟩ prog_8_method_14_code 4 (some FieldType.int)) ∈ mBig := mBig_in 742 (rfl) rfl
theorem k_727 : (Cond.methodLink "EdgeWearModel" 115 ⟨"EdgeWearModel", "isSpare", "(II)Z"⟩) ∈ mBig := mBig_in 743 (by decide +kernel) rfl
theorem k_729 : (Cond.instanceMethod ⟨"EdgeWearModel", "isSpare", "(II)Z"⟩) ∈ mBig := mBig_in 745 (by decide +kernel) rfl
set_option maxRecDepth 100000 in
theorem k_730 : (Cond.code ⟨"EdgeWearModel", "isSpare", "(II)Z"⟩ prog_8_method_13_code 3 (some FieldType.boolean)) ∈ mBig := mBig_in 746 (rfl) rfl
theorem k_731 : (Cond.methodLink "EdgeWearLaw" 131 ⟨"EdgeWearModel", "take", "(I)I"⟩) ∈ mBig := mBig_in 747 (by decide +kernel) rfl
theorem k_732 : (Cond.instanceMethod ⟨"EdgeWearModel", "take", "(I)I"⟩) ∈ mBig := mBig_in 748 (by decide +kernel) rfl
theorem k_733 : (Cond.selects "EdgeWearModel" ⟨"EdgeWearModel", "take", "(I)I"⟩ ⟨"EdgeWearModel", "take", "(I)I"⟩) ∈ mBig := mBig_in 749 (by decide +kernel) rfl
set_option maxRecDepth 100000 in
theorem k_734 : (Cond.code ⟨"EdgeWearModel", "take", "(I)I"⟩ prog_8_method_15_code 4 (some FieldType.int)) ∈ mBig := mBig_in 750 (rfl) rfl
theorem k_735 : (Cond.methodLink "EdgeWearLaw" 134 ⟨"EdgeWearModel", "bring", "(I)Z"⟩) ∈ mBig := mBig_in 751 (by decide +kernel) rfl
theorem k_736 : (Cond.instanceMethod ⟨"EdgeWearModel", "bring", "(I)Z"⟩) ∈ mBig := mBig_in 752 (by decide +kernel) rfl
theorem k_737 : (Cond.selects "EdgeWearModel" ⟨"EdgeWearModel", "bring", "(I)Z"⟩ ⟨"EdgeWearModel", "bring", "(I)Z"⟩) ∈ mBig := mBig_in 753 (by decide +kernel) rfl
set_option maxRecDepth 100000 in
theorem k_738 : (Cond.code ⟨"EdgeWearModel", "bring", "(I)Z"⟩ prog_8_method_16_code 3 (some FieldType.boolean)) ∈ mBig := mBig_in 754 (rfl) rfl
theorem k_739 : (Cond.methodLink "EdgeWearLaw" 137 ⟨"EdgeWearModel", "life", "(II)I"⟩) ∈ mBig := mBig_in 755 (by decide +kernel) rfl
theorem k_740 : (Cond.instanceMethod ⟨"EdgeWearModel", "life", "(II)I"⟩) ∈ mBig := mBig_in 756 (by decide +kernel) rfl
theorem k_741 : (Cond.selects "EdgeWearModel" ⟨"EdgeWearModel", "life", "(II)I"⟩ ⟨"EdgeWearModel", "life", "(II)I"⟩) ∈ mBig := mBig_in 757 (by decide +kernel) rfl
set_option maxRecDepth 100000 in
theorem k_742 : (Cond.code ⟨"EdgeWearModel", "life", "(II)I"⟩ prog_8_method_17_code 3 (some FieldType.int)) ∈ mBig := mBig_in 758 (rfl) rfl
theorem k_743 : (Cond.constantLong "EdgeWearModel" 119 (1000 : Int64)) ∈ mBig := mBig_in 759 (by decide +kernel) rfl
theorem k_744 : (Cond.methodLink "EdgeWearLaw" 140 ⟨"EdgeWearModel", "cost", "(III)V"⟩) ∈ mBig := mBig_in 760 (by decide +kernel) rfl
theorem k_745 : (Cond.instanceMethod ⟨"EdgeWearModel", "cost", "(III)V"⟩) ∈ mBig := mBig_in 761 (by decide +kernel) rfl
theorem k_746 : (Cond.selects "EdgeWearModel" ⟨"EdgeWearModel", "cost", "(III)V"⟩ ⟨"EdgeWearModel", "cost", "(III)V"⟩) ∈ mBig := mBig_in 762 (by decide +kernel) rfl
set_option maxRecDepth 100000 in
theorem k_747 : (Cond.code ⟨"EdgeWearModel", "cost", "(III)V"⟩ prog_8_method_18_code 4 none) ∈ mBig := mBig_in 763 (rfl) rfl
theorem k_748 : (Cond.methodLink "EdgeWearLaw" 143 ⟨"EdgeWearModel", "change", "(I)I"⟩) ∈ mBig := mBig_in 764 (by decide +kernel) rfl
theorem k_749 : (Cond.instanceMethod ⟨"EdgeWearModel", "change", "(I)I"⟩) ∈ mBig := mBig_in 765 (by decide +kernel) rfl
theorem k_750 : (Cond.selects "EdgeWearModel" ⟨"EdgeWearModel", "change", "(I)I"⟩ ⟨"EdgeWearModel", "change", "(I)I"⟩) ∈ mBig := mBig_in 766 (by decide +kernel) rfl
set_option maxRecDepth 100000 in
theorem k_751 : (Cond.code ⟨"EdgeWearModel", "change", "(I)I"⟩ prog_8_method_22_code 4 (some FieldType.int)) ∈ mBig := mBig_in 767 (rfl) rfl
theorem k_752 : (Cond.methodLink "EdgeWearModel" 121 ⟨"EdgeWearModel", "greatest", "(I)I"⟩) ∈ mBig := mBig_in 768 (by decide +kernel) rfl
theorem k_754 : (Cond.instanceMethod ⟨"EdgeWearModel", "greatest", "(I)I"⟩) ∈ mBig := mBig_in 770 (by decide +kernel) rfl
set_option maxRecDepth 100000 in
theorem k_755 : (Cond.code ⟨"EdgeWearModel", "greatest", "(I)I"⟩ prog_8_method_21_code 5 (some FieldType.int)) ∈ mBig := mBig_in 771 (rfl) rfl
theorem k_756 : (Cond.methodLink "EdgeWearModel" 125 ⟨"EdgeWearModel", "costs", "(II)J"⟩) ∈ mBig := mBig_in 772 (by decide +kernel) rfl
theorem k_758 : (Cond.instanceMethod ⟨"EdgeWearModel", "costs", "(II)J"⟩) ∈ mBig := mBig_in 774 (by decide +kernel) rfl
set_option maxRecDepth 100000 in
theorem k_759 : (Cond.code ⟨"EdgeWearModel", "costs", "(II)J"⟩ prog_8_method_19_code 6 (some FieldType.long)) ∈ mBig := mBig_in 775 (rfl) rfl
theorem k_760 : (Cond.methodLink "EdgeWearModel" 129 ⟨"EdgeWearModel", "brings", "(II)J"⟩) ∈ mBig := mBig_in 776 (by decide +kernel) rfl
theorem k_762 : (Cond.instanceMethod ⟨"EdgeWearModel", "brings", "(II)J"⟩) ∈ mBig := mBig_in 778 (by decide +kernel) rfl
set_option maxRecDepth 100000 in
theorem k_763 : (Cond.code ⟨"EdgeWearModel", "brings", "(II)J"⟩ prog_8_method_20_code 7 (some FieldType.long)) ∈ mBig := mBig_in 779 (rfl) rfl
theorem k_764 : (Cond.methodLink "EdgeWearLaw" 146 ⟨"EdgeWearModel", "changed", "(III)J"⟩) ∈ mBig := mBig_in 780 (by decide +kernel) rfl
theorem k_765 : (Cond.instanceMethod ⟨"EdgeWearModel", "changed", "(III)J"⟩) ∈ mBig := mBig_in 781 (by decide +kernel) rfl
theorem k_766 : (Cond.selects "EdgeWearModel" ⟨"EdgeWearModel", "changed", "(III)J"⟩ ⟨"EdgeWearModel", "changed", "(III)J"⟩) ∈ mBig := mBig_in 782 (by decide +kernel) rfl
set_option maxRecDepth 100000 in
theorem k_767 : (Cond.code ⟨"EdgeWearModel", "changed", "(III)J"⟩ prog_8_method_23_code 4 (some FieldType.long)) ∈ mBig := mBig_in 783 (rfl) rfl
theorem k_768 : (Cond.methodLink "EdgeWearLaw" 149 ⟨"EdgeWearModel", "breaks", "(II)I"⟩) ∈ mBig := mBig_in 784 (by decide +kernel) rfl
theorem k_769 : (Cond.instanceMethod ⟨"EdgeWearModel", "breaks", "(II)I"⟩) ∈ mBig := mBig_in 785 (by decide +kernel) rfl
theorem k_770 : (Cond.selects "EdgeWearModel" ⟨"EdgeWearModel", "breaks", "(II)I"⟩ ⟨"EdgeWearModel", "breaks", "(II)I"⟩) ∈ mBig := mBig_in 786 (by decide +kernel) rfl
set_option maxRecDepth 100000 in
theorem k_771 : (Cond.code ⟨"EdgeWearModel", "breaks", "(II)I"⟩ prog_8_method_24_code 5 (some FieldType.int)) ∈ mBig := mBig_in 787 (rfl) rfl
theorem k_772 : (Cond.constantLong "EdgeWearModel" 132 (4 : Int64)) ∈ mBig := mBig_in 788 (by decide +kernel) rfl
theorem k_773 : (Cond.constantLong "EdgeWearModel" 134 (-7046029254386353131 : Int64)) ∈ mBig := mBig_in 789 (by decide +kernel) rfl
theorem k_774 : (Cond.constantLong "EdgeWearModel" 136 (-4658895280553007687 : Int64)) ∈ mBig := mBig_in 790 (by decide +kernel) rfl
theorem k_775 : (Cond.constantLong "EdgeWearModel" 138 (-7723592293110705685 : Int64)) ∈ mBig := mBig_in 791 (by decide +kernel) rfl
theorem k_776 : (Cond.methodLink "EdgeWearLaw" 153 ⟨"EdgeWearModel", "rules", "(IIII)V"⟩) ∈ mBig := mBig_in 792 (by decide +kernel) rfl
theorem k_777 : (Cond.instanceMethod ⟨"EdgeWearModel", "rules", "(IIII)V"⟩) ∈ mBig := mBig_in 793 (by decide +kernel) rfl
theorem k_778 : (Cond.selects "EdgeWearModel" ⟨"EdgeWearModel", "rules", "(IIII)V"⟩ ⟨"EdgeWearModel", "rules", "(IIII)V"⟩) ∈ mBig := mBig_in 794 (by decide +kernel) rfl
set_option maxRecDepth 100000 in
theorem k_779 : (Cond.code ⟨"EdgeWearModel", "rules", "(IIII)V"⟩ prog_8_method_25_code 6 none) ∈ mBig := mBig_in 795 (rfl) rfl
theorem k_780 : (Cond.constantLong "EdgeWearModel" 140 (2 : Int64)) ∈ mBig := mBig_in 796 (by decide +kernel) rfl
theorem k_781 : (Cond.constantLong "EdgeWearModel" 142 (12 : Int64)) ∈ mBig := mBig_in 797 (by decide +kernel) rfl
theorem k_782 : (Cond.methodLink "EdgeWearLaw" 156 ⟨"EdgeWearModel", "power", "(III)I"⟩) ∈ mBig := mBig_in 798 (by decide +kernel) rfl
theorem k_783 : (Cond.instanceMethod ⟨"EdgeWearModel", "power", "(III)I"⟩) ∈ mBig := mBig_in 799 (by decide +kernel) rfl
theorem k_784 : (Cond.selects "EdgeWearModel" ⟨"EdgeWearModel", "power", "(III)I"⟩ ⟨"EdgeWearModel", "power", "(III)I"⟩) ∈ mBig := mBig_in 800 (by decide +kernel) rfl
set_option maxRecDepth 100000 in
theorem k_785 : (Cond.code ⟨"EdgeWearModel", "power", "(III)I"⟩ prog_8_method_29_code 5 (some FieldType.int)) ∈ mBig := mBig_in 801 (rfl) rfl
theorem k_786 : (Cond.methodLink "EdgeWearModel" 151 ⟨"EdgeWearModel", "fired", "(I)I"⟩) ∈ mBig := mBig_in 802 (by decide +kernel) rfl
theorem k_788 : (Cond.instanceMethod ⟨"EdgeWearModel", "fired", "(I)I"⟩) ∈ mBig := mBig_in 804 (by decide +kernel) rfl
set_option maxRecDepth 100000 in
theorem k_789 : (Cond.code ⟨"EdgeWearModel", "fired", "(I)I"⟩ prog_8_method_28_code 5 (some FieldType.int)) ∈ mBig := mBig_in 805 (rfl) rfl
theorem k_790 : (Cond.methodLink "EdgeWearModel" 144 ⟨"EdgeWearModel", "reading", "(II)I"⟩) ∈ mBig := mBig_in 806 (by decide +kernel) rfl
theorem k_792 : (Cond.instanceMethod ⟨"EdgeWearModel", "reading", "(II)I"⟩) ∈ mBig := mBig_in 808 (by decide +kernel) rfl
set_option maxRecDepth 100000 in
theorem k_793 : (Cond.code ⟨"EdgeWearModel", "reading", "(II)I"⟩ prog_8_method_26_code 3 (some FieldType.int)) ∈ mBig := mBig_in 809 (rfl) rfl
theorem k_794 : (Cond.methodLink "EdgeWearModel" 148 ⟨"EdgeWearModel", "apart", "(II)I"⟩) ∈ mBig := mBig_in 810 (by decide +kernel) rfl
theorem k_795 : (Cond.static ⟨"EdgeWearModel", "apart", "(II)I"⟩) ∈ mBig := mBig_in 811 (by decide +kernel) rfl
set_option maxRecDepth 100000 in
theorem k_796 : (Cond.code ⟨"EdgeWearModel", "apart", "(II)I"⟩ prog_8_method_27_code 2 (some FieldType.int)) ∈ mBig := mBig_in 812 (rfl) rfl
theorem k_797 : (Cond.methodLink "EdgeWearLaw" 159 ⟨"EdgeWearModel", "order", "(II)Z"⟩) ∈ mBig := mBig_in 813 (by decide +kernel) rfl
theorem k_798 : (Cond.instanceMethod ⟨"EdgeWearModel", "order", "(II)Z"⟩) ∈ mBig := mBig_in 814 (by decide +kernel) rfl
theorem k_799 : (Cond.selects "EdgeWearModel" ⟨"EdgeWearModel", "order", "(II)Z"⟩ ⟨"EdgeWearModel", "order", "(II)Z"⟩) ∈ mBig := mBig_in 815 (by decide +kernel) rfl
set_option maxRecDepth 100000 in
theorem k_800 : (Cond.code ⟨"EdgeWearModel", "order", "(II)Z"⟩ prog_8_method_30_code 3 (some FieldType.boolean)) ∈ mBig := mBig_in 816 (rfl) rfl
theorem k_801 : (Cond.constantLong "EdgeWearModel" 154 (10000 : Int64)) ∈ mBig := mBig_in 817 (by decide +kernel) rfl
theorem k_802 : (Cond.methodLink "EdgeWearLaw" 162 ⟨"EdgeWearModel", "joined", "(II)I"⟩) ∈ mBig := mBig_in 818 (by decide +kernel) rfl
theorem k_803 : (Cond.instanceMethod ⟨"EdgeWearModel", "joined", "(II)I"⟩) ∈ mBig := mBig_in 819 (by decide +kernel) rfl
theorem k_804 : (Cond.selects "EdgeWearModel" ⟨"EdgeWearModel", "joined", "(II)I"⟩ ⟨"EdgeWearModel", "joined", "(II)I"⟩) ∈ mBig := mBig_in 820 (by decide +kernel) rfl
set_option maxRecDepth 100000 in
theorem k_805 : (Cond.code ⟨"EdgeWearModel", "joined", "(II)I"⟩ prog_8_method_32_code 6 (some FieldType.int)) ∈ mBig := mBig_in 821 (rfl) rfl
theorem k_806 : (Cond.methodLink "EdgeWearModel" 162 ⟨"EdgeWearModel", "isDue", "(III)Z"⟩) ∈ mBig := mBig_in 822 (by decide +kernel) rfl
theorem k_808 : (Cond.instanceMethod ⟨"EdgeWearModel", "isDue", "(III)Z"⟩) ∈ mBig := mBig_in 824 (by decide +kernel) rfl
set_option maxRecDepth 100000 in
theorem k_809 : (Cond.code ⟨"EdgeWearModel", "isDue", "(III)Z"⟩ prog_8_method_31_code 4 (some FieldType.boolean)) ∈ mBig := mBig_in 825 (rfl) rfl
theorem k_810 : (Cond.methodLink "EdgeWearLaw" 166 ⟨"EdgeWearModel", "open", "()I"⟩) ∈ mBig := mBig_in 826 (by decide +kernel) rfl
theorem k_811 : (Cond.instanceMethod ⟨"EdgeWearModel", "open", "()I"⟩) ∈ mBig := mBig_in 827 (by decide +kernel) rfl
theorem k_812 : (Cond.selects "EdgeWearModel" ⟨"EdgeWearModel", "open", "()I"⟩ ⟨"EdgeWearModel", "open", "()I"⟩) ∈ mBig := mBig_in 828 (by decide +kernel) rfl
set_option maxRecDepth 100000 in
theorem k_813 : (Cond.code ⟨"EdgeWearModel", "open", "()I"⟩ prog_8_method_33_code 1 (some FieldType.int)) ∈ mBig := mBig_in 829 (rfl) rfl
theorem k_814 : (Cond.methodLink "EdgeWearLaw" 169 ⟨"EdgeWearModel", "chip", "(IIII)I"⟩) ∈ mBig := mBig_in 830 (by decide +kernel) rfl
theorem k_815 : (Cond.instanceMethod ⟨"EdgeWearModel", "chip", "(IIII)I"⟩) ∈ mBig := mBig_in 831 (by decide +kernel) rfl
theorem k_816 : (Cond.selects "EdgeWearModel" ⟨"EdgeWearModel", "chip", "(IIII)I"⟩ ⟨"EdgeWearModel", "chip", "(IIII)I"⟩) ∈ mBig := mBig_in 832 (by decide +kernel) rfl
set_option maxRecDepth 100000 in
theorem k_817 : (Cond.code ⟨"EdgeWearModel", "chip", "(IIII)I"⟩ prog_8_method_34_code 16 (some FieldType.int)) ∈ mBig := mBig_in 833 (rfl) rfl
theorem k_818 : (Cond.constantLong "EdgeWearModel" 166 (1000001 : Int64)) ∈ mBig := mBig_in 834 (by decide +kernel) rfl
theorem k_819 : (Cond.constantLong "EdgeWearLaw" 108 (4294967295 : Int64)) ∈ mBig := mBig_in 835 (by decide +kernel) rfl
theorem ks_0 : (Cond.selects "EdgeWear" ⟨"EdgeWear", "sortAt", "(I)LEdgeWear$Sort;"⟩ ⟨"EdgeWear", "sortAt", "(I)LEdgeWear$Sort;"⟩) ∈ mBig := mBig_in 0 (by decide +kernel) rfl
theorem ks_1 : (Cond.selects "java/lang/Throwable" ⟨"java/lang/Throwable", "fillInStackTrace", "(I)Ljava/lang/Throwable;"⟩ ⟨"java/lang/Throwable", "fillInStackTrace", "(I)Ljava/lang/Throwable;"⟩) ∈ mBig := mBig_in 1 (by decide +kernel) rfl
theorem ks_2 : (Cond.selects "EdgeWear" ⟨"EdgeWear", "toolAt", "(I)LEdgeWear$Tool;"⟩ ⟨"EdgeWear", "toolAt", "(I)LEdgeWear$Tool;"⟩) ∈ mBig := mBig_in 2 (by decide +kernel) rfl
theorem ks_3 : (Cond.selects "EdgeWear" ⟨"EdgeWear", "nextSpare", "(I)I"⟩ ⟨"EdgeWear", "nextSpare", "(I)I"⟩) ∈ mBig := mBig_in 3 (by decide +kernel) rfl
theorem ks_4 : (Cond.selects "EdgeWear" ⟨"EdgeWear", "mixed", "(II)J"⟩ ⟨"EdgeWear", "mixed", "(II)J"⟩) ∈ mBig := mBig_in 4 (by decide +kernel) rfl
theorem ks_5 : (Cond.selects "EdgeWear" ⟨"EdgeWear", "isAnyDue", "(II)Z"⟩ ⟨"EdgeWear", "isAnyDue", "(II)Z"⟩) ∈ mBig := mBig_in 5 (by decide +kernel) rfl
theorem ks_6 : (Cond.selects "EdgeWear" ⟨"EdgeWear", "closeDue", "(II)I"⟩ ⟨"EdgeWear", "closeDue", "(II)I"⟩) ∈ mBig := mBig_in 6 (by decide +kernel) rfl
theorem ks_7 : (Cond.selects "EdgeWearModel" ⟨"EdgeWearModel", "noTool", "(I)Z"⟩ ⟨"EdgeWearModel", "noTool", "(I)Z"⟩) ∈ mBig := mBig_in 7 (by decide +kernel) rfl
theorem ks_8 : (Cond.selects "EdgeWearModel" ⟨"EdgeWearModel", "isBlunt", "(I)Z"⟩ ⟨"EdgeWearModel", "isBlunt", "(I)Z"⟩) ∈ mBig := mBig_in 8 (by decide +kernel) rfl
theorem ks_9 : (Cond.selects "EdgeWearModel" ⟨"EdgeWearModel", "isSpare", "(II)Z"⟩ ⟨"EdgeWearModel", "isSpare", "(II)Z"⟩) ∈ mBig := mBig_in 9 (by decide +kernel) rfl
theorem ks_10 : (Cond.selects "EdgeWearModel" ⟨"EdgeWearModel", "greatest", "(I)I"⟩ ⟨"EdgeWearModel", "greatest", "(I)I"⟩) ∈ mBig := mBig_in 10 (by decide +kernel) rfl
theorem ks_11 : (Cond.selects "EdgeWearModel" ⟨"EdgeWearModel", "costs", "(II)J"⟩ ⟨"EdgeWearModel", "costs", "(II)J"⟩) ∈ mBig := mBig_in 11 (by decide +kernel) rfl
theorem ks_12 : (Cond.selects "EdgeWearModel" ⟨"EdgeWearModel", "brings", "(II)J"⟩ ⟨"EdgeWearModel", "brings", "(II)J"⟩) ∈ mBig := mBig_in 12 (by decide +kernel) rfl
theorem ks_13 : (Cond.selects "EdgeWearModel" ⟨"EdgeWearModel", "fired", "(I)I"⟩ ⟨"EdgeWearModel", "fired", "(I)I"⟩) ∈ mBig := mBig_in 13 (by decide +kernel) rfl
theorem ks_14 : (Cond.selects "EdgeWearModel" ⟨"EdgeWearModel", "reading", "(II)I"⟩ ⟨"EdgeWearModel", "reading", "(II)I"⟩) ∈ mBig := mBig_in 14 (by decide +kernel) rfl
theorem ks_15 : (Cond.selects "EdgeWearModel" ⟨"EdgeWearModel", "isDue", "(III)Z"⟩ ⟨"EdgeWearModel", "isDue", "(III)Z"⟩) ∈ mBig := mBig_in 15 (by decide +kernel) rfl
