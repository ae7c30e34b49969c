/-! texts -/
theorem kw_14 : (Cond.initialized "java/lang/String") ∈ jw_gd := kt_1 (i := 14) (by decide +kernel) rfl
theorem kw_15 : (Cond.initialized "java/lang/StringLatin1") ∈ jw_gd := kt_1 (i := 15) (by decide +kernel) rfl
theorem kw_16 : (Cond.initialized "jdk/internal/util/Preconditions") ∈ jw_gd := kt_1 (i := 16) (by decide +kernel) rfl
theorem kw_24 : (Cond.methodLink "SwipedStripe" 1 ⟨"java/lang/Object", "<init>", "()V"⟩) ∈ jw_gd := kt_1 (i := 24) (by decide +kernel) rfl
theorem kw_25 : (Cond.instanceMethod ⟨"java/lang/Object", "<init>", "()V"⟩) ∈ jw_gd := kt_1 (i := 25) (by decide +kernel) rfl
theorem kw_27 : (Cond.classLink "SwipedStripe" 7 "SwipedStripe$Rules") ∈ jw_gd := kt_1 (i := 27) (by decide +kernel) rfl
theorem kw_28 : (Cond.instantiable "SwipedStripe$Rules" 1) ∈ jw_gd := kt_1 (i := 28) (by decide +kernel) rfl
theorem kw_29 : (Cond.methodLink "SwipedStripe" 9 ⟨"SwipedStripe$Rules", "<init>", "()V"⟩) ∈ jw_gd := kt_1 (i := 29) (by decide +kernel) rfl
theorem kw_30 : (Cond.instanceMethod ⟨"SwipedStripe$Rules", "<init>", "()V"⟩) ∈ jw_gd := kt_1 (i := 30) (by decide +kernel) rfl
theorem kw_31 : (Cond.code ⟨"SwipedStripe$Rules", "<init>", "()V"⟩ prog_7_method_1_code 1 (none : Option Jvm.ClassFile.FieldType)) ∈ jw_gd := kt_1 (i := 31) rfl rfl
theorem kw_32 : (Cond.methodLink "SwipedStripe$Rules" 3 ⟨"java/lang/Object", "<init>", "()V"⟩) ∈ jw_gd := kt_1 (i := 32) (by decide +kernel) rfl
theorem kw_33 : (Cond.methodLink "SwipedStripe$Rules" 15 ⟨"SwipedStripe$Rules", "startAgain", "()V"⟩) ∈ jw_gd := kt_1 (i := 33) (by decide +kernel) rfl
theorem kw_34 : (Cond.instanceMethod ⟨"SwipedStripe$Rules", "startAgain", "()V"⟩) ∈ jw_gd := kt_1 (i := 34) (by decide +kernel) rfl
theorem kw_35 : (Cond.selects "SwipedStripe$Rules" ⟨"SwipedStripe$Rules", "startAgain", "()V"⟩ ⟨"SwipedStripe$Rules", "startAgain", "()V"⟩) ∈ jw_gd := kt_1 (i := 35) (by decide +kernel) rfl
theorem kw_36 : (Cond.code ⟨"SwipedStripe$Rules", "startAgain", "()V"⟩ prog_7_method_2_code 2 (none : Option Jvm.ClassFile.FieldType)) ∈ jw_gd := kt_1 (i := 36) rfl rfl
theorem kw_46 : (Cond.arrayClass .int) ∈ jw_gd := kt_1 (i := 46) (by decide +kernel) rfl
theorem kw_47 : (Cond.classLink "SwipedStripe" 16 "SwipedStripe$Row") ∈ jw_gd := kt_1 (i := 47) (by decide +kernel) rfl
theorem kw_48 : (Cond.instantiable "SwipedStripe$Row" 2) ∈ jw_gd := kt_1 (i := 48) (by decide +kernel) rfl
theorem kw_49 : (Cond.methodLink "SwipedStripe" 18 ⟨"SwipedStripe$Row", "<init>", "(I)V"⟩) ∈ jw_gd := kt_1 (i := 49) (by decide +kernel) rfl
theorem kw_50 : (Cond.instanceMethod ⟨"SwipedStripe$Row", "<init>", "(I)V"⟩) ∈ jw_gd := kt_1 (i := 50) (by decide +kernel) rfl
theorem kw_51 : (Cond.code ⟨"SwipedStripe$Row", "<init>", "(I)V"⟩ prog_6_method_1_code 2 (none : Option Jvm.ClassFile.FieldType)) ∈ jw_gd := kt_1 (i := 51) rfl rfl
theorem kw_52 : (Cond.methodLink "SwipedStripe$Row" 1 ⟨"java/lang/Object", "<init>", "()V"⟩) ∈ jw_gd := kt_1 (i := 52) (by decide +kernel) rfl
theorem kw_63 : (Cond.classLink "SwipedStripe" 25 "SwipedStripe$TextReader") ∈ jw_gd := kt_1 (i := 63) (by decide +kernel) rfl
theorem kw_64 : (Cond.instantiable "SwipedStripe$TextReader" 10) ∈ jw_gd := kt_1 (i := 64) (by decide +kernel) rfl
theorem kw_66 : (Cond.instanceMethod ⟨"SwipedStripe$TextReader", "<init>", "()V"⟩) ∈ jw_gd := kt_1 (i := 66) (by decide +kernel) rfl
theorem kw_67 : (Cond.code ⟨"SwipedStripe$TextReader", "<init>", "()V"⟩ prog_11_method_1_code 1 (none : Option Jvm.ClassFile.FieldType)) ∈ jw_gd := kt_1 (i := 67) rfl rfl
theorem kw_68 : (Cond.methodLink "SwipedStripe$TextReader" 3 ⟨"java/lang/Object", "<init>", "()V"⟩) ∈ jw_gd := kt_1 (i := 68) (by decide +kernel) rfl
theorem kw_69 : (Cond.classLink "SwipedStripe$TextReader" 9 "SwipedStripe$Row") ∈ jw_gd := kt_1 (i := 69) (by decide +kernel) rfl
theorem kw_70 : (Cond.methodLink "SwipedStripe$TextReader" 11 ⟨"SwipedStripe$Row", "<init>", "(I)V"⟩) ∈ jw_gd := kt_1 (i := 70) (by decide +kernel) rfl
theorem kw_71 : (Cond.classLink "SwipedStripe$TextReader" 20 "SwipedStripe$Rules") ∈ jw_gd := kt_1 (i := 71) (by decide +kernel) rfl
theorem kw_72 : (Cond.methodLink "SwipedStripe$TextReader" 22 ⟨"SwipedStripe$Rules", "<init>", "()V"⟩) ∈ jw_gd := kt_1 (i := 72) (by decide +kernel) rfl
theorem kw_75 : (Cond.fieldLink "SwipedStripe$TextReader" 44 "SwipedStripe$TextReader" "toldOnce" "I") ∈ jw_gd := kt_1 (i := 75) (by decide +kernel) rfl
theorem kw_82 : (Cond.fieldLink "SwipedStripe$TextReader" 79 "SwipedStripe$TextReader" "meaning" "I") ∈ jw_gd := kt_1 (i := 82) (by decide +kernel) rfl
theorem kw_104 : (Cond.classLink "SwipedStripe" 35 "SwipedStripe$Stripe") ∈ jw_gd := kt_1 (i := 104) (by decide +kernel) rfl
theorem kw_105 : (Cond.instantiable "SwipedStripe$Stripe" 3) ∈ jw_gd := kt_1 (i := 105) (by decide +kernel) rfl
theorem kw_107 : (Cond.instanceMethod ⟨"SwipedStripe$Stripe", "<init>", "()V"⟩) ∈ jw_gd := kt_1 (i := 107) (by decide +kernel) rfl
theorem kw_108 : (Cond.code ⟨"SwipedStripe$Stripe", "<init>", "()V"⟩ prog_10_method_1_code 1 (none : Option Jvm.ClassFile.FieldType)) ∈ jw_gd := kt_1 (i := 108) rfl rfl
theorem kw_109 : (Cond.methodLink "SwipedStripe$Stripe" 3 ⟨"java/lang/Object", "<init>", "()V"⟩) ∈ jw_gd := kt_1 (i := 109) (by decide +kernel) rfl
theorem kw_110 : (Cond.classLink "SwipedStripe$Stripe" 9 "SwipedStripe$Row") ∈ jw_gd := kt_1 (i := 110) (by decide +kernel) rfl
theorem kw_111 : (Cond.methodLink "SwipedStripe$Stripe" 13 ⟨"SwipedStripe$Row", "<init>", "(I)V"⟩) ∈ jw_gd := kt_1 (i := 111) (by decide +kernel) rfl
theorem kw_122 : (Cond.classLink "SwipedStripe" 45 "SwipedStripe$Reading") ∈ jw_gd := kt_1 (i := 122) (by decide +kernel) rfl
theorem kw_123 : (Cond.instantiable "SwipedStripe$Reading" 7) ∈ jw_gd := kt_1 (i := 123) (by decide +kernel) rfl
theorem kw_125 : (Cond.instanceMethod ⟨"SwipedStripe$Reading", "<init>", "()V"⟩) ∈ jw_gd := kt_1 (i := 125) (by decide +kernel) rfl
theorem kw_126 : (Cond.code ⟨"SwipedStripe$Reading", "<init>", "()V"⟩ prog_5_method_1_code 1 (none : Option Jvm.ClassFile.FieldType)) ∈ jw_gd := kt_1 (i := 126) rfl rfl
theorem kw_127 : (Cond.methodLink "SwipedStripe$Reading" 3 ⟨"java/lang/Object", "<init>", "()V"⟩) ∈ jw_gd := kt_1 (i := 127) (by decide +kernel) rfl
theorem kw_128 : (Cond.classLink "SwipedStripe$Reading" 9 "SwipedStripe$Row") ∈ jw_gd := kt_1 (i := 128) (by decide +kernel) rfl
theorem kw_129 : (Cond.methodLink "SwipedStripe$Reading" 11 ⟨"SwipedStripe$Row", "<init>", "(I)V"⟩) ∈ jw_gd := kt_1 (i := 129) (by decide +kernel) rfl
theorem kw_152 : (Cond.classLink "SwipedStripe" 52 "SwipedStripe$Finding") ∈ jw_gd := kt_1 (i := 152) (by decide +kernel) rfl
theorem kw_153 : (Cond.instantiable "SwipedStripe$Finding" 9) ∈ jw_gd := kt_1 (i := 153) (by decide +kernel) rfl
theorem kw_155 : (Cond.instanceMethod ⟨"SwipedStripe$Finding", "<init>", "()V"⟩) ∈ jw_gd := kt_1 (i := 155) (by decide +kernel) rfl
theorem kw_156 : (Cond.code ⟨"SwipedStripe$Finding", "<init>", "()V"⟩ prog_4_method_1_code 1 (none : Option Jvm.ClassFile.FieldType)) ∈ jw_gd := kt_1 (i := 156) rfl rfl
theorem kw_157 : (Cond.methodLink "SwipedStripe$Finding" 3 ⟨"java/lang/Object", "<init>", "()V"⟩) ∈ jw_gd := kt_1 (i := 157) (by decide +kernel) rfl
theorem kw_158 : (Cond.classLink "SwipedStripe$Finding" 9 "SwipedStripe$Row") ∈ jw_gd := kt_1 (i := 158) (by decide +kernel) rfl
theorem kw_159 : (Cond.methodLink "SwipedStripe$Finding" 11 ⟨"SwipedStripe$Row", "<init>", "(I)V"⟩) ∈ jw_gd := kt_1 (i := 159) (by decide +kernel) rfl
theorem kw_188 : (Cond.classLink "SwipedStripe" 59 "SwipedStripe$Smoothest") ∈ jw_gd := kt_1 (i := 188) (by decide +kernel) rfl
theorem kw_189 : (Cond.instantiable "SwipedStripe$Smoothest" 4) ∈ jw_gd := kt_1 (i := 189) (by decide +kernel) rfl
theorem kw_191 : (Cond.instanceMethod ⟨"SwipedStripe$Smoothest", "<init>", "()V"⟩) ∈ jw_gd := kt_1 (i := 191) (by decide +kernel) rfl
theorem kw_192 : (Cond.code ⟨"SwipedStripe$Smoothest", "<init>", "()V"⟩ prog_9_method_1_code 1 (none : Option Jvm.ClassFile.FieldType)) ∈ jw_gd := kt_1 (i := 192) rfl rfl
theorem kw_193 : (Cond.methodLink "SwipedStripe$Smoothest" 3 ⟨"java/lang/Object", "<init>", "()V"⟩) ∈ jw_gd := kt_1 (i := 193) (by decide +kernel) rfl
theorem kw_194 : (Cond.classLink "SwipedStripe$Smoothest" 9 "SwipedStripe$Row") ∈ jw_gd := kt_1 (i := 194) (by decide +kernel) rfl
theorem kw_195 : (Cond.methodLink "SwipedStripe$Smoothest" 11 ⟨"SwipedStripe$Row", "<init>", "(I)V"⟩) ∈ jw_gd := kt_1 (i := 195) (by decide +kernel) rfl
theorem kw_209 : (Cond.classLink "SwipedStripe" 66 "SwipedStripe$Draws") ∈ jw_gd := kt_1 (i := 209) (by decide +kernel) rfl
theorem kw_210 : (Cond.instantiable "SwipedStripe$Draws" 2) ∈ jw_gd := kt_1 (i := 210) (by decide +kernel) rfl
theorem kw_211 : (Cond.methodLink "SwipedStripe" 68 ⟨"SwipedStripe$Draws", "<init>", "()V"⟩) ∈ jw_gd := kt_1 (i := 211) (by decide +kernel) rfl
theorem kw_212 : (Cond.instanceMethod ⟨"SwipedStripe$Draws", "<init>", "()V"⟩) ∈ jw_gd := kt_1 (i := 212) (by decide +kernel) rfl
theorem kw_213 : (Cond.code ⟨"SwipedStripe$Draws", "<init>", "()V"⟩ prog_3_method_1_code 2 (none : Option Jvm.ClassFile.FieldType)) ∈ jw_gd := kt_1 (i := 213) rfl rfl
theorem kw_214 : (Cond.methodLink "SwipedStripe$Draws" 3 ⟨"java/lang/Object", "<init>", "()V"⟩) ∈ jw_gd := kt_1 (i := 214) (by decide +kernel) rfl
theorem kw_215 : (Cond.classLink "SwipedStripe$Draws" 9 "SwipedStripe$Draw") ∈ jw_gd := kt_1 (i := 215) (by decide +kernel) rfl
theorem kw_217 : (Cond.instantiable "SwipedStripe$Draw" 2) ∈ jw_gd := kt_1 (i := 217) (by decide +kernel) rfl
theorem kw_219 : (Cond.instanceMethod ⟨"SwipedStripe$Draw", "<init>", "()V"⟩) ∈ jw_gd := kt_1 (i := 219) (by decide +kernel) rfl
theorem kw_220 : (Cond.code ⟨"SwipedStripe$Draw", "<init>", "()V"⟩ prog_2_method_1_code 1 (none : Option Jvm.ClassFile.FieldType)) ∈ jw_gd := kt_1 (i := 220) rfl rfl
theorem kw_221 : (Cond.methodLink "SwipedStripe$Draw" 3 ⟨"java/lang/Object", "<init>", "()V"⟩) ∈ jw_gd := kt_1 (i := 221) (by decide +kernel) rfl
theorem kw_222 : (Cond.classLink "SwipedStripe$Draw" 9 "SwipedStripe$Row") ∈ jw_gd := kt_1 (i := 222) (by decide +kernel) rfl
theorem kw_223 : (Cond.methodLink "SwipedStripe$Draw" 11 ⟨"SwipedStripe$Row", "<init>", "(I)V"⟩) ∈ jw_gd := kt_1 (i := 223) (by decide +kernel) rfl
theorem kw_238 : (Cond.classLink "SwipedStripe" 73 "SwipedStripe$Sheet") ∈ jw_gd := kt_1 (i := 238) (by decide +kernel) rfl
theorem kw_240 : (Cond.instantiable "SwipedStripe$Sheet" 2) ∈ jw_gd := kt_2 (i := 0) (by decide +kernel) rfl
theorem kw_242 : (Cond.instanceMethod ⟨"SwipedStripe$Sheet", "<init>", "()V"⟩) ∈ jw_gd := kt_2 (i := 2) (by decide +kernel) rfl
theorem kw_243 : (Cond.code ⟨"SwipedStripe$Sheet", "<init>", "()V"⟩ prog_8_method_1_code 1 (none : Option Jvm.ClassFile.FieldType)) ∈ jw_gd := kt_2 (i := 3) rfl rfl
theorem kw_244 : (Cond.methodLink "SwipedStripe$Sheet" 3 ⟨"java/lang/Object", "<init>", "()V"⟩) ∈ jw_gd := kt_2 (i := 4) (by decide +kernel) rfl
theorem kw_245 : (Cond.classLink "SwipedStripe$Sheet" 9 "SwipedStripe$Row") ∈ jw_gd := kt_2 (i := 5) (by decide +kernel) rfl
theorem kw_246 : (Cond.methodLink "SwipedStripe$Sheet" 11 ⟨"SwipedStripe$Row", "<init>", "(I)V"⟩) ∈ jw_gd := kt_2 (i := 6) (by decide +kernel) rfl
theorem kw_256 : (Cond.fieldLink "SwipedStripe" 28 "SwipedStripe" "textReader" "LSwipedStripe$TextReader;") ∈ jw_gd := kt_2 (i := 16) (by decide +kernel) rfl
theorem kw_318 : (Cond.methodLink "SwipedStripe" 98 ⟨"SwipedStripe$TextReader", "parse", "(LSwipedStripe$Row;)V"⟩) ∈ jw_gd := kt_2 (i := 78) (by decide +kernel) rfl
theorem kw_319 : (Cond.instanceMethod ⟨"SwipedStripe$TextReader", "parse", "(LSwipedStripe$Row;)V"⟩) ∈ jw_gd := kt_2 (i := 79) (by decide +kernel) rfl
theorem kw_320 : (Cond.selects "SwipedStripe$TextReader" ⟨"SwipedStripe$TextReader", "parse", "(LSwipedStripe$Row;)V"⟩ ⟨"SwipedStripe$TextReader", "parse", "(LSwipedStripe$Row;)V"⟩) ∈ jw_gd := kt_2 (i := 80) (by decide +kernel) rfl
theorem kw_321 : (Cond.code ⟨"SwipedStripe$TextReader", "parse", "(LSwipedStripe$Row;)V"⟩ prog_11_method_6_code 3 (none : Option Jvm.ClassFile.FieldType)) ∈ jw_gd := kt_2 (i := 81) rfl rfl
theorem kw_322 : (Cond.methodLink "SwipedStripe$TextReader" 37 ⟨"SwipedStripe$Row", "become", "(LSwipedStripe$Row;)V"⟩) ∈ jw_gd := kt_2 (i := 82) (by decide +kernel) rfl
theorem kw_323 : (Cond.instanceMethod ⟨"SwipedStripe$Row", "become", "(LSwipedStripe$Row;)V"⟩) ∈ jw_gd := kt_2 (i := 83) (by decide +kernel) rfl
theorem kw_324 : (Cond.selects "SwipedStripe$Row" ⟨"SwipedStripe$Row", "become", "(LSwipedStripe$Row;)V"⟩ ⟨"SwipedStripe$Row", "become", "(LSwipedStripe$Row;)V"⟩) ∈ jw_gd := kt_2 (i := 84) (by decide +kernel) rfl
theorem kw_325 : (Cond.code ⟨"SwipedStripe$Row", "become", "(LSwipedStripe$Row;)V"⟩ prog_6_method_12_code 3 (none : Option Jvm.ClassFile.FieldType)) ∈ jw_gd := kt_2 (i := 85) rfl rfl
theorem kw_332 : (Cond.methodLink "SwipedStripe$TextReader" 41 ⟨"SwipedStripe$Rules", "startAgain", "()V"⟩) ∈ jw_gd := kt_2 (i := 92) (by decide +kernel) rfl
theorem kw_333 : (Cond.methodLink "SwipedStripe$TextReader" 50 ⟨"SwipedStripe$TextReader", "takeToken", "()V"⟩) ∈ jw_gd := kt_2 (i := 93) (by decide +kernel) rfl
theorem kw_335 : (Cond.instanceMethod ⟨"SwipedStripe$TextReader", "takeToken", "()V"⟩) ∈ jw_gd := kt_2 (i := 95) (by decide +kernel) rfl
theorem kw_336 : (Cond.code ⟨"SwipedStripe$TextReader", "takeToken", "()V"⟩ prog_11_method_10_code 1 (none : Option Jvm.ClassFile.FieldType)) ∈ jw_gd := kt_2 (i := 96) rfl rfl
theorem kw_347 : (Cond.methodLink "SwipedStripe$TextReader" 109 ⟨"SwipedStripe$TextReader", "passBetween", "(CC)V"⟩) ∈ jw_gd := kt_2 (i := 107) (by decide +kernel) rfl
theorem kw_349 : (Cond.instanceMethod ⟨"SwipedStripe$TextReader", "passBetween", "(CC)V"⟩) ∈ jw_gd := kt_2 (i := 109) (by decide +kernel) rfl
theorem kw_350 : (Cond.code ⟨"SwipedStripe$TextReader", "passBetween", "(CC)V"⟩ prog_11_method_12_code 3 (none : Option Jvm.ClassFile.FieldType)) ∈ jw_gd := kt_2 (i := 110) rfl rfl
theorem kw_351 : (Cond.methodLink "SwipedStripe$TextReader" 113 ⟨"SwipedStripe$TextReader", "wordFrom", "(II)I"⟩) ∈ jw_gd := kt_2 (i := 111) (by decide +kernel) rfl
theorem kw_353 : (Cond.instanceMethod ⟨"SwipedStripe$TextReader", "wordFrom", "(II)I"⟩) ∈ jw_gd := kt_2 (i := 113) (by decide +kernel) rfl
theorem kw_354 : (Cond.code ⟨"SwipedStripe$TextReader", "wordFrom", "(II)I"⟩ prog_11_method_14_code 4 (some .int)) ∈ jw_gd := kt_2 (i := 114) rfl rfl
theorem kw_355 : (Cond.methodLink "SwipedStripe$TextReader" 123 ⟨"SwipedStripe$TextReader", "wordAt", "(I)Ljava/lang/String;"⟩) ∈ jw_gd := kt_2 (i := 115) (by decide +kernel) rfl
theorem kw_356 : (Cond.static ⟨"SwipedStripe$TextReader", "wordAt", "(I)Ljava/lang/String;"⟩) ∈ jw_gd := kt_2 (i := 116) (by decide +kernel) rfl
theorem kw_357 : (Cond.code ⟨"SwipedStripe$TextReader", "wordAt", "(I)Ljava/lang/String;"⟩ prog_11_method_16_code 1 (some (.object "java/lang/String"))) ∈ jw_gd := kt_2 (i := 117) rfl rfl
theorem kw_369 : (Cond.methodLink "SwipedStripe$TextReader" 127 ⟨"SwipedStripe$TextReader", "isWord", "(Ljava/lang/String;II)Z"⟩) ∈ jw_gd := kt_2 (i := 129) (by decide +kernel) rfl
theorem kw_371 : (Cond.instanceMethod ⟨"SwipedStripe$TextReader", "isWord", "(Ljava/lang/String;II)Z"⟩) ∈ jw_gd := kt_2 (i := 131) (by decide +kernel) rfl
theorem kw_372 : (Cond.code ⟨"SwipedStripe$TextReader", "isWord", "(Ljava/lang/String;II)Z"⟩ prog_11_method_15_code 5 (some .boolean)) ∈ jw_gd := kt_2 (i := 132) rfl rfl
theorem kw_373 : (Cond.methodLink "SwipedStripe$TextReader" 131 ⟨"java/lang/String", "length", "()I"⟩) ∈ jw_gd := kt_2 (i := 133) (by decide +kernel) rfl
theorem kw_374 : (Cond.instanceMethod ⟨"java/lang/String", "length", "()I"⟩) ∈ jw_gd := kt_2 (i := 134) (by decide +kernel) rfl
theorem kw_375 : (Cond.selects "java/lang/String" ⟨"java/lang/String", "length", "()I"⟩ ⟨"java/lang/String", "length", "()I"⟩) ∈ jw_gd := kt_2 (i := 135) (by decide +kernel) rfl
theorem kw_376 : (Cond.code ⟨"java/lang/String", "length", "()I"⟩ prog_16_method_54_code 1 (some .int)) ∈ jw_gd := kt_2 (i := 136) rfl rfl
theorem kw_377 : (Cond.methodLink "java/lang/String" 335 ⟨"java/lang/String", "coder", "()B"⟩) ∈ jw_gd := kt_2 (i := 137) (by decide +kernel) rfl
theorem kw_378 : (Cond.instanceMethod ⟨"java/lang/String", "coder", "()B"⟩) ∈ jw_gd := kt_2 (i := 138) (by decide +kernel) rfl
theorem kw_379 : (Cond.selects "java/lang/String" ⟨"java/lang/String", "coder", "()B"⟩ ⟨"java/lang/String", "coder", "()B"⟩) ∈ jw_gd := kt_2 (i := 139) (by decide +kernel) rfl
theorem kw_380 : (Cond.code ⟨"java/lang/String", "coder", "()B"⟩ prog_16_method_152_code 1 (some .byte)) ∈ jw_gd := kt_2 (i := 140) rfl rfl
theorem kw_381 : (Cond.fieldLink "java/lang/String" 38 "java/lang/String" "COMPACT_STRINGS" "Z") ∈ jw_gd := kt_2 (i := 141) (by decide +kernel) rfl
theorem kw_383 : (Cond.methodLink "SwipedStripe$TextReader" 136 ⟨"java/lang/String", "charAt", "(I)C"⟩) ∈ jw_gd := kt_2 (i := 143) (by decide +kernel) rfl
theorem kw_384 : (Cond.instanceMethod ⟨"java/lang/String", "charAt", "(I)C"⟩) ∈ jw_gd := kt_2 (i := 144) (by decide +kernel) rfl
theorem kw_385 : (Cond.selects "java/lang/String" ⟨"java/lang/String", "charAt", "(I)C"⟩ ⟨"java/lang/String", "charAt", "(I)C"⟩) ∈ jw_gd := kt_2 (i := 145) (by decide +kernel) rfl
theorem kw_386 : (Cond.code ⟨"java/lang/String", "charAt", "(I)C"⟩ prog_16_method_56_code 2 (some .char)) ∈ jw_gd := kt_2 (i := 146) rfl rfl
theorem kw_387 : (Cond.methodLink "java/lang/String" 492 ⟨"java/lang/String", "isLatin1", "()Z"⟩) ∈ jw_gd := kt_2 (i := 147) (by decide +kernel) rfl
theorem kw_388 : (Cond.instanceMethod ⟨"java/lang/String", "isLatin1", "()Z"⟩) ∈ jw_gd := kt_2 (i := 148) (by decide +kernel) rfl
theorem kw_389 : (Cond.selects "java/lang/String" ⟨"java/lang/String", "isLatin1", "()Z"⟩ ⟨"java/lang/String", "isLatin1", "()Z"⟩) ∈ jw_gd := kt_2 (i := 149) (by decide +kernel) rfl
theorem kw_390 : (Cond.code ⟨"java/lang/String", "isLatin1", "()Z"⟩ prog_16_method_154_code 1 (some .boolean)) ∈ jw_gd := kt_2 (i := 150) rfl rfl
theorem kw_391 : (Cond.methodLink "java/lang/String" 495 ⟨"java/lang/StringLatin1", "charAt", "([BI)C"⟩) ∈ jw_gd := kt_2 (i := 151) (by decide +kernel) rfl
theorem kw_392 : (Cond.static ⟨"java/lang/StringLatin1", "charAt", "([BI)C"⟩) ∈ jw_gd := kt_2 (i := 152) (by decide +kernel) rfl
theorem kw_393 : (Cond.code ⟨"java/lang/StringLatin1", "charAt", "([BI)C"⟩ prog_17_method_2_code 2 (some .char)) ∈ jw_gd := kt_2 (i := 153) rfl rfl
theorem kw_394 : (Cond.methodLink "java/lang/StringLatin1" 9 ⟨"java/lang/String", "checkIndex", "(II)V"⟩) ∈ jw_gd := kt_2 (i := 154) (by decide +kernel) rfl
theorem kw_395 : (Cond.static ⟨"java/lang/String", "checkIndex", "(II)V"⟩) ∈ jw_gd := kt_2 (i := 155) (by decide +kernel) rfl
theorem kw_396 : (Cond.code ⟨"java/lang/String", "checkIndex", "(II)V"⟩ prog_16_method_155_code 2 (none : Option Jvm.ClassFile.FieldType)) ∈ jw_gd := kt_2 (i := 156) rfl rfl
theorem kw_397 : (Cond.fieldLink "java/lang/String" 1053 "jdk/internal/util/Preconditions" "SIOOBE_FORMATTER" "Ljava/util/function/BiFunction;") ∈ jw_gd := kt_2 (i := 157) (by decide +kernel) rfl
theorem kw_399 : (Cond.methodLink "java/lang/String" 1059 ⟨"jdk/internal/util/Preconditions", "checkIndex", "(IILjava/util/function/BiFunction;)I"⟩) ∈ jw_gd := kt_2 (i := 159) (by decide +kernel) rfl
theorem kw_400 : (Cond.static ⟨"jdk/internal/util/Preconditions", "checkIndex", "(IILjava/util/function/BiFunction;)I"⟩) ∈ jw_gd := kt_2 (i := 160) (by decide +kernel) rfl
theorem kw_401 : (Cond.code ⟨"jdk/internal/util/Preconditions", "checkIndex", "(IILjava/util/function/BiFunction;)I"⟩ prog_19_method_11_code 3 (some .int)) ∈ jw_gd := kt_2 (i := 161) rfl rfl
theorem kw_421 : (Cond.methodLink "SwipedStripe$TextReader" 117 ⟨"SwipedStripe$TextReader", "numberFrom", "(II)I"⟩) ∈ jw_gd := kt_2 (i := 181) (by decide +kernel) rfl
theorem kw_423 : (Cond.instanceMethod ⟨"SwipedStripe$TextReader", "numberFrom", "(II)I"⟩) ∈ jw_gd := kt_2 (i := 183) (by decide +kernel) rfl
theorem kw_424 : (Cond.code ⟨"SwipedStripe$TextReader", "numberFrom", "(II)I"⟩ prog_11_method_13_code 5 (some .int)) ∈ jw_gd := kt_2 (i := 184) rfl rfl
theorem kw_429 : (Cond.methodLink "SwipedStripe$TextReader" 60 ⟨"SwipedStripe$TextReader", "takeLine", "()V"⟩) ∈ jw_gd := kt_2 (i := 189) (by decide +kernel) rfl
theorem kw_431 : (Cond.instanceMethod ⟨"SwipedStripe$TextReader", "takeLine", "()V"⟩) ∈ jw_gd := kt_2 (i := 191) (by decide +kernel) rfl
theorem kw_432 : (Cond.code ⟨"SwipedStripe$TextReader", "takeLine", "()V"⟩ prog_11_method_7_code 3 (none : Option Jvm.ClassFile.FieldType)) ∈ jw_gd := kt_2 (i := 192) rfl rfl
theorem kw_433 : (Cond.methodLink "SwipedStripe$TextReader" 71 ⟨"SwipedStripe$TextReader", "standsHere", "(I)Z"⟩) ∈ jw_gd := kt_2 (i := 193) (by decide +kernel) rfl
theorem kw_435 : (Cond.instanceMethod ⟨"SwipedStripe$TextReader", "standsHere", "(I)Z"⟩) ∈ jw_gd := kt_2 (i := 195) (by decide +kernel) rfl
theorem kw_436 : (Cond.code ⟨"SwipedStripe$TextReader", "standsHere", "(I)Z"⟩ prog_11_method_8_code 2 (some .boolean)) ∈ jw_gd := kt_2 (i := 196) rfl rfl
theorem kw_446 : (Cond.methodLink "SwipedStripe$TextReader" 98 ⟨"SwipedStripe$Rules", "set", "(II)V"⟩) ∈ jw_gd := kt_2 (i := 206) (by decide +kernel) rfl
theorem kw_447 : (Cond.instanceMethod ⟨"SwipedStripe$Rules", "set", "(II)V"⟩) ∈ jw_gd := kt_2 (i := 207) (by decide +kernel) rfl
theorem kw_448 : (Cond.selects "SwipedStripe$Rules" ⟨"SwipedStripe$Rules", "set", "(II)V"⟩ ⟨"SwipedStripe$Rules", "set", "(II)V"⟩) ∈ jw_gd := kt_2 (i := 208) (by decide +kernel) rfl
theorem kw_449 : (Cond.code ⟨"SwipedStripe$Rules", "set", "(II)V"⟩ prog_7_method_4_code 3 (none : Option Jvm.ClassFile.FieldType)) ∈ jw_gd := kt_2 (i := 209) rfl rfl
theorem kw_450 : (Cond.methodLink "SwipedStripe$TextReader" 63 ⟨"SwipedStripe$Rules", "isSound", "()Z"⟩) ∈ jw_gd := kt_2 (i := 210) (by decide +kernel) rfl
theorem kw_451 : (Cond.instanceMethod ⟨"SwipedStripe$Rules", "isSound", "()Z"⟩) ∈ jw_gd := kt_2 (i := 211) (by decide +kernel) rfl
theorem kw_452 : (Cond.selects "SwipedStripe$Rules" ⟨"SwipedStripe$Rules", "isSound", "()Z"⟩ ⟨"SwipedStripe$Rules", "isSound", "()Z"⟩) ∈ jw_gd := kt_2 (i := 212) (by decide +kernel) rfl
theorem kw_453 : (Cond.code ⟨"SwipedStripe$Rules", "isSound", "()Z"⟩ prog_7_method_8_code 1 (some .boolean)) ∈ jw_gd := kt_2 (i := 213) rfl rfl
theorem kw_462 : (Cond.methodLink "SwipedStripe" 102 ⟨"SwipedStripe$TextReader", "faultFound", "()I"⟩) ∈ jw_gd := kt_2 (i := 222) (by decide +kernel) rfl
theorem kw_463 : (Cond.instanceMethod ⟨"SwipedStripe$TextReader", "faultFound", "()I"⟩) ∈ jw_gd := kt_2 (i := 223) (by decide +kernel) rfl
theorem kw_464 : (Cond.selects "SwipedStripe$TextReader" ⟨"SwipedStripe$TextReader", "faultFound", "()I"⟩ ⟨"SwipedStripe$TextReader", "faultFound", "()I"⟩) ∈ jw_gd := kt_2 (i := 224) (by decide +kernel) rfl
theorem kw_465 : (Cond.code ⟨"SwipedStripe$TextReader", "faultFound", "()I"⟩ prog_11_method_4_code 1 (some .int)) ∈ jw_gd := kt_2 (i := 225) rfl rfl
theorem kw_466 : (Cond.methodLink "SwipedStripe" 105 ⟨"SwipedStripe$TextReader", "faultPlace", "()I"⟩) ∈ jw_gd := kt_2 (i := 226) (by decide +kernel) rfl
theorem kw_467 : (Cond.instanceMethod ⟨"SwipedStripe$TextReader", "faultPlace", "()I"⟩) ∈ jw_gd := kt_2 (i := 227) (by decide +kernel) rfl
theorem kw_468 : (Cond.selects "SwipedStripe$TextReader" ⟨"SwipedStripe$TextReader", "faultPlace", "()I"⟩ ⟨"SwipedStripe$TextReader", "faultPlace", "()I"⟩) ∈ jw_gd := kt_2 (i := 228) (by decide +kernel) rfl
theorem kw_469 : (Cond.code ⟨"SwipedStripe$TextReader", "faultPlace", "()I"⟩ prog_11_method_5_code 1 (some .int)) ∈ jw_gd := kt_2 (i := 229) rfl rfl
theorem kw_470 : (Cond.methodLink "SwipedStripe" 108 ⟨"SwipedStripe$TextReader", "told", "()LSwipedStripe$Rules;"⟩) ∈ jw_gd := kt_2 (i := 230) (by decide +kernel) rfl
theorem kw_471 : (Cond.instanceMethod ⟨"SwipedStripe$TextReader", "told", "()LSwipedStripe$Rules;"⟩) ∈ jw_gd := kt_2 (i := 231) (by decide +kernel) rfl
theorem kw_472 : (Cond.selects "SwipedStripe$TextReader" ⟨"SwipedStripe$TextReader", "told", "()LSwipedStripe$Rules;"⟩ ⟨"SwipedStripe$TextReader", "told", "()LSwipedStripe$Rules;"⟩) ∈ jw_gd := kt_2 (i := 232) (by decide +kernel) rfl
theorem kw_473 : (Cond.code ⟨"SwipedStripe$TextReader", "told", "()LSwipedStripe$Rules;"⟩ prog_11_method_2_code 1 (some (.object "SwipedStripe$Rules"))) ∈ jw_gd := kt_2 (i := 233) rfl rfl
theorem kw_474 : (Cond.methodLink "SwipedStripe" 112 ⟨"SwipedStripe$Rules", "become", "(LSwipedStripe$Rules;)V"⟩) ∈ jw_gd := kt_2 (i := 234) (by decide +kernel) rfl
theorem kw_475 : (Cond.instanceMethod ⟨"SwipedStripe$Rules", "become", "(LSwipedStripe$Rules;)V"⟩) ∈ jw_gd := kt_2 (i := 235) (by decide +kernel) rfl
theorem kw_476 : (Cond.selects "SwipedStripe$Rules" ⟨"SwipedStripe$Rules", "become", "(LSwipedStripe$Rules;)V"⟩ ⟨"SwipedStripe$Rules", "become", "(LSwipedStripe$Rules;)V"⟩) ∈ jw_gd := kt_2 (i := 236) (by decide +kernel) rfl
theorem kw_477 : (Cond.code ⟨"SwipedStripe$Rules", "become", "(LSwipedStripe$Rules;)V"⟩ prog_7_method_5_code 3 (none : Option Jvm.ClassFile.FieldType)) ∈ jw_gd := kt_2 (i := 237) rfl rfl
theorem kw_482 : (Cond.methodLink "SwipedStripe" 119 ⟨"SwipedStripe$TextReader", "lines", "()I"⟩) ∈ jw_gd := kt_3 (i := 2) (by decide +kernel) rfl
theorem kw_483 : (Cond.instanceMethod ⟨"SwipedStripe$TextReader", "lines", "()I"⟩) ∈ jw_gd := kt_3 (i := 3) (by decide +kernel) rfl
theorem kw_484 : (Cond.selects "SwipedStripe$TextReader" ⟨"SwipedStripe$TextReader", "lines", "()I"⟩ ⟨"SwipedStripe$TextReader", "lines", "()I"⟩) ∈ jw_gd := kt_3 (i := 4) (by decide +kernel) rfl
theorem kw_485 : (Cond.code ⟨"SwipedStripe$TextReader", "lines", "()I"⟩ prog_11_method_3_code 1 (some .int)) ∈ jw_gd := kt_3 (i := 5) rfl rfl
theorem kw_1031 : (Cond.methodLink "SwipedStripeModel" 1 ⟨"java/lang/Object", "<init>", "()V"⟩) ∈ jw_gd := kt_5 (i := 71) (by decide +kernel) rfl
theorem kw_1183 : (Cond.arrayClass .boolean) ∈ jw_gd := kt_5 (i := 223) (by decide +kernel) rfl
theorem kw_1480 : (Cond.fieldLink "java/lang/String" 9 "java/lang/String" "value" "[B") ∈ jw_gd := kt_7 (i := 40) (by decide +kernel) rfl
theorem kw_1481 : (Cond.fieldLink "java/lang/String" 15 "java/lang/String" "coder" "B") ∈ jw_gd := kt_7 (i := 41) (by decide +kernel) rfl
theorem kp_0 : Cond.selects "SwipedStripe$TextReader" ⟨"SwipedStripe$TextReader", "takeToken", "()V"⟩ ⟨"SwipedStripe$TextReader", "takeToken", "()V"⟩ ∈ jw_gd := jw_inS (i := 0) (q := (⟨"SwipedStripe$TextReader", "takeToken", "()V"⟩, _)) rfl
theorem kp_2 : Cond.selects "SwipedStripe$TextReader" ⟨"SwipedStripe$TextReader", "passBetween", "(CC)V"⟩ ⟨"SwipedStripe$TextReader", "passBetween", "(CC)V"⟩ ∈ jw_gd := jw_inS (i := 2) (q := (⟨"SwipedStripe$TextReader", "passBetween", "(CC)V"⟩, _)) rfl
theorem kp_3 : Cond.selects "SwipedStripe$TextReader" ⟨"SwipedStripe$TextReader", "wordFrom", "(II)I"⟩ ⟨"SwipedStripe$TextReader", "wordFrom", "(II)I"⟩ ∈ jw_gd := jw_inS (i := 3) (q := (⟨"SwipedStripe$TextReader", "wordFrom", "(II)I"⟩, _)) rfl
theorem kp_4 : Cond.selects "SwipedStripe$TextReader" ⟨"SwipedStripe$TextReader", "isWord", "(Ljava/lang/String;II)Z"⟩ ⟨"SwipedStripe$TextReader", "isWord", "(Ljava/lang/String;II)Z"⟩ ∈ jw_gd := jw_inS (i := 4) (q := (⟨"SwipedStripe$TextReader", "isWord", "(Ljava/lang/String;II)Z"⟩, _)) rfl
theorem kp_5 : Cond.selects "SwipedStripe$TextReader" ⟨"SwipedStripe$TextReader", "numberFrom", "(II)I"⟩ ⟨"SwipedStripe$TextReader", "numberFrom", "(II)I"⟩ ∈ jw_gd := jw_inS (i := 5) (q := (⟨"SwipedStripe$TextReader", "numberFrom", "(II)I"⟩, _)) rfl
theorem kp_7 : Cond.selects "SwipedStripe$TextReader" ⟨"SwipedStripe$TextReader", "takeLine", "()V"⟩ ⟨"SwipedStripe$TextReader", "takeLine", "()V"⟩ ∈ jw_gd := jw_inS (i := 7) (q := (⟨"SwipedStripe$TextReader", "takeLine", "()V"⟩, _)) rfl
theorem kp_8 : Cond.selects "SwipedStripe$TextReader" ⟨"SwipedStripe$TextReader", "standsHere", "(I)Z"⟩ ⟨"SwipedStripe$TextReader", "standsHere", "(I)Z"⟩ ∈ jw_gd := jw_inS (i := 8) (q := (⟨"SwipedStripe$TextReader", "standsHere", "(I)Z"⟩, _)) rfl
abbrev cb_P_checkIndex : ByteArray := prog_19_method_11_code
abbrev yy_P_checkIndex : MethodName := ⟨"jdk/internal/util/Preconditions", "checkIndex", "(IILjava/util/function/BiFunction;)I"⟩
theorem ck_met (l : Launch) (base : Nat) {i n : Int32} {v : Value} (h0 : ¬ i < 0) (h1 : i < n) (hv : v.category = 1) : Met l yy_P_checkIndex (jw_ws yy_P_checkIndex cb_P_checkIndex 3 (some .int)) { frames := 0, cells := 0, slots := 0, locals := 0 } (fun a _ => a = [Value.int i, Value.int n, v].toArray) (fun _ st oc t => oc = .returned (some (.int i)) ∧ t.heap = st.heap) 0 0 (jw_A base) := by
  refine Met.ofW (cc := cb_P_checkIndex) (maxL := 3) (ret := some .int) (by decide) rfl ?_
  intro p e s m args below meth c s₁ B hml hargs
  subst hargs
  have hlocks := B.notSynchronized
  have hr := B.returns
  have hx := B.exec
  have hb := B.bytes
  rw [lg_entry_eq]
  have hle := lv_entry [Value.int i, Value.int n, v] (n := 3) (by cases v <;> simp_all [lg_sl, Value.category])
  have m0 : (0, Value.int i) ∈ lv_args 0 [Value.int i, Value.int n, v] := by simp [lv_args, Value.category]
  have m1 : (1, Value.int n) ∈ lv_args 0 [Value.int i, Value.int n, v] := by simp [lv_args, Value.category]
  refine lv_iload_n (i := 0) hx hb (show decode cb_P_checkIndex 0 = .ok (.iload_n 0, 1) by decide +kernel) rfl (hle.2.2 _ m0) ?_
  refine lv_if_lt (off := 8) (tgt := 9) hx hb (by decide +kernel) (by decide) (fun q => absurd q h0) (fun _ => ?_)
  refine lv_iload_n (i := 0) hx hb (show decode cb_P_checkIndex 4 = .ok (.iload_n 0, 1) by decide +kernel) rfl (hle.2.2 _ m0) ?_
  refine lv_iload_n (i := 1) hx hb (show decode cb_P_checkIndex 5 = .ok (.iload_n 1, 1) by decide +kernel) rfl (hle.2.2 _ m1) ?_
  refine lv_icmp_lt (off := 10) (tgt := 16) hx hb (by decide +kernel) (by decide) (fun _ => ?_) (fun q => absurd h1 q)
  refine lv_iload_n (i := 0) hx hb (show decode cb_P_checkIndex 16 = .ok (.iload_n 0, 1) by decide +kernel) rfl (hle.2.2 _ m0) ?_
  exact W.iret hx hb hr (fun t ht _ => ⟨rfl, ht⟩) (fun _ q => absurd q List.not_mem_nil) (by decide +kernel) hlocks
section JO
variable {l : Launch} {cc : ByteArray} {nL : Nat} {own nm : String} {ro : Nat → Option (Nat × (Nat → Int32))} {R : Room} {rt : Option FieldType} {mc ms : Nat} {pc : Nat} {k t : jw_K → (Nat → jw_S) → jw_S}
def xo_no (ls st : List Value) (h : jw_H) (z : Nat × Nat) : Prop := False
theorem jo_no  : jo_Ok l cc nL own nm ro R rt mc ms (fun K J => xo_no) pc := by
  intro p e s m args below meth c Q D aC ad base K X RT ls st h z hf H locs la lv hP hz hl hR hS hla hlv
  exact hf.elim
theorem jo_gsC {idx : Nat} (hl1 : Cond.fieldLink own idx "java/lang/String" "COMPACT_STRINGS" "Z" ∈ jw_gd) (hd : decode cc pc = .ok (.getstatic idx, 3)) (hk : jo_Ok l cc nL own nm ro R rt mc ms k (pc + 3)) : jo_Ok l cc nL own nm ro R rt mc ms (fun K J => xo_ci 1 (k K J)) pc := by
  intro p e s m args below meth c Q D aC ad base K X RT ls st h z hf H locs la lv hP hz hl hR hS hla hlv
  exact va_gets X.1 X.2.1 X.2.2.2.2.2.2.2.2.1.2.2.1 hS X.2.2.2.1 (X.2.2.2.2.1 _ hl1) (fun _ q => q) hd (hk p e s m args below meth c Q D aC ad base K X RT _ _ _ _ hf H locs la lv hP hz hl hR hS hla hlv)
def xo_sgv (k : jw_S) (ls st : List Value) (h : jw_H) (z : Nat × Nat) : Prop := match st with
  | .ref o :: st => 2000 ≤ o ∧ o < 2011 ∧ k ls (.ref (o + 1000) :: st) h z
  | _ => False
def xo_sgc (k : jw_S) (ls st : List Value) (h : jw_H) (z : Nat × Nat) : Prop := match st with
  | .ref o :: st => 2000 ≤ o ∧ o < 2011 ∧ k ls (.int 0 :: st) h z
  | _ => False
theorem jo_sgv {idx : Nat} (hl1 : Cond.fieldLink own idx "java/lang/String" "value" "[B" ∈ jw_gd) (hd : decode cc pc = .ok (.getfield idx, 3)) (hk : jo_Ok l cc nL own nm ro R rt mc ms k (pc + 3)) : jo_Ok l cc nL own nm ro R rt mc ms (fun K J => xo_sgv (k K J)) pc := by
  intro p e s m args below meth c Q D aC ad base K X RT ls st h z hf H locs la lv hP hz hl hR hS hla hlv
  unfold xo_sgv at hf
  split at hf
  · rename_i o st2
    obtain ⟨g1, g2, hf⟩ := hf
    obtain ⟨i, rfl⟩ := Nat.le.dest g1
    have hi11 : i < 11 := by have g3 : (2000 + i : Nat) < 2011 := g2; omega
    have hE := (X.2.2.2.2.2.2.2.2.1.2.2.2.2.1.1 i hi11).2.2.1
    have hk1 := hk p e s m args below meth c Q D aC ad base K X RT _ _ _ _ hf H locs la lv hP hz hl hR hS hla hlv
    simp only [List.map_cons, jw_v, show 2000 + i + 1000 = 3000 + i by omega] at hk1
    exact vk_getf X.1 X.2.1 hE hS X.2.2.2.1 (X.2.2.2.2.1 _ hl1) (fun _ q => q) hd hk1
  · exact hf.elim
theorem jo_sgc {idx : Nat} (hl1 : Cond.fieldLink own idx "java/lang/String" "coder" "B" ∈ jw_gd) (hd : decode cc pc = .ok (.getfield idx, 3)) (hk : jo_Ok l cc nL own nm ro R rt mc ms k (pc + 3)) : jo_Ok l cc nL own nm ro R rt mc ms (fun K J => xo_sgc (k K J)) pc := by
  intro p e s m args below meth c Q D aC ad base K X RT ls st h z hf H locs la lv hP hz hl hR hS hla hlv
  unfold xo_sgc at hf
  split at hf
  · rename_i o st2
    obtain ⟨g1, g2, hf⟩ := hf
    obtain ⟨i, rfl⟩ := Nat.le.dest g1
    have hi11 : i < 11 := by have g3 : (2000 + i : Nat) < 2011 := g2; omega
    have hE := (X.2.2.2.2.2.2.2.2.1.2.2.2.2.1.1 i hi11).2.1
    have hk1 := hk p e s m args below meth c Q D aC ad base K X RT _ _ _ _ hf H locs la lv hP hz hl hR hS hla hlv
    simp only [List.map_cons, jw_v, show 2000 + i + 1000 = 3000 + i by omega] at hk1
    exact vk_getf X.1 X.2.1 hE hS X.2.2.2.1 (X.2.2.2.2.1 _ hl1) (fun _ q => q) hd hk1
  · exact hf.elim
def xo_sal (k : jw_S) (ls st : List Value) (h : jw_H) (z : Nat × Nat) : Prop := match st with
  | .ref o :: st => 3000 ≤ o ∧ o < 3011 ∧ k ls (.int (Int32.ofNat (jw_len.getD (o - 3000) 0)) :: st) h z
  | _ => False
theorem jo_sal (hd : decode cc pc = .ok (.arraylength, 1)) (hk : jo_Ok l cc nL own nm ro R rt mc ms k (pc + 1)) : jo_Ok l cc nL own nm ro R rt mc ms (fun K J => xo_sal (k K J)) pc := by
  intro p e s m args below meth c Q D aC ad base K X RT ls st h z hf H locs la lv hP hz hl hR hS hla hlv
  unfold xo_sal at hf
  split at hf
  · rename_i o st2
    obtain ⟨g1, g2, hf⟩ := hf
    obtain ⟨i, rfl⟩ := Nat.le.dest g1
    have hi11 : i < 11 := by have g3 : (3000 + i : Nat) < 3011 := g2; omega
    have hE := (X.2.2.2.2.2.2.2.2.1.2.2.2.2.1.1 i hi11).2.2.2
    rw [show 3000 + i - 3000 = i by omega] at hf
    exact va_tlen X.1 X.2.1 hE hS rfl hd (hk p e s m args below meth c Q D aC ad base K X RT _ _ _ _ hf H locs la lv hP hz hl hR hS hla hlv)
  · exact hf.elim
def xo_sba (k : jw_S) (ls st : List Value) (h : jw_H) (z : Nat × Nat) : Prop := match st with
  | .int j :: .ref o :: st => 3000 ≤ o ∧ o < 3011 ∧ vp_in j (jw_len.getD (o - 3000) 0) ∧ k ls (.int ((jw_byt.getD (o - 3000) []).getD j.toNatClampNeg 0) :: st) h z
  | _ => False
theorem jo_sba (hd : decode cc pc = .ok (.baload, 1)) (hk : jo_Ok l cc nL own nm ro R rt mc ms k (pc + 1)) : jo_Ok l cc nL own nm ro R rt mc ms (fun K J => xo_sba (k K J)) pc := by
  intro p e s m args below meth c Q D aC ad base K X RT ls st h z hf H locs la lv hP hz hl hR hS hla hlv
  unfold xo_sba at hf
  split at hf
  · rename_i j o st2
    obtain ⟨g1, g2, g4, hf⟩ := hf
    obtain ⟨i, rfl⟩ := Nat.le.dest g1
    have hi11 : i < 11 := by have g3 : (3000 + i : Nat) < 3011 := g2; omega
    have hE := (X.2.2.2.2.2.2.2.2.1.2.2.2.2.1.1 i hi11).2.2.2
    rw [show 3000 + i - 3000 = i by omega] at hf g4
    exact va_tb X.1 X.2.1 hE hS g4 rfl hd (hk p e s m args below meth c Q D aC ad base K X RT _ _ _ _ hf H locs la lv hP hz hl hR hS hla hlv)
  · exact hf.elim
def xo_cS (C : jw_T) (n : Nat) (k : jw_S) (ls st : List Value) (h : jw_H) (z : Nat × Nat) : Prop := match jw_pp n [] st with
  | some (.ref o :: as, st) => 2000 ≤ o ∧ o < 2011 ∧ jw_l4 st ∧ C (.ref o :: as) h (jw_kk k ls st z)
  | _ => False
theorem jo_cS {y : MethodName} {bytes : ByteArray} {maxL : Nat} {ret : Option FieldType} {rm : Room} {C : jw_T} {n idx : Nat} (hM : jw_Met l y bytes maxL ret rm C) (hcode : Cond.code y bytes maxL ret ∈ jw_gd) (hini : Cond.initialized y.cls ∈ jw_gd) (hl1 : Cond.methodLink own idx y ∈ jw_gd) (hin : Cond.instanceMethod y ∈ jw_gd) (hse : Cond.selects "java/lang/String" y y ∈ jw_gd) (hn : y.cls ≠ "java/lang/invoke/MethodHandle" ∧ y.cls ≠ "java/lang/invoke/VarHandle" ∧ (parseMethodDescriptor y.desc).map (fun d => d.parameters.length) = some n) (hRm : rm.frames + 1 ≤ R.frames ∧ 8 + (maxL + 11) + rm.locals ≤ R.locals) (hro : ∀ k q, jw_ro k = some q → ro k = some q) (hz0 : rm.cells = 0 ∧ rm.slots = 0) (hd : decode cc pc = .ok (.invokevirtual idx, 3)) (hk : jo_Ok l cc nL own nm ro R rt mc ms k (pc + 3)) : jo_Ok l cc nL own nm ro R rt mc ms (fun K J => xo_cS C (n + 1) (k K J)) pc := by
  intro p e s m args below meth c Q D aC ad base K X RT ls st h z hf H locs la lv hP hz hl hR hS hla hlv
  unfold xo_cS at hf
  split at hf
  · rename_i o as st2 hpp
    obtain ⟨g1, g2, h4, hC⟩ := hf
    obtain ⟨i, rfl⟩ := Nat.le.dest g1
    have hi11 : i < 11 := by have g3 : (2000 + i : Nat) < 2011 := g2; omega
    obtain ⟨hlen, rfl⟩ := jw_pp_at hpp
    have z1 := hz0.1
    have z2 := hz0.2
    have hX := X
    obtain ⟨x1, x2, x3, x4, x5, x6, x7, x8, x9, x10⟩ := X
    have cb : CallB R s args own idx y bytes maxL ret (jw_ws y bytes maxL ret) rm rm.cells rm.slots n := callB_of n x5 (jw_goodIn hcode) rfl rfl rfl (x5 _ hini) (x5 _ hl1) hn hRm
    have hrun := va_runV (C := "java/lang/String") (H := H) (locs := locs) (cells := z.1) (slots := z.2) (below := below) (meth := meth) (e := e) (g := F0 m pc la (((Value.ref (2000 + i) :: as).reverse ++ st2).map (jw_v ad))) (b := ad (2000 + i)) (As := as.map (jw_v ad)) (rest := st2.map (jw_v ad)) ⟨x1, x2, x3, x4, x5⟩ (hM D aC ad base _ h _ hC) ⟨cb, x5 _ hin, x5 _ hse⟩ ⟨jw_blind, vk_recv (adK := fun i => ad (2000 + i)) x9.2.2.2.2.1 hi11 hS, jw_preU (as := Value.ref (2000 + i) :: as) hX hro hP hz hl hS⟩ rfl (by simpa using hlen) hla.1 (by simp [jw_v]) (lv_room (jw_l4_sum ad st2 h4)) hd (by rw [z1, z2]; exact hR)
    refine jw_go hrun hS (fun r h1 H1 locs1 hk1 hz1 hl1 hP1 hS1 => ?_)
    rw [z1, z2, jw_ps_map]
    exact hk p e s m args below meth c Q D aC ad base K hX RT _ _ _ _ hk1 H1 locs1 la lv hP1 hz1 hl1 hR hS1 hla hlv
  · exact hf.elim
def xo_gqc (k : jw_S) (ls st : List Value) (h : jw_H) (z : Nat × Nat) : Prop := match st with
  | .int n :: .int i :: st => ¬ i < 0 ∧ i < n ∧ jw_l4 st ∧ k ls (.int i :: st) h z
  | _ => False
theorem jo_gqc {idx idx2 : Nat} (hlf : Cond.fieldLink own idx "jdk/internal/util/Preconditions" "SIOOBE_FORMATTER" "Ljava/util/function/BiFunction;" ∈ jw_gd) (hl1 : Cond.methodLink own idx2 yy_P_checkIndex ∈ jw_gd) (hcode : Cond.code yy_P_checkIndex cb_P_checkIndex 3 (some .int) ∈ jw_gd) (hini : Cond.initialized "jdk/internal/util/Preconditions" ∈ jw_gd) (hst : Cond.static yy_P_checkIndex ∈ jw_gd) (hRm : 1 ≤ R.frames ∧ 22 ≤ R.locals) (hd : decode cc pc = .ok (.getstatic idx, 3)) (hd2 : decode cc (pc + 3) = .ok (.invokestatic idx2, 3)) (hk : jo_Ok l cc nL own nm ro R rt mc ms k (pc + 3 + 3)) : jo_Ok l cc nL own nm ro R rt mc ms (fun K J => xo_gqc (k K J)) pc := by
  intro p e s m args below meth c Q D aC ad base K X RT ls st h z hf H locs la lv hP hz hl hR hS hla hlv
  unfold xo_gqc at hf
  split at hf
  · rename_i n i st2
    obtain ⟨h0, h1, h4, hf⟩ := hf
    have hX := X
    obtain ⟨x1, x2, x3, x4, x5, x6, x7, x8, x9, x10⟩ := X
    have main : ∀ v : Value, v.category = 1 → va_Z "jdk/internal/util/Preconditions" "SIOOBE_FORMATTER" "Ljava/util/function/BiFunction;" v (jw_A base) s s.heap → W p l e R s m args below meth c H locs z.1 z.2 Q (F0 m pc la ((Value.int n :: Value.int i :: st2).map (jw_v ad))) := by
      intro v hv hZ
      refine va_gets x1 x2 hZ hS x4 (x5 _ hlf) (fun _ q => q) hd ?_
      have cb : CallB R s args own idx2 yy_P_checkIndex cb_P_checkIndex 3 (some .int) (jw_ws yy_P_checkIndex cb_P_checkIndex 3 (some .int)) { frames := 0, cells := 0, slots := 0, locals := 0 } 0 0 3 := callB_of 3 x5 (jw_goodIn hcode) rfl rfl rfl (x5 _ hini) (x5 _ hl1) ⟨by decide, by decide, by decide +kernel⟩ ⟨hRm.1, hRm.2⟩
      have hrun := va_runS (H := H) (locs := locs) (cells := z.1) (slots := z.2) (below := below) (meth := meth) (e := e) (g := F0 m (pc + 3) la (v :: (Value.int n :: Value.int i :: st2).map (jw_v ad))) (As := [Value.int i, Value.int n, v]) (rest := st2.map (jw_v ad)) ⟨x1, x2, x3, x4, x5⟩ (ck_met l base h0 h1 hv) ⟨cb, x5 _ hst⟩ ⟨fun _ _ _ _ q => q, fun _ _ _ => rfl⟩ rfl rfl hla.1 rfl (lv_room (jw_l4_sum ad st2 h4)) hd2 hR
      intro T hT XX
      obtain ⟨v', st₀, t, T', L, e0, X', hL, e1, e2, ⟨hv', hH⟩, stp⟩ := hrun T hT XX
      cases hv'
      have hTH : T'.heap = H := by rw [e1, hH, e0]
      obtain ⟨t2, a1, b1⟩ := hk p e s m args below meth c Q D aC ad base K hX RT _ _ _ _ hf H (locs ++ L) la lv hP hz hl hR ⟨hS.1, hS.2.1, fun q hq => by
        rcases List.mem_append.mp hq with g | g
        · exact hS.2.2 q g
        · exact hL q g⟩ hla hlv T' hTH X'
      exact ⟨t2, stp t2 a1, b1⟩
    rcases x9.2.2.2.1 with hZ | ⟨t, hZ⟩
    · exact main _ rfl hZ
    · exact main _ rfl hZ
  · exact hf.elim
end JO
