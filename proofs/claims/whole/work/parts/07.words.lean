/-! words of the tables, by their places -/
theorem kt_1 {i : Nat} {w : Cond} (hi : tables_1_1[i]? = some w) (hg : goodWord w = true) : w ∈ jw_gd := List.mem_filter.mpr ⟨List.mem_append_right _ (by
  have h := List.mem_of_getElem? hi
  exact List.mem_append_left _ h), hg⟩
theorem kt_2 {i : Nat} {w : Cond} (hi : tables_1_2[i]? = some w) (hg : goodWord w = true) : w ∈ jw_gd := List.mem_filter.mpr ⟨List.mem_append_right _ (by
  have h := List.mem_of_getElem? hi
  exact List.mem_append_right _ (List.mem_append_left _ h)), hg⟩
theorem kt_3 {i : Nat} {w : Cond} (hi : tables_1_3[i]? = some w) (hg : goodWord w = true) : w ∈ jw_gd := List.mem_filter.mpr ⟨List.mem_append_right _ (by
  have h := List.mem_of_getElem? hi
  exact List.mem_append_right _ (List.mem_append_right _ (List.mem_append_left _ h))), hg⟩
theorem kt_4 {i : Nat} {w : Cond} (hi : tables_1_4[i]? = some w) (hg : goodWord w = true) : w ∈ jw_gd := List.mem_filter.mpr ⟨List.mem_append_right _ (by
  have h := List.mem_of_getElem? hi
  exact List.mem_append_right _ (List.mem_append_right _ (List.mem_append_right _ (List.mem_append_left _ h)))), hg⟩
theorem kt_5 {i : Nat} {w : Cond} (hi : tables_1_5[i]? = some w) (hg : goodWord w = true) : w ∈ jw_gd := List.mem_filter.mpr ⟨List.mem_append_right _ (by
  have h := List.mem_of_getElem? hi
  exact List.mem_append_right _ (List.mem_append_right _ (List.mem_append_right _ (List.mem_append_right _ (List.mem_append_left _ h))))), hg⟩
theorem kt_6 {i : Nat} {w : Cond} (hi : tables_1_6[i]? = some w) (hg : goodWord w = true) : w ∈ jw_gd := List.mem_filter.mpr ⟨List.mem_append_right _ (by
  have h := List.mem_of_getElem? hi
  exact List.mem_append_right _ (List.mem_append_right _ (List.mem_append_right _ (List.mem_append_right _ (List.mem_append_right _ (List.mem_append_left _ h)))))), hg⟩
theorem kt_7 {i : Nat} {w : Cond} (hi : tables_1_7[i]? = some w) (hg : goodWord w = true) : w ∈ jw_gd := List.mem_filter.mpr ⟨List.mem_append_right _ (by
  have h := List.mem_of_getElem? hi
  exact List.mem_append_right _ (List.mem_append_right _ (List.mem_append_right _ (List.mem_append_right _ (List.mem_append_right _ (List.mem_append_right _ (h))))))), hg⟩
theorem kw_1 : (Cond.initialized "SwipedStripe") ∈ jw_gd := kt_1 (i := 1) (by decide +kernel) rfl
theorem kw_2 : (Cond.initialized "SwipedStripe$Rules") ∈ jw_gd := kt_1 (i := 2) (by decide +kernel) rfl
theorem kw_3 : (Cond.initialized "SwipedStripe$Row") ∈ jw_gd := kt_1 (i := 3) (by decide +kernel) rfl
theorem kw_4 : (Cond.initialized "java/lang/Math") ∈ jw_gd := kt_1 (i := 4) (by decide +kernel) rfl
theorem kw_5 : (Cond.initialized "SwipedStripe$TextReader") ∈ jw_gd := kt_1 (i := 5) (by decide +kernel) rfl
theorem kw_6 : (Cond.initialized "SwipedStripe$Stripe") ∈ jw_gd := kt_1 (i := 6) (by decide +kernel) rfl
theorem kw_7 : (Cond.initialized "SwipedStripe$Reading") ∈ jw_gd := kt_1 (i := 7) (by decide +kernel) rfl
theorem kw_8 : (Cond.initialized "SwipedStripe$Finding") ∈ jw_gd := kt_1 (i := 8) (by decide +kernel) rfl
theorem kw_9 : (Cond.initialized "SwipedStripe$Smoothest") ∈ jw_gd := kt_1 (i := 9) (by decide +kernel) rfl
theorem kw_10 : (Cond.initialized "SwipedStripe$Draws") ∈ jw_gd := kt_1 (i := 10) (by decide +kernel) rfl
theorem kw_11 : (Cond.initialized "SwipedStripe$Draw") ∈ jw_gd := kt_1 (i := 11) (by decide +kernel) rfl
theorem kw_12 : (Cond.initialized "SwipedStripe$Sheet") ∈ jw_gd := kt_1 (i := 12) (by decide +kernel) rfl
theorem kw_13 : (Cond.initialized "SwipedStripeModel") ∈ jw_gd := kt_1 (i := 13) (by decide +kernel) rfl
theorem kw_18 : (Cond.initialized "java/lang/Integer") ∈ jw_gd := kt_1 (i := 18) (by decide +kernel) rfl
theorem kw_40 : (Cond.static ⟨"SwipedStripe", "entry", "([II)I"⟩) ∈ jw_gd := kt_1 (i := 40) (by decide +kernel) rfl
theorem kw_41 : (Cond.code ⟨"SwipedStripe", "entry", "([II)I"⟩ prog_1_method_46_code 2 (some .int)) ∈ jw_gd := kt_1 (i := 41) rfl rfl
theorem kw_42 : (Cond.fieldLink "SwipedStripe$Rules" 9 "SwipedStripe$Rules" "held" "[I") ∈ jw_gd := kt_1 (i := 42) (by decide +kernel) rfl
theorem kw_53 : (Cond.methodLink "SwipedStripe$Row" 13 ⟨"java/lang/Math", "max", "(II)I"⟩) ∈ jw_gd := kt_1 (i := 53) (by decide +kernel) rfl
theorem kw_54 : (Cond.static ⟨"java/lang/Math", "max", "(II)I"⟩) ∈ jw_gd := kt_1 (i := 54) (by decide +kernel) rfl
theorem kw_55 : (Cond.code ⟨"java/lang/Math", "max", "(II)I"⟩ prog_15_method_65_code 2 (some .int)) ∈ jw_gd := kt_1 (i := 55) rfl rfl
theorem kw_56 : (Cond.fieldLink "SwipedStripe$Row" 19 "SwipedStripe$Row" "cells" "[I") ∈ jw_gd := kt_1 (i := 56) (by decide +kernel) rfl
theorem kw_57 : (Cond.fieldLink "SwipedStripe$Row" 7 "SwipedStripe$Row" "size" "I") ∈ jw_gd := kt_1 (i := 57) (by decide +kernel) rfl
theorem kw_73 : (Cond.fieldLink "SwipedStripe$TextReader" 14 "SwipedStripe$TextReader" "tape" "LSwipedStripe$Row;") ∈ jw_gd := kt_1 (i := 73) (by decide +kernel) rfl
theorem kw_74 : (Cond.fieldLink "SwipedStripe$TextReader" 23 "SwipedStripe$TextReader" "told" "LSwipedStripe$Rules;") ∈ jw_gd := kt_1 (i := 74) (by decide +kernel) rfl
theorem kw_76 : (Cond.fieldLink "SwipedStripe$TextReader" 27 "SwipedStripe$TextReader" "lines" "I") ∈ jw_gd := kt_1 (i := 76) (by decide +kernel) rfl
theorem kw_77 : (Cond.fieldLink "SwipedStripe$TextReader" 31 "SwipedStripe$TextReader" "faultFound" "I") ∈ jw_gd := kt_1 (i := 77) (by decide +kernel) rfl
theorem kw_78 : (Cond.fieldLink "SwipedStripe$TextReader" 34 "SwipedStripe$TextReader" "faultPlace" "I") ∈ jw_gd := kt_1 (i := 78) (by decide +kernel) rfl
theorem kw_79 : (Cond.fieldLink "SwipedStripe$TextReader" 57 "SwipedStripe$TextReader" "kind" "I") ∈ jw_gd := kt_1 (i := 79) (by decide +kernel) rfl
theorem kw_80 : (Cond.fieldLink "SwipedStripe$TextReader" 89 "SwipedStripe$TextReader" "start" "I") ∈ jw_gd := kt_1 (i := 80) (by decide +kernel) rfl
theorem kw_81 : (Cond.fieldLink "SwipedStripe$TextReader" 47 "SwipedStripe$TextReader" "next" "I") ∈ jw_gd := kt_1 (i := 81) (by decide +kernel) rfl
theorem kw_112 : (Cond.fieldLink "SwipedStripe$Stripe" 16 "SwipedStripe$Stripe" "bits" "LSwipedStripe$Row;") ∈ jw_gd := kt_1 (i := 112) (by decide +kernel) rfl
theorem kw_113 : (Cond.fieldLink "SwipedStripe$Stripe" 20 "SwipedStripe$Stripe" "checks" "I") ∈ jw_gd := kt_1 (i := 113) (by decide +kernel) rfl
theorem kw_114 : (Cond.fieldLink "SwipedStripe$Stripe" 51 "SwipedStripe$Stripe" "seed" "I") ∈ jw_gd := kt_1 (i := 114) (by decide +kernel) rfl
theorem kw_130 : (Cond.fieldLink "SwipedStripe$Reading" 14 "SwipedStripe$Reading" "bits" "LSwipedStripe$Row;") ∈ jw_gd := kt_1 (i := 130) (by decide +kernel) rfl
theorem kw_131 : (Cond.fieldLink "SwipedStripe$Reading" 20 "SwipedStripe$Reading" "firstGaps" "LSwipedStripe$Row;") ∈ jw_gd := kt_1 (i := 131) (by decide +kernel) rfl
theorem kw_132 : (Cond.fieldLink "SwipedStripe$Reading" 23 "SwipedStripe$Reading" "clocks" "LSwipedStripe$Row;") ∈ jw_gd := kt_1 (i := 132) (by decide +kernel) rfl
theorem kw_133 : (Cond.fieldLink "SwipedStripe$Reading" 26 "SwipedStripe$Reading" "fails" "I") ∈ jw_gd := kt_1 (i := 133) (by decide +kernel) rfl
theorem kw_134 : (Cond.fieldLink "SwipedStripe$Reading" 30 "SwipedStripe$Reading" "failsAt" "I") ∈ jw_gd := kt_1 (i := 134) (by decide +kernel) rfl
theorem kw_135 : (Cond.fieldLink "SwipedStripe$Reading" 33 "SwipedStripe$Reading" "marginAbove" "I") ∈ jw_gd := kt_1 (i := 135) (by decide +kernel) rfl
theorem kw_136 : (Cond.fieldLink "SwipedStripe$Reading" 36 "SwipedStripe$Reading" "marginBelow" "I") ∈ jw_gd := kt_1 (i := 136) (by decide +kernel) rfl
theorem kw_160 : (Cond.fieldLink "SwipedStripe$Finding" 14 "SwipedStripe$Finding" "said" "LSwipedStripe$Row;") ∈ jw_gd := kt_1 (i := 160) (by decide +kernel) rfl
theorem kw_161 : (Cond.fieldLink "SwipedStripe$Finding" 20 "SwipedStripe$Finding" "sound" "LSwipedStripe$Row;") ∈ jw_gd := kt_1 (i := 161) (by decide +kernel) rfl
theorem kw_162 : (Cond.fieldLink "SwipedStripe$Finding" 27 "SwipedStripe$Finding" "verdict" "I") ∈ jw_gd := kt_1 (i := 162) (by decide +kernel) rfl
theorem kw_163 : (Cond.fieldLink "SwipedStripe$Finding" 23 "SwipedStripe$Finding" "beginAt" "I") ∈ jw_gd := kt_1 (i := 163) (by decide +kernel) rfl
theorem kw_164 : (Cond.fieldLink "SwipedStripe$Finding" 30 "SwipedStripe$Finding" "values" "I") ∈ jw_gd := kt_1 (i := 164) (by decide +kernel) rfl
theorem kw_165 : (Cond.fieldLink "SwipedStripe$Finding" 55 "SwipedStripe$Finding" "valueBits" "I") ∈ jw_gd := kt_1 (i := 165) (by decide +kernel) rfl
theorem kw_166 : (Cond.fieldLink "SwipedStripe$Finding" 58 "SwipedStripe$Finding" "oddOnes" "I") ∈ jw_gd := kt_1 (i := 166) (by decide +kernel) rfl
theorem kw_167 : (Cond.fieldLink "SwipedStripe$Finding" 65 "SwipedStripe$Finding" "checked" "Z") ∈ jw_gd := kt_1 (i := 167) (by decide +kernel) rfl
theorem kw_168 : (Cond.fieldLink "SwipedStripe$Finding" 44 "SwipedStripe$Finding" "wrongChecks" "I") ∈ jw_gd := kt_1 (i := 168) (by decide +kernel) rfl
theorem kw_196 : (Cond.fieldLink "SwipedStripe$Smoothest" 14 "SwipedStripe$Smoothest" "bits" "LSwipedStripe$Row;") ∈ jw_gd := kt_1 (i := 196) (by decide +kernel) rfl
theorem kw_197 : (Cond.fieldLink "SwipedStripe$Smoothest" 20 "SwipedStripe$Smoothest" "behindZero" "LSwipedStripe$Row;") ∈ jw_gd := kt_1 (i := 197) (by decide +kernel) rfl
theorem kw_198 : (Cond.fieldLink "SwipedStripe$Smoothest" 23 "SwipedStripe$Smoothest" "behindOne" "LSwipedStripe$Row;") ∈ jw_gd := kt_1 (i := 198) (by decide +kernel) rfl
theorem kw_199 : (Cond.fieldLink "SwipedStripe$Smoothest" 26 "SwipedStripe$Smoothest" "roughness" "I") ∈ jw_gd := kt_1 (i := 199) (by decide +kernel) rfl
theorem kw_224 : (Cond.fieldLink "SwipedStripe$Draw" 14 "SwipedStripe$Draw" "values" "LSwipedStripe$Row;") ∈ jw_gd := kt_1 (i := 224) (by decide +kernel) rfl
theorem kw_225 : (Cond.fieldLink "SwipedStripe$Draw" 20 "SwipedStripe$Draw" "soundPlaces" "I") ∈ jw_gd := kt_1 (i := 225) (by decide +kernel) rfl
theorem kw_231 : (Cond.fieldLink "SwipedStripe$Draws" 11 "SwipedStripe$Draws" "kept" "[LSwipedStripe$Draw;") ∈ jw_gd := kt_1 (i := 231) (by decide +kernel) rfl
theorem kw_232 : (Cond.fieldLink "SwipedStripe$Draws" 17 "SwipedStripe$Draws" "size" "I") ∈ jw_gd := kt_1 (i := 232) (by decide +kernel) rfl
theorem kw_247 : (Cond.fieldLink "SwipedStripe$Sheet" 14 "SwipedStripe$Sheet" "cells" "LSwipedStripe$Row;") ∈ jw_gd := kt_2 (i := 7) (by decide +kernel) rfl
theorem kw_248 : (Cond.fieldLink "SwipedStripe$Sheet" 20 "SwipedStripe$Sheet" "lane" "I") ∈ jw_gd := kt_2 (i := 8) (by decide +kernel) rfl
theorem kw_254 : (Cond.fieldLink "SwipedStripe" 10 "SwipedStripe" "rules" "LSwipedStripe$Rules;") ∈ jw_gd := kt_2 (i := 14) (by decide +kernel) rfl
theorem kw_255 : (Cond.fieldLink "SwipedStripe" 21 "SwipedStripe" "tape" "LSwipedStripe$Row;") ∈ jw_gd := kt_2 (i := 15) (by decide +kernel) rfl
theorem kw_257 : (Cond.fieldLink "SwipedStripe" 32 "SwipedStripe" "row" "LSwipedStripe$Row;") ∈ jw_gd := kt_2 (i := 17) (by decide +kernel) rfl
theorem kw_258 : (Cond.fieldLink "SwipedStripe" 38 "SwipedStripe" "written" "LSwipedStripe$Stripe;") ∈ jw_gd := kt_2 (i := 18) (by decide +kernel) rfl
theorem kw_259 : (Cond.fieldLink "SwipedStripe" 42 "SwipedStripe" "gaps" "LSwipedStripe$Row;") ∈ jw_gd := kt_2 (i := 19) (by decide +kernel) rfl
theorem kw_260 : (Cond.fieldLink "SwipedStripe" 48 "SwipedStripe" "reading" "LSwipedStripe$Reading;") ∈ jw_gd := kt_2 (i := 20) (by decide +kernel) rfl
theorem kw_261 : (Cond.fieldLink "SwipedStripe" 55 "SwipedStripe" "finding" "LSwipedStripe$Finding;") ∈ jw_gd := kt_2 (i := 21) (by decide +kernel) rfl
theorem kw_262 : (Cond.fieldLink "SwipedStripe" 62 "SwipedStripe" "smoothest" "LSwipedStripe$Smoothest;") ∈ jw_gd := kt_2 (i := 22) (by decide +kernel) rfl
theorem kw_263 : (Cond.fieldLink "SwipedStripe" 69 "SwipedStripe" "draws" "LSwipedStripe$Draws;") ∈ jw_gd := kt_2 (i := 23) (by decide +kernel) rfl
theorem kw_264 : (Cond.fieldLink "SwipedStripe" 75 "SwipedStripe" "sheets" "[LSwipedStripe$Sheet;") ∈ jw_gd := kt_2 (i := 24) (by decide +kernel) rfl
theorem kw_265 : (Cond.fieldLink "SwipedStripe" 79 "SwipedStripe" "textFault" "I") ∈ jw_gd := kt_2 (i := 25) (by decide +kernel) rfl
theorem kw_266 : (Cond.fieldLink "SwipedStripe" 83 "SwipedStripe" "loadFault" "I") ∈ jw_gd := kt_2 (i := 26) (by decide +kernel) rfl
theorem kw_298 : (Cond.methodLink "SwipedStripe" 87 ⟨"SwipedStripe$Row", "size", "()I"⟩) ∈ jw_gd := kt_2 (i := 58) (by decide +kernel) rfl
theorem kw_299 : (Cond.instanceMethod ⟨"SwipedStripe$Row", "size", "()I"⟩) ∈ jw_gd := kt_2 (i := 59) (by decide +kernel) rfl
theorem kw_300 : (Cond.selects "SwipedStripe$Row" ⟨"SwipedStripe$Row", "size", "()I"⟩ ⟨"SwipedStripe$Row", "size", "()I"⟩) ∈ jw_gd := kt_2 (i := 60) (by decide +kernel) rfl
theorem kw_301 : (Cond.code ⟨"SwipedStripe$Row", "size", "()I"⟩ prog_6_method_2_code 1 (some .int)) ∈ jw_gd := kt_2 (i := 61) rfl rfl
theorem kw_302 : (Cond.methodLink "SwipedStripe" 91 ⟨"SwipedStripe$Row", "push", "(I)Z"⟩) ∈ jw_gd := kt_2 (i := 62) (by decide +kernel) rfl
theorem kw_303 : (Cond.instanceMethod ⟨"SwipedStripe$Row", "push", "(I)Z"⟩) ∈ jw_gd := kt_2 (i := 63) (by decide +kernel) rfl
theorem kw_304 : (Cond.selects "SwipedStripe$Row" ⟨"SwipedStripe$Row", "push", "(I)Z"⟩ ⟨"SwipedStripe$Row", "push", "(I)Z"⟩) ∈ jw_gd := kt_2 (i := 64) (by decide +kernel) rfl
theorem kw_305 : (Cond.code ⟨"SwipedStripe$Row", "push", "(I)Z"⟩ prog_6_method_7_code 2 (some .boolean)) ∈ jw_gd := kt_2 (i := 65) rfl rfl
theorem kw_310 : (Cond.methodLink "SwipedStripe" 95 ⟨"SwipedStripe$Row", "cut", "(I)V"⟩) ∈ jw_gd := kt_2 (i := 70) (by decide +kernel) rfl
theorem kw_311 : (Cond.instanceMethod ⟨"SwipedStripe$Row", "cut", "(I)V"⟩) ∈ jw_gd := kt_2 (i := 71) (by decide +kernel) rfl
theorem kw_312 : (Cond.selects "SwipedStripe$Row" ⟨"SwipedStripe$Row", "cut", "(I)V"⟩ ⟨"SwipedStripe$Row", "cut", "(I)V"⟩) ∈ jw_gd := kt_2 (i := 72) (by decide +kernel) rfl
theorem kw_313 : (Cond.code ⟨"SwipedStripe$Row", "cut", "(I)V"⟩ prog_6_method_10_code 2 (none : Option Jvm.ClassFile.FieldType)) ∈ jw_gd := kt_2 (i := 73) rfl rfl
theorem kw_326 : (Cond.methodLink "SwipedStripe$Row" 33 ⟨"SwipedStripe$Row", "size", "()I"⟩) ∈ jw_gd := kt_2 (i := 86) (by decide +kernel) rfl
theorem kw_327 : (Cond.methodLink "SwipedStripe$Row" 36 ⟨"SwipedStripe$Row", "at", "(I)I"⟩) ∈ jw_gd := kt_2 (i := 87) (by decide +kernel) rfl
theorem kw_328 : (Cond.instanceMethod ⟨"SwipedStripe$Row", "at", "(I)I"⟩) ∈ jw_gd := kt_2 (i := 88) (by decide +kernel) rfl
theorem kw_329 : (Cond.selects "SwipedStripe$Row" ⟨"SwipedStripe$Row", "at", "(I)I"⟩ ⟨"SwipedStripe$Row", "at", "(I)I"⟩) ∈ jw_gd := kt_2 (i := 89) (by decide +kernel) rfl
theorem kw_330 : (Cond.code ⟨"SwipedStripe$Row", "at", "(I)I"⟩ prog_6_method_5_code 2 (some .int)) ∈ jw_gd := kt_2 (i := 90) rfl rfl
theorem kw_331 : (Cond.methodLink "SwipedStripe$Row" 27 ⟨"SwipedStripe$Row", "push", "(I)Z"⟩) ∈ jw_gd := kt_2 (i := 91) (by decide +kernel) rfl
theorem kw_337 : (Cond.methodLink "SwipedStripe$TextReader" 53 ⟨"SwipedStripe$Row", "size", "()I"⟩) ∈ jw_gd := kt_2 (i := 97) (by decide +kernel) rfl
theorem kw_338 : (Cond.methodLink "SwipedStripe$TextReader" 101 ⟨"SwipedStripe$Row", "at", "(I)I"⟩) ∈ jw_gd := kt_2 (i := 98) (by decide +kernel) rfl
theorem kw_339 : (Cond.methodLink "SwipedStripe$TextReader" 105 ⟨"SwipedStripe$TextReader", "isBetween", "(ICC)Z"⟩) ∈ jw_gd := kt_2 (i := 99) (by decide +kernel) rfl
theorem kw_341 : (Cond.instanceMethod ⟨"SwipedStripe$TextReader", "isBetween", "(ICC)Z"⟩) ∈ jw_gd := kt_2 (i := 101) (by decide +kernel) rfl
theorem kw_342 : (Cond.code ⟨"SwipedStripe$TextReader", "isBetween", "(ICC)Z"⟩ prog_11_method_11_code 4 (some .boolean)) ∈ jw_gd := kt_2 (i := 102) rfl rfl
theorem kw_343 : (Cond.methodLink "SwipedStripe$TextReader" 120 ⟨"SwipedStripe$Row", "has", "(I)Z"⟩) ∈ jw_gd := kt_2 (i := 103) (by decide +kernel) rfl
theorem kw_344 : (Cond.instanceMethod ⟨"SwipedStripe$Row", "has", "(I)Z"⟩) ∈ jw_gd := kt_2 (i := 104) (by decide +kernel) rfl
theorem kw_345 : (Cond.selects "SwipedStripe$Row" ⟨"SwipedStripe$Row", "has", "(I)Z"⟩ ⟨"SwipedStripe$Row", "has", "(I)Z"⟩) ∈ jw_gd := kt_2 (i := 105) (by decide +kernel) rfl
theorem kw_346 : (Cond.code ⟨"SwipedStripe$Row", "has", "(I)Z"⟩ prog_6_method_4_code 2 (some .boolean)) ∈ jw_gd := kt_2 (i := 106) rfl rfl
theorem kw_425 : (Cond.methodLink "SwipedStripe$TextReader" 67 ⟨"SwipedStripe$TextReader", "refuse", "(II)V"⟩) ∈ jw_gd := kt_2 (i := 185) (by decide +kernel) rfl
theorem kw_427 : (Cond.instanceMethod ⟨"SwipedStripe$TextReader", "refuse", "(II)V"⟩) ∈ jw_gd := kt_2 (i := 187) (by decide +kernel) rfl
theorem kw_428 : (Cond.code ⟨"SwipedStripe$TextReader", "refuse", "(II)V"⟩ prog_11_method_9_code 3 (none : Option Jvm.ClassFile.FieldType)) ∈ jw_gd := kt_2 (i := 188) rfl rfl
theorem kw_454 : (Cond.methodLink "SwipedStripe$Rules" 25 ⟨"SwipedStripe$Rules", "of", "(I)I"⟩) ∈ jw_gd := kt_2 (i := 214) (by decide +kernel) rfl
theorem kw_455 : (Cond.instanceMethod ⟨"SwipedStripe$Rules", "of", "(I)I"⟩) ∈ jw_gd := kt_2 (i := 215) (by decide +kernel) rfl
theorem kw_456 : (Cond.selects "SwipedStripe$Rules" ⟨"SwipedStripe$Rules", "of", "(I)I"⟩ ⟨"SwipedStripe$Rules", "of", "(I)I"⟩) ∈ jw_gd := kt_2 (i := 216) (by decide +kernel) rfl
theorem kw_457 : (Cond.code ⟨"SwipedStripe$Rules", "of", "(I)I"⟩ prog_7_method_3_code 2 (some .int)) ∈ jw_gd := kt_2 (i := 217) rfl rfl
theorem kw_458 : (Cond.methodLink "SwipedStripe$Rules" 29 ⟨"SwipedStripe$Rules", "isValue", "(I)Z"⟩) ∈ jw_gd := kt_2 (i := 218) (by decide +kernel) rfl
theorem kw_459 : (Cond.instanceMethod ⟨"SwipedStripe$Rules", "isValue", "(I)Z"⟩) ∈ jw_gd := kt_2 (i := 219) (by decide +kernel) rfl
theorem kw_460 : (Cond.selects "SwipedStripe$Rules" ⟨"SwipedStripe$Rules", "isValue", "(I)Z"⟩ ⟨"SwipedStripe$Rules", "isValue", "(I)Z"⟩) ∈ jw_gd := kt_2 (i := 220) (by decide +kernel) rfl
theorem kw_461 : (Cond.code ⟨"SwipedStripe$Rules", "isValue", "(I)Z"⟩ prog_7_method_7_code 2 (some .boolean)) ∈ jw_gd := kt_2 (i := 221) rfl rfl
theorem kw_478 : (Cond.methodLink "SwipedStripe" 116 ⟨"SwipedStripe$Draws", "forget", "()V"⟩) ∈ jw_gd := kt_2 (i := 238) (by decide +kernel) rfl
theorem kw_479 : (Cond.instanceMethod ⟨"SwipedStripe$Draws", "forget", "()V"⟩) ∈ jw_gd := kt_2 (i := 239) (by decide +kernel) rfl
theorem kw_480 : (Cond.selects "SwipedStripe$Draws" ⟨"SwipedStripe$Draws", "forget", "()V"⟩ ⟨"SwipedStripe$Draws", "forget", "()V"⟩) ∈ jw_gd := kt_3 (i := 0) (by decide +kernel) rfl
theorem kw_481 : (Cond.code ⟨"SwipedStripe$Draws", "forget", "()V"⟩ prog_3_method_3_code 1 (none : Option Jvm.ClassFile.FieldType)) ∈ jw_gd := kt_3 (i := 1) rfl rfl
theorem kw_495 : (Cond.methodLink "SwipedStripe" 122 ⟨"SwipedStripe$Rules", "of", "(I)I"⟩) ∈ jw_gd := kt_3 (i := 15) (by decide +kernel) rfl
theorem kw_500 : (Cond.methodLink "SwipedStripe" 126 ⟨"SwipedStripe$Rules", "isValue", "(I)Z"⟩) ∈ jw_gd := kt_3 (i := 20) (by decide +kernel) rfl
theorem kw_505 : (Cond.methodLink "SwipedStripe" 129 ⟨"SwipedStripe", "emptied", "(LSwipedStripe$Row;)I"⟩) ∈ jw_gd := kt_3 (i := 25) (by decide +kernel) rfl
theorem kw_506 : (Cond.static ⟨"SwipedStripe", "emptied", "(LSwipedStripe$Row;)I"⟩) ∈ jw_gd := kt_3 (i := 26) (by decide +kernel) rfl
theorem kw_507 : (Cond.code ⟨"SwipedStripe", "emptied", "(LSwipedStripe$Row;)I"⟩ prog_1_method_41_code 2 (some .int)) ∈ jw_gd := kt_3 (i := 27) rfl rfl
theorem kw_512 : (Cond.methodLink "SwipedStripe" 133 ⟨"SwipedStripe$Row", "has", "(I)Z"⟩) ∈ jw_gd := kt_3 (i := 32) (by decide +kernel) rfl
theorem kw_513 : (Cond.methodLink "SwipedStripe" 136 ⟨"SwipedStripe$Row", "at", "(I)I"⟩) ∈ jw_gd := kt_3 (i := 33) (by decide +kernel) rfl
theorem kw_518 : (Cond.methodLink "SwipedStripe" 139 ⟨"SwipedStripe$Stripe", "build", "(LSwipedStripe$Rules;LSwipedStripe$Row;)V"⟩) ∈ jw_gd := kt_3 (i := 38) (by decide +kernel) rfl
theorem kw_519 : (Cond.instanceMethod ⟨"SwipedStripe$Stripe", "build", "(LSwipedStripe$Rules;LSwipedStripe$Row;)V"⟩) ∈ jw_gd := kt_3 (i := 39) (by decide +kernel) rfl
theorem kw_520 : (Cond.selects "SwipedStripe$Stripe" ⟨"SwipedStripe$Stripe", "build", "(LSwipedStripe$Rules;LSwipedStripe$Row;)V"⟩ ⟨"SwipedStripe$Stripe", "build", "(LSwipedStripe$Rules;LSwipedStripe$Row;)V"⟩) ∈ jw_gd := kt_3 (i := 40) (by decide +kernel) rfl
theorem kw_521 : (Cond.code ⟨"SwipedStripe$Stripe", "build", "(LSwipedStripe$Rules;LSwipedStripe$Row;)V"⟩ prog_10_method_4_code 5 (none : Option Jvm.ClassFile.FieldType)) ∈ jw_gd := kt_3 (i := 41) rfl rfl
theorem kw_522 : (Cond.methodLink "SwipedStripe$Stripe" 24 ⟨"SwipedStripe$Row", "cut", "(I)V"⟩) ∈ jw_gd := kt_3 (i := 42) (by decide +kernel) rfl
theorem kw_523 : (Cond.methodLink "SwipedStripe$Stripe" 27 ⟨"SwipedStripe$Rules", "of", "(I)I"⟩) ∈ jw_gd := kt_3 (i := 43) (by decide +kernel) rfl
theorem kw_524 : (Cond.methodLink "SwipedStripe$Stripe" 33 ⟨"SwipedStripe$Stripe", "pushZeros", "(I)V"⟩) ∈ jw_gd := kt_3 (i := 44) (by decide +kernel) rfl
theorem kw_526 : (Cond.instanceMethod ⟨"SwipedStripe$Stripe", "pushZeros", "(I)V"⟩) ∈ jw_gd := kt_3 (i := 46) (by decide +kernel) rfl
theorem kw_527 : (Cond.code ⟨"SwipedStripe$Stripe", "pushZeros", "(I)V"⟩ prog_10_method_7_code 3 (none : Option Jvm.ClassFile.FieldType)) ∈ jw_gd := kt_3 (i := 47) rfl rfl
theorem kw_528 : (Cond.methodLink "SwipedStripe$Stripe" 66 ⟨"SwipedStripe$Row", "push", "(I)Z"⟩) ∈ jw_gd := kt_3 (i := 48) (by decide +kernel) rfl
theorem kw_529 : (Cond.methodLink "SwipedStripe$Stripe" 36 ⟨"SwipedStripe$Stripe", "pushSymbol", "(LSwipedStripe$Rules;I)V"⟩) ∈ jw_gd := kt_3 (i := 49) (by decide +kernel) rfl
theorem kw_531 : (Cond.instanceMethod ⟨"SwipedStripe$Stripe", "pushSymbol", "(LSwipedStripe$Rules;I)V"⟩) ∈ jw_gd := kt_3 (i := 51) (by decide +kernel) rfl
theorem kw_532 : (Cond.code ⟨"SwipedStripe$Stripe", "pushSymbol", "(LSwipedStripe$Rules;I)V"⟩ prog_10_method_8_code 5 (none : Option Jvm.ClassFile.FieldType)) ∈ jw_gd := kt_3 (i := 52) rfl rfl
theorem kw_533 : (Cond.methodLink "SwipedStripe$Stripe" 71 ⟨"SwipedStripe$Rules", "coded", "(I)I"⟩) ∈ jw_gd := kt_3 (i := 53) (by decide +kernel) rfl
theorem kw_534 : (Cond.instanceMethod ⟨"SwipedStripe$Rules", "coded", "(I)I"⟩) ∈ jw_gd := kt_3 (i := 54) (by decide +kernel) rfl
theorem kw_535 : (Cond.selects "SwipedStripe$Rules" ⟨"SwipedStripe$Rules", "coded", "(I)I"⟩ ⟨"SwipedStripe$Rules", "coded", "(I)I"⟩) ∈ jw_gd := kt_3 (i := 55) (by decide +kernel) rfl
theorem kw_536 : (Cond.code ⟨"SwipedStripe$Rules", "coded", "(I)I"⟩ prog_7_method_9_code 3 (some .int)) ∈ jw_gd := kt_3 (i := 56) rfl rfl
theorem kw_537 : (Cond.methodLink "SwipedStripe$Rules" 33 ⟨"java/lang/Integer", "bitCount", "(I)I"⟩) ∈ jw_gd := kt_3 (i := 57) (by decide +kernel) rfl
theorem kw_538 : (Cond.static ⟨"java/lang/Integer", "bitCount", "(I)I"⟩) ∈ jw_gd := kt_3 (i := 58) (by decide +kernel) rfl
theorem kw_539 : (Cond.code ⟨"java/lang/Integer", "bitCount", "(I)I"⟩ prog_14_method_49_code 1 (some .int)) ∈ jw_gd := kt_3 (i := 59) rfl rfl
theorem kw_540 : (Cond.constant "java/lang/Integer" 265 1431655765) ∈ jw_gd := kt_3 (i := 60) (by decide +kernel) rfl
theorem kw_541 : (Cond.constant "java/lang/Integer" 266 858993459) ∈ jw_gd := kt_3 (i := 61) (by decide +kernel) rfl
theorem kw_542 : (Cond.constant "java/lang/Integer" 267 252645135) ∈ jw_gd := kt_3 (i := 62) (by decide +kernel) rfl
theorem kw_543 : (Cond.methodLink "SwipedStripe$Stripe" 40 ⟨"SwipedStripe$Row", "size", "()I"⟩) ∈ jw_gd := kt_3 (i := 63) (by decide +kernel) rfl
theorem kw_544 : (Cond.methodLink "SwipedStripe$Stripe" 44 ⟨"SwipedStripe$Row", "at", "(I)I"⟩) ∈ jw_gd := kt_3 (i := 64) (by decide +kernel) rfl
theorem kw_545 : (Cond.methodLink "SwipedStripe$Stripe" 47 ⟨"SwipedStripe$Rules", "isChecked", "()Z"⟩) ∈ jw_gd := kt_3 (i := 65) (by decide +kernel) rfl
theorem kw_546 : (Cond.instanceMethod ⟨"SwipedStripe$Rules", "isChecked", "()Z"⟩) ∈ jw_gd := kt_3 (i := 66) (by decide +kernel) rfl
theorem kw_547 : (Cond.selects "SwipedStripe$Rules" ⟨"SwipedStripe$Rules", "isChecked", "()Z"⟩ ⟨"SwipedStripe$Rules", "isChecked", "()Z"⟩) ∈ jw_gd := kt_3 (i := 67) (by decide +kernel) rfl
theorem kw_548 : (Cond.code ⟨"SwipedStripe$Rules", "isChecked", "()Z"⟩ prog_7_method_6_code 1 (some .boolean)) ∈ jw_gd := kt_3 (i := 68) rfl rfl
theorem kw_549 : (Cond.methodLink "SwipedStripe" 143 ⟨"SwipedStripe$Stripe", "bits", "()LSwipedStripe$Row;"⟩) ∈ jw_gd := kt_3 (i := 69) (by decide +kernel) rfl
theorem kw_550 : (Cond.instanceMethod ⟨"SwipedStripe$Stripe", "bits", "()LSwipedStripe$Row;"⟩) ∈ jw_gd := kt_3 (i := 70) (by decide +kernel) rfl
theorem kw_551 : (Cond.selects "SwipedStripe$Stripe" ⟨"SwipedStripe$Stripe", "bits", "()LSwipedStripe$Row;"⟩ ⟨"SwipedStripe$Stripe", "bits", "()LSwipedStripe$Row;"⟩) ∈ jw_gd := kt_3 (i := 71) (by decide +kernel) rfl
theorem kw_552 : (Cond.code ⟨"SwipedStripe$Stripe", "bits", "()LSwipedStripe$Row;"⟩ prog_10_method_2_code 1 (some (.object "SwipedStripe$Row"))) ∈ jw_gd := kt_3 (i := 72) rfl rfl
theorem kw_553 : (Cond.methodLink "SwipedStripe" 147 ⟨"SwipedStripe$Row", "sum", "()I"⟩) ∈ jw_gd := kt_3 (i := 73) (by decide +kernel) rfl
theorem kw_554 : (Cond.instanceMethod ⟨"SwipedStripe$Row", "sum", "()I"⟩) ∈ jw_gd := kt_3 (i := 74) (by decide +kernel) rfl
theorem kw_555 : (Cond.selects "SwipedStripe$Row" ⟨"SwipedStripe$Row", "sum", "()I"⟩ ⟨"SwipedStripe$Row", "sum", "()I"⟩) ∈ jw_gd := kt_3 (i := 75) (by decide +kernel) rfl
theorem kw_556 : (Cond.code ⟨"SwipedStripe$Row", "sum", "()I"⟩ prog_6_method_14_code 3 (some .int)) ∈ jw_gd := kt_3 (i := 76) rfl rfl
theorem kw_557 : (Cond.methodLink "SwipedStripe" 150 ⟨"SwipedStripe$Stripe", "checks", "()I"⟩) ∈ jw_gd := kt_3 (i := 77) (by decide +kernel) rfl
theorem kw_558 : (Cond.instanceMethod ⟨"SwipedStripe$Stripe", "checks", "()I"⟩) ∈ jw_gd := kt_3 (i := 78) (by decide +kernel) rfl
theorem kw_559 : (Cond.selects "SwipedStripe$Stripe" ⟨"SwipedStripe$Stripe", "checks", "()I"⟩ ⟨"SwipedStripe$Stripe", "checks", "()I"⟩) ∈ jw_gd := kt_3 (i := 79) (by decide +kernel) rfl
theorem kw_560 : (Cond.code ⟨"SwipedStripe$Stripe", "checks", "()I"⟩ prog_10_method_3_code 1 (some .int)) ∈ jw_gd := kt_3 (i := 80) rfl rfl
theorem kw_569 : (Cond.methodLink "SwipedStripe" 153 ⟨"SwipedStripe$Stripe", "layOut", "(LSwipedStripe$Row;IIII)V"⟩) ∈ jw_gd := kt_3 (i := 89) (by decide +kernel) rfl
theorem kw_570 : (Cond.instanceMethod ⟨"SwipedStripe$Stripe", "layOut", "(LSwipedStripe$Row;IIII)V"⟩) ∈ jw_gd := kt_3 (i := 90) (by decide +kernel) rfl
theorem kw_571 : (Cond.selects "SwipedStripe$Stripe" ⟨"SwipedStripe$Stripe", "layOut", "(LSwipedStripe$Row;IIII)V"⟩ ⟨"SwipedStripe$Stripe", "layOut", "(LSwipedStripe$Row;IIII)V"⟩) ∈ jw_gd := kt_3 (i := 91) (by decide +kernel) rfl
theorem kw_572 : (Cond.code ⟨"SwipedStripe$Stripe", "layOut", "(LSwipedStripe$Row;IIII)V"⟩ prog_10_method_5_code 8 (none : Option Jvm.ClassFile.FieldType)) ∈ jw_gd := kt_3 (i := 92) rfl rfl
theorem kw_573 : (Cond.methodLink "SwipedStripe$Stripe" 54 ⟨"java/lang/Math", "min", "(II)I"⟩) ∈ jw_gd := kt_3 (i := 93) (by decide +kernel) rfl
theorem kw_574 : (Cond.static ⟨"java/lang/Math", "min", "(II)I"⟩) ∈ jw_gd := kt_3 (i := 94) (by decide +kernel) rfl
theorem kw_575 : (Cond.code ⟨"java/lang/Math", "min", "(II)I"⟩ prog_15_method_69_code 2 (some .int)) ∈ jw_gd := kt_3 (i := 95) rfl rfl
theorem kw_576 : (Cond.methodLink "SwipedStripe$Stripe" 60 ⟨"java/lang/Math", "max", "(II)I"⟩) ∈ jw_gd := kt_3 (i := 96) (by decide +kernel) rfl
theorem kw_577 : (Cond.methodLink "SwipedStripe$Stripe" 63 ⟨"SwipedStripe$Stripe", "swayed", "(II)I"⟩) ∈ jw_gd := kt_3 (i := 97) (by decide +kernel) rfl
theorem kw_579 : (Cond.instanceMethod ⟨"SwipedStripe$Stripe", "swayed", "(II)I"⟩) ∈ jw_gd := kt_3 (i := 99) (by decide +kernel) rfl
theorem kw_580 : (Cond.code ⟨"SwipedStripe$Stripe", "swayed", "(II)I"⟩ prog_10_method_6_code 4 (some .int)) ∈ jw_gd := kt_3 (i := 100) rfl rfl
theorem kw_581 : (Cond.constant "SwipedStripe$Stripe" 70 1103515245) ∈ jw_gd := kt_3 (i := 101) (by decide +kernel) rfl
theorem kw_590 : (Cond.methodLink "SwipedStripe" 157 ⟨"SwipedStripe", "isGap", "(I)Z"⟩) ∈ jw_gd := kt_3 (i := 110) (by decide +kernel) rfl
theorem kw_591 : (Cond.static ⟨"SwipedStripe", "isGap", "(I)Z"⟩) ∈ jw_gd := kt_3 (i := 111) (by decide +kernel) rfl
theorem kw_592 : (Cond.code ⟨"SwipedStripe", "isGap", "(I)Z"⟩ prog_1_method_42_code 1 (some .boolean)) ∈ jw_gd := kt_3 (i := 112) rfl rfl
theorem kw_593 : (Cond.methodLink "SwipedStripe" 160 ⟨"SwipedStripe$Row", "put", "(II)V"⟩) ∈ jw_gd := kt_3 (i := 113) (by decide +kernel) rfl
theorem kw_594 : (Cond.instanceMethod ⟨"SwipedStripe$Row", "put", "(II)V"⟩) ∈ jw_gd := kt_3 (i := 114) (by decide +kernel) rfl
theorem kw_595 : (Cond.selects "SwipedStripe$Row" ⟨"SwipedStripe$Row", "put", "(II)V"⟩ ⟨"SwipedStripe$Row", "put", "(II)V"⟩) ∈ jw_gd := kt_3 (i := 115) (by decide +kernel) rfl
theorem kw_596 : (Cond.code ⟨"SwipedStripe$Row", "put", "(II)V"⟩ prog_6_method_6_code 3 (none : Option Jvm.ClassFile.FieldType)) ∈ jw_gd := kt_3 (i := 116) rfl rfl
theorem kw_601 : (Cond.methodLink "SwipedStripe" 164 ⟨"java/lang/Math", "min", "(II)I"⟩) ∈ jw_gd := kt_3 (i := 121) (by decide +kernel) rfl
theorem kw_602 : (Cond.methodLink "SwipedStripe" 170 ⟨"SwipedStripe$Row", "takeOut", "(I)V"⟩) ∈ jw_gd := kt_3 (i := 122) (by decide +kernel) rfl
theorem kw_603 : (Cond.instanceMethod ⟨"SwipedStripe$Row", "takeOut", "(I)V"⟩) ∈ jw_gd := kt_3 (i := 123) (by decide +kernel) rfl
theorem kw_604 : (Cond.selects "SwipedStripe$Row" ⟨"SwipedStripe$Row", "takeOut", "(I)V"⟩ ⟨"SwipedStripe$Row", "takeOut", "(I)V"⟩) ∈ jw_gd := kt_3 (i := 124) (by decide +kernel) rfl
theorem kw_605 : (Cond.code ⟨"SwipedStripe$Row", "takeOut", "(I)V"⟩ prog_6_method_9_code 3 (none : Option Jvm.ClassFile.FieldType)) ∈ jw_gd := kt_3 (i := 125) rfl rfl
theorem kw_606 : (Cond.methodLink "SwipedStripe$Row" 23 ⟨"SwipedStripe$Row", "has", "(I)Z"⟩) ∈ jw_gd := kt_3 (i := 126) (by decide +kernel) rfl
theorem kw_611 : (Cond.methodLink "SwipedStripe" 173 ⟨"SwipedStripe$Row", "putIn", "(II)V"⟩) ∈ jw_gd := kt_3 (i := 131) (by decide +kernel) rfl
theorem kw_612 : (Cond.instanceMethod ⟨"SwipedStripe$Row", "putIn", "(II)V"⟩) ∈ jw_gd := kt_3 (i := 132) (by decide +kernel) rfl
theorem kw_613 : (Cond.selects "SwipedStripe$Row" ⟨"SwipedStripe$Row", "putIn", "(II)V"⟩ ⟨"SwipedStripe$Row", "putIn", "(II)V"⟩) ∈ jw_gd := kt_3 (i := 133) (by decide +kernel) rfl
theorem kw_614 : (Cond.code ⟨"SwipedStripe$Row", "putIn", "(II)V"⟩ prog_6_method_8_code 4 (none : Option Jvm.ClassFile.FieldType)) ∈ jw_gd := kt_3 (i := 134) rfl rfl
theorem kw_619 : (Cond.methodLink "SwipedStripe" 176 ⟨"SwipedStripe$Row", "reverse", "()V"⟩) ∈ jw_gd := kt_3 (i := 139) (by decide +kernel) rfl
theorem kw_620 : (Cond.instanceMethod ⟨"SwipedStripe$Row", "reverse", "()V"⟩) ∈ jw_gd := kt_3 (i := 140) (by decide +kernel) rfl
theorem kw_621 : (Cond.selects "SwipedStripe$Row" ⟨"SwipedStripe$Row", "reverse", "()V"⟩ ⟨"SwipedStripe$Row", "reverse", "()V"⟩) ∈ jw_gd := kt_3 (i := 141) (by decide +kernel) rfl
theorem kw_622 : (Cond.code ⟨"SwipedStripe$Row", "reverse", "()V"⟩ prog_6_method_13_code 4 (none : Option Jvm.ClassFile.FieldType)) ∈ jw_gd := kt_3 (i := 142) rfl rfl
theorem kw_627 : (Cond.methodLink "SwipedStripe" 179 ⟨"SwipedStripe", "isClock", "(I)Z"⟩) ∈ jw_gd := kt_3 (i := 147) (by decide +kernel) rfl
theorem kw_628 : (Cond.static ⟨"SwipedStripe", "isClock", "(I)Z"⟩) ∈ jw_gd := kt_3 (i := 148) (by decide +kernel) rfl
theorem kw_629 : (Cond.code ⟨"SwipedStripe", "isClock", "(I)Z"⟩ prog_1_method_43_code 1 (some .boolean)) ∈ jw_gd := kt_3 (i := 149) rfl rfl
theorem kw_630 : (Cond.methodLink "SwipedStripe" 182 ⟨"SwipedStripe$Row", "isEmpty", "()Z"⟩) ∈ jw_gd := kt_3 (i := 150) (by decide +kernel) rfl
theorem kw_631 : (Cond.instanceMethod ⟨"SwipedStripe$Row", "isEmpty", "()Z"⟩) ∈ jw_gd := kt_3 (i := 151) (by decide +kernel) rfl
theorem kw_632 : (Cond.selects "SwipedStripe$Row" ⟨"SwipedStripe$Row", "isEmpty", "()Z"⟩ ⟨"SwipedStripe$Row", "isEmpty", "()Z"⟩) ∈ jw_gd := kt_3 (i := 152) (by decide +kernel) rfl
theorem kw_633 : (Cond.code ⟨"SwipedStripe$Row", "isEmpty", "()Z"⟩ prog_6_method_3_code 1 (some .boolean)) ∈ jw_gd := kt_3 (i := 153) rfl rfl
theorem kw_634 : (Cond.methodLink "SwipedStripe" 186 ⟨"SwipedStripe$Reading", "hear", "(LSwipedStripe$Row;II)V"⟩) ∈ jw_gd := kt_3 (i := 154) (by decide +kernel) rfl
theorem kw_635 : (Cond.instanceMethod ⟨"SwipedStripe$Reading", "hear", "(LSwipedStripe$Row;II)V"⟩) ∈ jw_gd := kt_3 (i := 155) (by decide +kernel) rfl
theorem kw_636 : (Cond.selects "SwipedStripe$Reading" ⟨"SwipedStripe$Reading", "hear", "(LSwipedStripe$Row;II)V"⟩ ⟨"SwipedStripe$Reading", "hear", "(LSwipedStripe$Row;II)V"⟩) ∈ jw_gd := kt_3 (i := 156) (by decide +kernel) rfl
theorem kw_637 : (Cond.code ⟨"SwipedStripe$Reading", "hear", "(LSwipedStripe$Row;II)V"⟩ prog_5_method_7_code 9 (none : Option Jvm.ClassFile.FieldType)) ∈ jw_gd := kt_3 (i := 157) rfl rfl
theorem kw_638 : (Cond.methodLink "SwipedStripe$Reading" 39 ⟨"SwipedStripe$Reading", "startAgain", "()V"⟩) ∈ jw_gd := kt_3 (i := 158) (by decide +kernel) rfl
theorem kw_640 : (Cond.instanceMethod ⟨"SwipedStripe$Reading", "startAgain", "()V"⟩) ∈ jw_gd := kt_3 (i := 160) (by decide +kernel) rfl
theorem kw_641 : (Cond.code ⟨"SwipedStripe$Reading", "startAgain", "()V"⟩ prog_5_method_8_code 1 (none : Option Jvm.ClassFile.FieldType)) ∈ jw_gd := kt_3 (i := 161) rfl rfl
theorem kw_642 : (Cond.methodLink "SwipedStripe$Reading" 75 ⟨"SwipedStripe$Row", "cut", "(I)V"⟩) ∈ jw_gd := kt_3 (i := 162) (by decide +kernel) rfl
theorem kw_643 : (Cond.methodLink "SwipedStripe$Reading" 42 ⟨"SwipedStripe$Row", "isEmpty", "()Z"⟩) ∈ jw_gd := kt_3 (i := 163) (by decide +kernel) rfl
theorem kw_644 : (Cond.methodLink "SwipedStripe$Reading" 46 ⟨"SwipedStripe$Row", "at", "(I)I"⟩) ∈ jw_gd := kt_3 (i := 164) (by decide +kernel) rfl
theorem kw_645 : (Cond.methodLink "SwipedStripe$Reading" 50 ⟨"SwipedStripe$Reading", "note", "(III)V"⟩) ∈ jw_gd := kt_3 (i := 165) (by decide +kernel) rfl
theorem kw_647 : (Cond.instanceMethod ⟨"SwipedStripe$Reading", "note", "(III)V"⟩) ∈ jw_gd := kt_3 (i := 167) (by decide +kernel) rfl
theorem kw_648 : (Cond.code ⟨"SwipedStripe$Reading", "note", "(III)V"⟩ prog_5_method_9_code 4 (none : Option Jvm.ClassFile.FieldType)) ∈ jw_gd := kt_3 (i := 168) rfl rfl
theorem kw_649 : (Cond.methodLink "SwipedStripe$Reading" 78 ⟨"SwipedStripe$Row", "push", "(I)Z"⟩) ∈ jw_gd := kt_3 (i := 169) (by decide +kernel) rfl
theorem kw_650 : (Cond.methodLink "SwipedStripe$Reading" 54 ⟨"SwipedStripe$Row", "size", "()I"⟩) ∈ jw_gd := kt_3 (i := 170) (by decide +kernel) rfl
theorem kw_651 : (Cond.methodLink "SwipedStripe$Reading" 58 ⟨"SwipedStripe$Row", "has", "(I)Z"⟩) ∈ jw_gd := kt_3 (i := 171) (by decide +kernel) rfl
theorem kw_652 : (Cond.methodLink "SwipedStripe$Reading" 62 ⟨"SwipedStripe$Reading", "fail", "(II)V"⟩) ∈ jw_gd := kt_3 (i := 172) (by decide +kernel) rfl
theorem kw_654 : (Cond.instanceMethod ⟨"SwipedStripe$Reading", "fail", "(II)V"⟩) ∈ jw_gd := kt_3 (i := 174) (by decide +kernel) rfl
theorem kw_655 : (Cond.code ⟨"SwipedStripe$Reading", "fail", "(II)V"⟩ prog_5_method_10_code 3 (none : Option Jvm.ClassFile.FieldType)) ∈ jw_gd := kt_3 (i := 175) rfl rfl
theorem kw_656 : (Cond.methodLink "SwipedStripe$Reading" 66 ⟨"java/lang/Math", "abs", "(I)I"⟩) ∈ jw_gd := kt_3 (i := 176) (by decide +kernel) rfl
theorem kw_657 : (Cond.static ⟨"java/lang/Math", "abs", "(I)I"⟩) ∈ jw_gd := kt_3 (i := 177) (by decide +kernel) rfl
theorem kw_658 : (Cond.code ⟨"java/lang/Math", "abs", "(I)I"⟩ prog_15_method_59_code 1 (some .int)) ∈ jw_gd := kt_3 (i := 178) rfl rfl
theorem kw_659 : (Cond.methodLink "SwipedStripe$Reading" 71 ⟨"SwipedStripe$Reading", "followed", "(III)I"⟩) ∈ jw_gd := kt_3 (i := 179) (by decide +kernel) rfl
theorem kw_660 : (Cond.static ⟨"SwipedStripe$Reading", "followed", "(III)I"⟩) ∈ jw_gd := kt_3 (i := 180) (by decide +kernel) rfl
theorem kw_661 : (Cond.code ⟨"SwipedStripe$Reading", "followed", "(III)I"⟩ prog_5_method_11_code 3 (some .int)) ∈ jw_gd := kt_3 (i := 181) rfl rfl
theorem kw_662 : (Cond.methodLink "SwipedStripe" 190 ⟨"SwipedStripe$Reading", "bits", "()LSwipedStripe$Row;"⟩) ∈ jw_gd := kt_3 (i := 182) (by decide +kernel) rfl
theorem kw_663 : (Cond.instanceMethod ⟨"SwipedStripe$Reading", "bits", "()LSwipedStripe$Row;"⟩) ∈ jw_gd := kt_3 (i := 183) (by decide +kernel) rfl
theorem kw_664 : (Cond.selects "SwipedStripe$Reading" ⟨"SwipedStripe$Reading", "bits", "()LSwipedStripe$Row;"⟩ ⟨"SwipedStripe$Reading", "bits", "()LSwipedStripe$Row;"⟩) ∈ jw_gd := kt_3 (i := 184) (by decide +kernel) rfl
theorem kw_665 : (Cond.code ⟨"SwipedStripe$Reading", "bits", "()LSwipedStripe$Row;"⟩ prog_5_method_2_code 1 (some (.object "SwipedStripe$Row"))) ∈ jw_gd := kt_3 (i := 185) rfl rfl
theorem kw_666 : (Cond.methodLink "SwipedStripe" 191 ⟨"SwipedStripe$Reading", "fails", "()I"⟩) ∈ jw_gd := kt_3 (i := 186) (by decide +kernel) rfl
theorem kw_667 : (Cond.instanceMethod ⟨"SwipedStripe$Reading", "fails", "()I"⟩) ∈ jw_gd := kt_3 (i := 187) (by decide +kernel) rfl
theorem kw_668 : (Cond.selects "SwipedStripe$Reading" ⟨"SwipedStripe$Reading", "fails", "()I"⟩ ⟨"SwipedStripe$Reading", "fails", "()I"⟩) ∈ jw_gd := kt_3 (i := 188) (by decide +kernel) rfl
theorem kw_669 : (Cond.code ⟨"SwipedStripe$Reading", "fails", "()I"⟩ prog_5_method_3_code 1 (some .int)) ∈ jw_gd := kt_3 (i := 189) rfl rfl
theorem kw_670 : (Cond.methodLink "SwipedStripe" 194 ⟨"SwipedStripe$Reading", "failsAt", "()I"⟩) ∈ jw_gd := kt_3 (i := 190) (by decide +kernel) rfl
theorem kw_671 : (Cond.instanceMethod ⟨"SwipedStripe$Reading", "failsAt", "()I"⟩) ∈ jw_gd := kt_3 (i := 191) (by decide +kernel) rfl
theorem kw_672 : (Cond.selects "SwipedStripe$Reading" ⟨"SwipedStripe$Reading", "failsAt", "()I"⟩ ⟨"SwipedStripe$Reading", "failsAt", "()I"⟩) ∈ jw_gd := kt_3 (i := 192) (by decide +kernel) rfl
theorem kw_673 : (Cond.code ⟨"SwipedStripe$Reading", "failsAt", "()I"⟩ prog_5_method_4_code 1 (some .int)) ∈ jw_gd := kt_3 (i := 193) rfl rfl
theorem kw_678 : (Cond.methodLink "SwipedStripe" 197 ⟨"SwipedStripe", "hearByText", "()V"⟩) ∈ jw_gd := kt_3 (i := 198) (by decide +kernel) rfl
theorem kw_680 : (Cond.instanceMethod ⟨"SwipedStripe", "hearByText", "()V"⟩) ∈ jw_gd := kt_3 (i := 200) (by decide +kernel) rfl
theorem kw_681 : (Cond.code ⟨"SwipedStripe", "hearByText", "()V"⟩ prog_1_method_38_code 1 (none : Option Jvm.ClassFile.FieldType)) ∈ jw_gd := kt_3 (i := 201) rfl rfl
theorem kw_686 : (Cond.methodLink "SwipedStripe" 200 ⟨"SwipedStripe", "look", "()V"⟩) ∈ jw_gd := kt_3 (i := 206) (by decide +kernel) rfl
theorem kw_688 : (Cond.instanceMethod ⟨"SwipedStripe", "look", "()V"⟩) ∈ jw_gd := kt_3 (i := 208) (by decide +kernel) rfl
theorem kw_689 : (Cond.code ⟨"SwipedStripe", "look", "()V"⟩ prog_1_method_39_code 1 (none : Option Jvm.ClassFile.FieldType)) ∈ jw_gd := kt_3 (i := 209) rfl rfl
theorem kw_690 : (Cond.methodLink "SwipedStripe" 301 ⟨"SwipedStripe$Finding", "search", "(LSwipedStripe$Reading;LSwipedStripe$Rules;)V"⟩) ∈ jw_gd := kt_3 (i := 210) (by decide +kernel) rfl
theorem kw_691 : (Cond.instanceMethod ⟨"SwipedStripe$Finding", "search", "(LSwipedStripe$Reading;LSwipedStripe$Rules;)V"⟩) ∈ jw_gd := kt_3 (i := 211) (by decide +kernel) rfl
theorem kw_692 : (Cond.selects "SwipedStripe$Finding" ⟨"SwipedStripe$Finding", "search", "(LSwipedStripe$Reading;LSwipedStripe$Rules;)V"⟩ ⟨"SwipedStripe$Finding", "search", "(LSwipedStripe$Reading;LSwipedStripe$Rules;)V"⟩) ∈ jw_gd := kt_3 (i := 212) (by decide +kernel) rfl
theorem kw_693 : (Cond.code ⟨"SwipedStripe$Finding", "search", "(LSwipedStripe$Reading;LSwipedStripe$Rules;)V"⟩ prog_4_method_10_code 3 (none : Option Jvm.ClassFile.FieldType)) ∈ jw_gd := kt_3 (i := 213) rfl rfl
theorem kw_694 : (Cond.methodLink "SwipedStripe$Finding" 47 ⟨"SwipedStripe$Row", "cut", "(I)V"⟩) ∈ jw_gd := kt_3 (i := 214) (by decide +kernel) rfl
theorem kw_695 : (Cond.methodLink "SwipedStripe$Finding" 50 ⟨"SwipedStripe$Rules", "of", "(I)I"⟩) ∈ jw_gd := kt_3 (i := 215) (by decide +kernel) rfl
theorem kw_696 : (Cond.methodLink "SwipedStripe$Finding" 61 ⟨"SwipedStripe$Rules", "isChecked", "()Z"⟩) ∈ jw_gd := kt_3 (i := 216) (by decide +kernel) rfl
theorem kw_697 : (Cond.methodLink "SwipedStripe$Finding" 69 ⟨"SwipedStripe$Rules", "coded", "(I)I"⟩) ∈ jw_gd := kt_3 (i := 217) (by decide +kernel) rfl
theorem kw_698 : (Cond.methodLink "SwipedStripe$Finding" 72 ⟨"SwipedStripe$Reading", "bits", "()LSwipedStripe$Row;"⟩) ∈ jw_gd := kt_3 (i := 218) (by decide +kernel) rfl
theorem kw_699 : (Cond.methodLink "SwipedStripe$Finding" 78 ⟨"SwipedStripe$Finding", "placeOf", "(ILSwipedStripe$Row;)I"⟩) ∈ jw_gd := kt_3 (i := 219) (by decide +kernel) rfl
theorem kw_701 : (Cond.instanceMethod ⟨"SwipedStripe$Finding", "placeOf", "(ILSwipedStripe$Row;)I"⟩) ∈ jw_gd := kt_3 (i := 221) (by decide +kernel) rfl
theorem kw_702 : (Cond.code ⟨"SwipedStripe$Finding", "placeOf", "(ILSwipedStripe$Row;)I"⟩ prog_4_method_11_code 4 (some .int)) ∈ jw_gd := kt_3 (i := 222) rfl rfl
theorem kw_703 : (Cond.methodLink "SwipedStripe$Finding" 37 ⟨"SwipedStripe$Row", "size", "()I"⟩) ∈ jw_gd := kt_3 (i := 223) (by decide +kernel) rfl
theorem kw_704 : (Cond.methodLink "SwipedStripe$Finding" 95 ⟨"SwipedStripe$Finding", "codedFrom", "(LSwipedStripe$Row;I)I"⟩) ∈ jw_gd := kt_3 (i := 224) (by decide +kernel) rfl
theorem kw_706 : (Cond.instanceMethod ⟨"SwipedStripe$Finding", "codedFrom", "(LSwipedStripe$Row;I)I"⟩) ∈ jw_gd := kt_3 (i := 226) (by decide +kernel) rfl
theorem kw_707 : (Cond.code ⟨"SwipedStripe$Finding", "codedFrom", "(LSwipedStripe$Row;I)I"⟩ prog_4_method_14_code 5 (some .int)) ∈ jw_gd := kt_3 (i := 227) rfl rfl
theorem kw_708 : (Cond.methodLink "SwipedStripe$Finding" 33 ⟨"SwipedStripe$Row", "at", "(I)I"⟩) ∈ jw_gd := kt_3 (i := 228) (by decide +kernel) rfl
theorem kw_709 : (Cond.methodLink "SwipedStripe$Finding" 82 ⟨"SwipedStripe$Finding", "takeSymbols", "(ILSwipedStripe$Row;)Z"⟩) ∈ jw_gd := kt_3 (i := 229) (by decide +kernel) rfl
theorem kw_711 : (Cond.instanceMethod ⟨"SwipedStripe$Finding", "takeSymbols", "(ILSwipedStripe$Row;)Z"⟩) ∈ jw_gd := kt_3 (i := 231) (by decide +kernel) rfl
theorem kw_712 : (Cond.code ⟨"SwipedStripe$Finding", "takeSymbols", "(ILSwipedStripe$Row;)Z"⟩ prog_4_method_12_code 7 (some .boolean)) ∈ jw_gd := kt_3 (i := 232) rfl rfl
theorem kw_713 : (Cond.methodLink "SwipedStripe$Finding" 99 ⟨"SwipedStripe$Finding", "take", "(I)Z"⟩) ∈ jw_gd := kt_3 (i := 233) (by decide +kernel) rfl
theorem kw_715 : (Cond.instanceMethod ⟨"SwipedStripe$Finding", "take", "(I)Z"⟩) ∈ jw_gd := kt_3 (i := 235) (by decide +kernel) rfl
theorem kw_716 : (Cond.code ⟨"SwipedStripe$Finding", "take", "(I)Z"⟩ prog_4_method_13_code 2 (some .boolean)) ∈ jw_gd := kt_3 (i := 236) rfl rfl
theorem kw_717 : (Cond.methodLink "SwipedStripe$Finding" 103 ⟨"SwipedStripe$Row", "push", "(I)Z"⟩) ∈ jw_gd := kt_3 (i := 237) (by decide +kernel) rfl
theorem kw_718 : (Cond.methodLink "SwipedStripe$Finding" 106 ⟨"java/lang/Integer", "bitCount", "(I)I"⟩) ∈ jw_gd := kt_3 (i := 238) (by decide +kernel) rfl
theorem kw_719 : (Cond.methodLink "SwipedStripe$Finding" 86 ⟨"SwipedStripe$Finding", "weighChecks", "()V"⟩) ∈ jw_gd := kt_3 (i := 239) (by decide +kernel) rfl
theorem kw_721 : (Cond.instanceMethod ⟨"SwipedStripe$Finding", "weighChecks", "()V"⟩) ∈ jw_gd := kt_4 (i := 1) (by decide +kernel) rfl
theorem kw_722 : (Cond.code ⟨"SwipedStripe$Finding", "weighChecks", "()V"⟩ prog_4_method_15_code 3 (none : Option Jvm.ClassFile.FieldType)) ∈ jw_gd := kt_4 (i := 2) rfl rfl
theorem kw_723 : (Cond.methodLink "SwipedStripe$Finding" 89 ⟨"SwipedStripe$Finding", "wrongSymbols", "()I"⟩) ∈ jw_gd := kt_4 (i := 3) (by decide +kernel) rfl
theorem kw_724 : (Cond.instanceMethod ⟨"SwipedStripe$Finding", "wrongSymbols", "()I"⟩) ∈ jw_gd := kt_4 (i := 4) (by decide +kernel) rfl
theorem kw_725 : (Cond.selects "SwipedStripe$Finding" ⟨"SwipedStripe$Finding", "wrongSymbols", "()I"⟩ ⟨"SwipedStripe$Finding", "wrongSymbols", "()I"⟩) ∈ jw_gd := kt_4 (i := 5) (by decide +kernel) rfl
theorem kw_726 : (Cond.code ⟨"SwipedStripe$Finding", "wrongSymbols", "()I"⟩ prog_4_method_8_code 1 (some .int)) ∈ jw_gd := kt_4 (i := 6) rfl rfl
theorem kw_727 : (Cond.methodLink "SwipedStripe$Finding" 41 ⟨"SwipedStripe$Row", "sum", "()I"⟩) ∈ jw_gd := kt_4 (i := 7) (by decide +kernel) rfl
theorem kw_728 : (Cond.methodLink "SwipedStripe$Finding" 92 ⟨"SwipedStripe$Reading", "fails", "()I"⟩) ∈ jw_gd := kt_4 (i := 8) (by decide +kernel) rfl
theorem kw_729 : (Cond.methodLink "SwipedStripe" 203 ⟨"SwipedStripe$Finding", "verdict", "()I"⟩) ∈ jw_gd := kt_4 (i := 9) (by decide +kernel) rfl
theorem kw_730 : (Cond.instanceMethod ⟨"SwipedStripe$Finding", "verdict", "()I"⟩) ∈ jw_gd := kt_4 (i := 10) (by decide +kernel) rfl
theorem kw_731 : (Cond.selects "SwipedStripe$Finding" ⟨"SwipedStripe$Finding", "verdict", "()I"⟩ ⟨"SwipedStripe$Finding", "verdict", "()I"⟩) ∈ jw_gd := kt_4 (i := 11) (by decide +kernel) rfl
theorem kw_732 : (Cond.code ⟨"SwipedStripe$Finding", "verdict", "()I"⟩ prog_4_method_2_code 1 (some .int)) ∈ jw_gd := kt_4 (i := 12) rfl rfl
theorem kw_733 : (Cond.methodLink "SwipedStripe" 206 ⟨"SwipedStripe$Finding", "beginAt", "()I"⟩) ∈ jw_gd := kt_4 (i := 13) (by decide +kernel) rfl
theorem kw_734 : (Cond.instanceMethod ⟨"SwipedStripe$Finding", "beginAt", "()I"⟩) ∈ jw_gd := kt_4 (i := 14) (by decide +kernel) rfl
theorem kw_735 : (Cond.selects "SwipedStripe$Finding" ⟨"SwipedStripe$Finding", "beginAt", "()I"⟩ ⟨"SwipedStripe$Finding", "beginAt", "()I"⟩) ∈ jw_gd := kt_4 (i := 15) (by decide +kernel) rfl
theorem kw_736 : (Cond.code ⟨"SwipedStripe$Finding", "beginAt", "()I"⟩ prog_4_method_3_code 1 (some .int)) ∈ jw_gd := kt_4 (i := 16) rfl rfl
theorem kw_737 : (Cond.methodLink "SwipedStripe" 209 ⟨"SwipedStripe$Finding", "isWhole", "()Z"⟩) ∈ jw_gd := kt_4 (i := 17) (by decide +kernel) rfl
theorem kw_738 : (Cond.instanceMethod ⟨"SwipedStripe$Finding", "isWhole", "()Z"⟩) ∈ jw_gd := kt_4 (i := 18) (by decide +kernel) rfl
theorem kw_739 : (Cond.selects "SwipedStripe$Finding" ⟨"SwipedStripe$Finding", "isWhole", "()Z"⟩ ⟨"SwipedStripe$Finding", "isWhole", "()Z"⟩) ∈ jw_gd := kt_4 (i := 19) (by decide +kernel) rfl
theorem kw_740 : (Cond.code ⟨"SwipedStripe$Finding", "isWhole", "()Z"⟩ prog_4_method_4_code 1 (some .boolean)) ∈ jw_gd := kt_4 (i := 20) rfl rfl
theorem kw_741 : (Cond.methodLink "SwipedStripe" 212 ⟨"SwipedStripe$Finding", "values", "()I"⟩) ∈ jw_gd := kt_4 (i := 21) (by decide +kernel) rfl
theorem kw_742 : (Cond.instanceMethod ⟨"SwipedStripe$Finding", "values", "()I"⟩) ∈ jw_gd := kt_4 (i := 22) (by decide +kernel) rfl
theorem kw_743 : (Cond.selects "SwipedStripe$Finding" ⟨"SwipedStripe$Finding", "values", "()I"⟩ ⟨"SwipedStripe$Finding", "values", "()I"⟩) ∈ jw_gd := kt_4 (i := 23) (by decide +kernel) rfl
theorem kw_744 : (Cond.code ⟨"SwipedStripe$Finding", "values", "()I"⟩ prog_4_method_5_code 1 (some .int)) ∈ jw_gd := kt_4 (i := 24) rfl rfl
theorem kw_745 : (Cond.methodLink "SwipedStripe" 215 ⟨"SwipedStripe$Finding", "wrongSymbols", "()I"⟩) ∈ jw_gd := kt_4 (i := 25) (by decide +kernel) rfl
theorem kw_746 : (Cond.methodLink "SwipedStripe" 218 ⟨"SwipedStripe$Finding", "wrongChecks", "()I"⟩) ∈ jw_gd := kt_4 (i := 26) (by decide +kernel) rfl
theorem kw_747 : (Cond.instanceMethod ⟨"SwipedStripe$Finding", "wrongChecks", "()I"⟩) ∈ jw_gd := kt_4 (i := 27) (by decide +kernel) rfl
theorem kw_748 : (Cond.selects "SwipedStripe$Finding" ⟨"SwipedStripe$Finding", "wrongChecks", "()I"⟩ ⟨"SwipedStripe$Finding", "wrongChecks", "()I"⟩) ∈ jw_gd := kt_4 (i := 28) (by decide +kernel) rfl
theorem kw_749 : (Cond.code ⟨"SwipedStripe$Finding", "wrongChecks", "()I"⟩ prog_4_method_9_code 1 (some .int)) ∈ jw_gd := kt_4 (i := 29) rfl rfl
theorem kw_754 : (Cond.methodLink "SwipedStripe" 221 ⟨"SwipedStripe", "findsValues", "()Z"⟩) ∈ jw_gd := kt_4 (i := 34) (by decide +kernel) rfl
theorem kw_756 : (Cond.instanceMethod ⟨"SwipedStripe", "findsValues", "()Z"⟩) ∈ jw_gd := kt_4 (i := 36) (by decide +kernel) rfl
theorem kw_757 : (Cond.code ⟨"SwipedStripe", "findsValues", "()Z"⟩ prog_1_method_40_code 1 (some .boolean)) ∈ jw_gd := kt_4 (i := 37) rfl rfl
theorem kw_758 : (Cond.methodLink "SwipedStripe" 224 ⟨"SwipedStripe$Finding", "valueAt", "(I)I"⟩) ∈ jw_gd := kt_4 (i := 38) (by decide +kernel) rfl
theorem kw_759 : (Cond.instanceMethod ⟨"SwipedStripe$Finding", "valueAt", "(I)I"⟩) ∈ jw_gd := kt_4 (i := 39) (by decide +kernel) rfl
theorem kw_760 : (Cond.selects "SwipedStripe$Finding" ⟨"SwipedStripe$Finding", "valueAt", "(I)I"⟩ ⟨"SwipedStripe$Finding", "valueAt", "(I)I"⟩) ∈ jw_gd := kt_4 (i := 40) (by decide +kernel) rfl
theorem kw_761 : (Cond.code ⟨"SwipedStripe$Finding", "valueAt", "(I)I"⟩ prog_4_method_6_code 2 (some .int)) ∈ jw_gd := kt_4 (i := 41) rfl rfl
theorem kw_766 : (Cond.methodLink "SwipedStripe" 227 ⟨"SwipedStripe$Finding", "canBeMended", "()Z"⟩) ∈ jw_gd := kt_4 (i := 46) (by decide +kernel) rfl
theorem kw_767 : (Cond.instanceMethod ⟨"SwipedStripe$Finding", "canBeMended", "()Z"⟩) ∈ jw_gd := kt_4 (i := 47) (by decide +kernel) rfl
theorem kw_768 : (Cond.selects "SwipedStripe$Finding" ⟨"SwipedStripe$Finding", "canBeMended", "()Z"⟩ ⟨"SwipedStripe$Finding", "canBeMended", "()Z"⟩) ∈ jw_gd := kt_4 (i := 48) (by decide +kernel) rfl
theorem kw_769 : (Cond.code ⟨"SwipedStripe$Finding", "canBeMended", "()Z"⟩ prog_4_method_16_code 1 (some .boolean)) ∈ jw_gd := kt_4 (i := 49) rfl rfl
theorem kw_770 : (Cond.methodLink "SwipedStripe" 230 ⟨"SwipedStripe$Finding", "mendedSymbol", "()I"⟩) ∈ jw_gd := kt_4 (i := 50) (by decide +kernel) rfl
theorem kw_771 : (Cond.instanceMethod ⟨"SwipedStripe$Finding", "mendedSymbol", "()I"⟩) ∈ jw_gd := kt_4 (i := 51) (by decide +kernel) rfl
theorem kw_772 : (Cond.selects "SwipedStripe$Finding" ⟨"SwipedStripe$Finding", "mendedSymbol", "()I"⟩ ⟨"SwipedStripe$Finding", "mendedSymbol", "()I"⟩) ∈ jw_gd := kt_4 (i := 52) (by decide +kernel) rfl
theorem kw_773 : (Cond.code ⟨"SwipedStripe$Finding", "mendedSymbol", "()I"⟩ prog_4_method_17_code 2 (some .int)) ∈ jw_gd := kt_4 (i := 53) rfl rfl
theorem kw_774 : (Cond.methodLink "SwipedStripe" 233 ⟨"SwipedStripe$Finding", "mendedValue", "()I"⟩) ∈ jw_gd := kt_4 (i := 54) (by decide +kernel) rfl
theorem kw_775 : (Cond.instanceMethod ⟨"SwipedStripe$Finding", "mendedValue", "()I"⟩) ∈ jw_gd := kt_4 (i := 55) (by decide +kernel) rfl
theorem kw_776 : (Cond.selects "SwipedStripe$Finding" ⟨"SwipedStripe$Finding", "mendedValue", "()I"⟩ ⟨"SwipedStripe$Finding", "mendedValue", "()I"⟩) ∈ jw_gd := kt_4 (i := 56) (by decide +kernel) rfl
theorem kw_777 : (Cond.code ⟨"SwipedStripe$Finding", "mendedValue", "()I"⟩ prog_4_method_18_code 1 (some .int)) ∈ jw_gd := kt_4 (i := 57) rfl rfl
theorem kw_778 : (Cond.methodLink "SwipedStripe$Finding" 111 ⟨"SwipedStripe$Finding", "mendedSymbol", "()I"⟩) ∈ jw_gd := kt_4 (i := 58) (by decide +kernel) rfl
theorem kw_779 : (Cond.methodLink "SwipedStripe" 236 ⟨"SwipedStripe$Finding", "mendedBit", "()I"⟩) ∈ jw_gd := kt_4 (i := 59) (by decide +kernel) rfl
theorem kw_780 : (Cond.instanceMethod ⟨"SwipedStripe$Finding", "mendedBit", "()I"⟩) ∈ jw_gd := kt_4 (i := 60) (by decide +kernel) rfl
theorem kw_781 : (Cond.selects "SwipedStripe$Finding" ⟨"SwipedStripe$Finding", "mendedBit", "()I"⟩ ⟨"SwipedStripe$Finding", "mendedBit", "()I"⟩) ∈ jw_gd := kt_4 (i := 61) (by decide +kernel) rfl
theorem kw_782 : (Cond.code ⟨"SwipedStripe$Finding", "mendedBit", "()I"⟩ prog_4_method_19_code 1 (some .int)) ∈ jw_gd := kt_4 (i := 62) rfl rfl
theorem kw_791 : (Cond.methodLink "SwipedStripe" 239 ⟨"SwipedStripe$Smoothest", "part", "(LSwipedStripe$Row;)V"⟩) ∈ jw_gd := kt_4 (i := 71) (by decide +kernel) rfl
theorem kw_792 : (Cond.instanceMethod ⟨"SwipedStripe$Smoothest", "part", "(LSwipedStripe$Row;)V"⟩) ∈ jw_gd := kt_4 (i := 72) (by decide +kernel) rfl
theorem kw_793 : (Cond.selects "SwipedStripe$Smoothest" ⟨"SwipedStripe$Smoothest", "part", "(LSwipedStripe$Row;)V"⟩ ⟨"SwipedStripe$Smoothest", "part", "(LSwipedStripe$Row;)V"⟩) ∈ jw_gd := kt_4 (i := 73) (by decide +kernel) rfl
theorem kw_794 : (Cond.code ⟨"SwipedStripe$Smoothest", "part", "(LSwipedStripe$Row;)V"⟩ prog_9_method_4_code 3 (none : Option Jvm.ClassFile.FieldType)) ∈ jw_gd := kt_4 (i := 74) rfl rfl
theorem kw_795 : (Cond.methodLink "SwipedStripe$Smoothest" 30 ⟨"SwipedStripe$Row", "size", "()I"⟩) ∈ jw_gd := kt_4 (i := 75) (by decide +kernel) rfl
theorem kw_796 : (Cond.methodLink "SwipedStripe$Smoothest" 34 ⟨"SwipedStripe$Row", "zeros", "(I)V"⟩) ∈ jw_gd := kt_4 (i := 76) (by decide +kernel) rfl
theorem kw_797 : (Cond.instanceMethod ⟨"SwipedStripe$Row", "zeros", "(I)V"⟩) ∈ jw_gd := kt_4 (i := 77) (by decide +kernel) rfl
theorem kw_798 : (Cond.selects "SwipedStripe$Row" ⟨"SwipedStripe$Row", "zeros", "(I)V"⟩ ⟨"SwipedStripe$Row", "zeros", "(I)V"⟩) ∈ jw_gd := kt_4 (i := 78) (by decide +kernel) rfl
theorem kw_799 : (Cond.code ⟨"SwipedStripe$Row", "zeros", "(I)V"⟩ prog_6_method_11_code 3 (none : Option Jvm.ClassFile.FieldType)) ∈ jw_gd := kt_4 (i := 79) rfl rfl
theorem kw_800 : (Cond.methodLink "SwipedStripe$Row" 30 ⟨"java/lang/Math", "min", "(II)I"⟩) ∈ jw_gd := kt_4 (i := 80) (by decide +kernel) rfl
theorem kw_801 : (Cond.methodLink "SwipedStripe$Smoothest" 37 ⟨"SwipedStripe$Row", "at", "(I)I"⟩) ∈ jw_gd := kt_4 (i := 81) (by decide +kernel) rfl
theorem kw_802 : (Cond.methodLink "SwipedStripe$Smoothest" 41 ⟨"SwipedStripe$Smoothest", "least", "(LSwipedStripe$Row;II)I"⟩) ∈ jw_gd := kt_4 (i := 82) (by decide +kernel) rfl
theorem kw_804 : (Cond.instanceMethod ⟨"SwipedStripe$Smoothest", "least", "(LSwipedStripe$Row;II)I"⟩) ∈ jw_gd := kt_4 (i := 84) (by decide +kernel) rfl
theorem kw_805 : (Cond.code ⟨"SwipedStripe$Smoothest", "least", "(LSwipedStripe$Row;II)I"⟩ prog_9_method_6_code 4 (some .int)) ∈ jw_gd := kt_4 (i := 85) rfl rfl
theorem kw_806 : (Cond.methodLink "SwipedStripe$Smoothest" 60 ⟨"SwipedStripe$Smoothest", "withZero", "(LSwipedStripe$Row;II)I"⟩) ∈ jw_gd := kt_4 (i := 86) (by decide +kernel) rfl
theorem kw_808 : (Cond.instanceMethod ⟨"SwipedStripe$Smoothest", "withZero", "(LSwipedStripe$Row;II)I"⟩) ∈ jw_gd := kt_4 (i := 88) (by decide +kernel) rfl
theorem kw_809 : (Cond.code ⟨"SwipedStripe$Smoothest", "withZero", "(LSwipedStripe$Row;II)I"⟩ prog_9_method_7_code 4 (some .int)) ∈ jw_gd := kt_4 (i := 89) rfl rfl
theorem kw_810 : (Cond.methodLink "SwipedStripe$Smoothest" 76 ⟨"SwipedStripe$Smoothest", "step", "(II)I"⟩) ∈ jw_gd := kt_4 (i := 90) (by decide +kernel) rfl
theorem kw_811 : (Cond.static ⟨"SwipedStripe$Smoothest", "step", "(II)I"⟩) ∈ jw_gd := kt_4 (i := 91) (by decide +kernel) rfl
theorem kw_812 : (Cond.code ⟨"SwipedStripe$Smoothest", "step", "(II)I"⟩ prog_9_method_9_code 2 (some .int)) ∈ jw_gd := kt_4 (i := 92) rfl rfl
theorem kw_813 : (Cond.methodLink "SwipedStripe$Smoothest" 83 ⟨"java/lang/Math", "abs", "(I)I"⟩) ∈ jw_gd := kt_4 (i := 93) (by decide +kernel) rfl
theorem kw_814 : (Cond.methodLink "SwipedStripe$Smoothest" 63 ⟨"SwipedStripe$Smoothest", "withOne", "(LSwipedStripe$Row;II)I"⟩) ∈ jw_gd := kt_4 (i := 94) (by decide +kernel) rfl
theorem kw_816 : (Cond.instanceMethod ⟨"SwipedStripe$Smoothest", "withOne", "(LSwipedStripe$Row;II)I"⟩) ∈ jw_gd := kt_4 (i := 96) (by decide +kernel) rfl
theorem kw_817 : (Cond.code ⟨"SwipedStripe$Smoothest", "withOne", "(LSwipedStripe$Row;II)I"⟩ prog_9_method_8_code 6 (some .int)) ∈ jw_gd := kt_4 (i := 97) rfl rfl
theorem kw_818 : (Cond.methodLink "SwipedStripe$Smoothest" 79 ⟨"SwipedStripe$Row", "has", "(I)Z"⟩) ∈ jw_gd := kt_4 (i := 98) (by decide +kernel) rfl
theorem kw_819 : (Cond.constant "SwipedStripe$Smoothest" 82 1000000000) ∈ jw_gd := kt_4 (i := 99) (by decide +kernel) rfl
theorem kw_820 : (Cond.methodLink "SwipedStripe$Smoothest" 70 ⟨"java/lang/Math", "min", "(II)I"⟩) ∈ jw_gd := kt_4 (i := 100) (by decide +kernel) rfl
theorem kw_821 : (Cond.methodLink "SwipedStripe$Smoothest" 45 ⟨"SwipedStripe$Row", "put", "(II)V"⟩) ∈ jw_gd := kt_4 (i := 101) (by decide +kernel) rfl
theorem kw_822 : (Cond.methodLink "SwipedStripe$Smoothest" 49 ⟨"SwipedStripe$Row", "isEmpty", "()Z"⟩) ∈ jw_gd := kt_4 (i := 102) (by decide +kernel) rfl
theorem kw_823 : (Cond.methodLink "SwipedStripe$Smoothest" 53 ⟨"SwipedStripe$Smoothest", "walk", "(LSwipedStripe$Row;)V"⟩) ∈ jw_gd := kt_4 (i := 103) (by decide +kernel) rfl
theorem kw_825 : (Cond.instanceMethod ⟨"SwipedStripe$Smoothest", "walk", "(LSwipedStripe$Row;)V"⟩) ∈ jw_gd := kt_4 (i := 105) (by decide +kernel) rfl
theorem kw_826 : (Cond.code ⟨"SwipedStripe$Smoothest", "walk", "(LSwipedStripe$Row;)V"⟩ prog_9_method_5_code 4 (none : Option Jvm.ClassFile.FieldType)) ∈ jw_gd := kt_4 (i := 106) rfl rfl
theorem kw_827 : (Cond.methodLink "SwipedStripe$Smoothest" 57 ⟨"SwipedStripe$Row", "cut", "(I)V"⟩) ∈ jw_gd := kt_4 (i := 107) (by decide +kernel) rfl
theorem kw_828 : (Cond.methodLink "SwipedStripe$Smoothest" 66 ⟨"SwipedStripe$Row", "push", "(I)Z"⟩) ∈ jw_gd := kt_4 (i := 108) (by decide +kernel) rfl
theorem kw_829 : (Cond.methodLink "SwipedStripe" 242 ⟨"SwipedStripe$Smoothest", "roughness", "()I"⟩) ∈ jw_gd := kt_4 (i := 109) (by decide +kernel) rfl
theorem kw_830 : (Cond.instanceMethod ⟨"SwipedStripe$Smoothest", "roughness", "()I"⟩) ∈ jw_gd := kt_4 (i := 110) (by decide +kernel) rfl
theorem kw_831 : (Cond.selects "SwipedStripe$Smoothest" ⟨"SwipedStripe$Smoothest", "roughness", "()I"⟩ ⟨"SwipedStripe$Smoothest", "roughness", "()I"⟩) ∈ jw_gd := kt_4 (i := 111) (by decide +kernel) rfl
theorem kw_832 : (Cond.code ⟨"SwipedStripe$Smoothest", "roughness", "()I"⟩ prog_9_method_3_code 1 (some .int)) ∈ jw_gd := kt_4 (i := 112) rfl rfl
theorem kw_833 : (Cond.methodLink "SwipedStripe" 245 ⟨"SwipedStripe$Smoothest", "bits", "()LSwipedStripe$Row;"⟩) ∈ jw_gd := kt_4 (i := 113) (by decide +kernel) rfl
theorem kw_834 : (Cond.instanceMethod ⟨"SwipedStripe$Smoothest", "bits", "()LSwipedStripe$Row;"⟩) ∈ jw_gd := kt_4 (i := 114) (by decide +kernel) rfl
theorem kw_835 : (Cond.selects "SwipedStripe$Smoothest" ⟨"SwipedStripe$Smoothest", "bits", "()LSwipedStripe$Row;"⟩ ⟨"SwipedStripe$Smoothest", "bits", "()LSwipedStripe$Row;"⟩) ∈ jw_gd := kt_4 (i := 115) (by decide +kernel) rfl
theorem kw_836 : (Cond.code ⟨"SwipedStripe$Smoothest", "bits", "()LSwipedStripe$Row;"⟩ prog_9_method_2_code 1 (some (.object "SwipedStripe$Row"))) ∈ jw_gd := kt_4 (i := 116) rfl rfl
theorem kw_845 : (Cond.methodLink "SwipedStripe" 246 ⟨"SwipedStripe$Reading", "weighMargin", "()V"⟩) ∈ jw_gd := kt_4 (i := 125) (by decide +kernel) rfl
theorem kw_846 : (Cond.instanceMethod ⟨"SwipedStripe$Reading", "weighMargin", "()V"⟩) ∈ jw_gd := kt_4 (i := 126) (by decide +kernel) rfl
theorem kw_847 : (Cond.selects "SwipedStripe$Reading" ⟨"SwipedStripe$Reading", "weighMargin", "()V"⟩ ⟨"SwipedStripe$Reading", "weighMargin", "()V"⟩) ∈ jw_gd := kt_4 (i := 127) (by decide +kernel) rfl
theorem kw_848 : (Cond.code ⟨"SwipedStripe$Reading", "weighMargin", "()V"⟩ prog_5_method_12_code 10 (none : Option Jvm.ClassFile.FieldType)) ∈ jw_gd := kt_4 (i := 128) rfl rfl
theorem kw_849 : (Cond.constantLong "SwipedStripe$Reading" 81 4) ∈ jw_gd := kt_4 (i := 129) (by decide +kernel) rfl
theorem kw_850 : (Cond.constantLong "SwipedStripe$Reading" 83 3) ∈ jw_gd := kt_4 (i := 130) (by decide +kernel) rfl
theorem kw_851 : (Cond.methodLink "SwipedStripe$Reading" 85 ⟨"java/lang/Math", "abs", "(J)J"⟩) ∈ jw_gd := kt_4 (i := 131) (by decide +kernel) rfl
theorem kw_852 : (Cond.static ⟨"java/lang/Math", "abs", "(J)J"⟩) ∈ jw_gd := kt_4 (i := 132) (by decide +kernel) rfl
theorem kw_853 : (Cond.code ⟨"java/lang/Math", "abs", "(J)J"⟩ prog_15_method_61_code 2 (some .long)) ∈ jw_gd := kt_4 (i := 133) rfl rfl
theorem kw_854 : (Cond.methodLink "SwipedStripe$Reading" 88 ⟨"SwipedStripe$Reading", "commonDivisor", "(JJ)J"⟩) ∈ jw_gd := kt_4 (i := 134) (by decide +kernel) rfl
theorem kw_855 : (Cond.static ⟨"SwipedStripe$Reading", "commonDivisor", "(JJ)J"⟩) ∈ jw_gd := kt_4 (i := 135) (by decide +kernel) rfl
theorem kw_856 : (Cond.code ⟨"SwipedStripe$Reading", "commonDivisor", "(JJ)J"⟩ prog_5_method_13_code 7 (some .long)) ∈ jw_gd := kt_4 (i := 136) rfl rfl
theorem kw_857 : (Cond.methodLink "SwipedStripe$Reading" 92 ⟨"java/lang/Math", "max", "(JJ)J"⟩) ∈ jw_gd := kt_4 (i := 137) (by decide +kernel) rfl
theorem kw_858 : (Cond.static ⟨"java/lang/Math", "max", "(JJ)J"⟩) ∈ jw_gd := kt_4 (i := 138) (by decide +kernel) rfl
theorem kw_859 : (Cond.code ⟨"java/lang/Math", "max", "(JJ)J"⟩ prog_15_method_66_code 4 (some .long)) ∈ jw_gd := kt_4 (i := 139) rfl rfl
theorem kw_860 : (Cond.methodLink "SwipedStripe" 249 ⟨"SwipedStripe$Reading", "marginAbove", "()I"⟩) ∈ jw_gd := kt_4 (i := 140) (by decide +kernel) rfl
theorem kw_861 : (Cond.instanceMethod ⟨"SwipedStripe$Reading", "marginAbove", "()I"⟩) ∈ jw_gd := kt_4 (i := 141) (by decide +kernel) rfl
theorem kw_862 : (Cond.selects "SwipedStripe$Reading" ⟨"SwipedStripe$Reading", "marginAbove", "()I"⟩ ⟨"SwipedStripe$Reading", "marginAbove", "()I"⟩) ∈ jw_gd := kt_4 (i := 142) (by decide +kernel) rfl
theorem kw_863 : (Cond.code ⟨"SwipedStripe$Reading", "marginAbove", "()I"⟩ prog_5_method_5_code 1 (some .int)) ∈ jw_gd := kt_4 (i := 143) rfl rfl
theorem kw_864 : (Cond.methodLink "SwipedStripe" 252 ⟨"SwipedStripe$Reading", "marginBelow", "()I"⟩) ∈ jw_gd := kt_4 (i := 144) (by decide +kernel) rfl
theorem kw_865 : (Cond.instanceMethod ⟨"SwipedStripe$Reading", "marginBelow", "()I"⟩) ∈ jw_gd := kt_4 (i := 145) (by decide +kernel) rfl
theorem kw_866 : (Cond.selects "SwipedStripe$Reading" ⟨"SwipedStripe$Reading", "marginBelow", "()I"⟩ ⟨"SwipedStripe$Reading", "marginBelow", "()I"⟩) ∈ jw_gd := kt_4 (i := 146) (by decide +kernel) rfl
theorem kw_867 : (Cond.code ⟨"SwipedStripe$Reading", "marginBelow", "()I"⟩ prog_5_method_6_code 1 (some .int)) ∈ jw_gd := kt_4 (i := 147) rfl rfl
theorem kw_872 : (Cond.methodLink "SwipedStripe" 255 ⟨"SwipedStripe$Reading", "harmlessSway", "()I"⟩) ∈ jw_gd := kt_4 (i := 152) (by decide +kernel) rfl
theorem kw_873 : (Cond.instanceMethod ⟨"SwipedStripe$Reading", "harmlessSway", "()I"⟩) ∈ jw_gd := kt_4 (i := 153) (by decide +kernel) rfl
theorem kw_874 : (Cond.selects "SwipedStripe$Reading" ⟨"SwipedStripe$Reading", "harmlessSway", "()I"⟩ ⟨"SwipedStripe$Reading", "harmlessSway", "()I"⟩) ∈ jw_gd := kt_4 (i := 154) (by decide +kernel) rfl
theorem kw_875 : (Cond.code ⟨"SwipedStripe$Reading", "harmlessSway", "()I"⟩ prog_5_method_14_code 3 (some .int)) ∈ jw_gd := kt_4 (i := 155) rfl rfl
theorem kw_876 : (Cond.methodLink "SwipedStripe$Reading" 95 ⟨"SwipedStripe$Reading", "withstands", "(II)Z"⟩) ∈ jw_gd := kt_4 (i := 156) (by decide +kernel) rfl
theorem kw_878 : (Cond.instanceMethod ⟨"SwipedStripe$Reading", "withstands", "(II)Z"⟩) ∈ jw_gd := kt_4 (i := 158) (by decide +kernel) rfl
theorem kw_879 : (Cond.code ⟨"SwipedStripe$Reading", "withstands", "(II)Z"⟩ prog_5_method_15_code 5 (some .boolean)) ∈ jw_gd := kt_4 (i := 159) rfl rfl
theorem kw_884 : (Cond.methodLink "SwipedStripe" 258 ⟨"SwipedStripe$Draws", "size", "()I"⟩) ∈ jw_gd := kt_4 (i := 164) (by decide +kernel) rfl
theorem kw_885 : (Cond.instanceMethod ⟨"SwipedStripe$Draws", "size", "()I"⟩) ∈ jw_gd := kt_4 (i := 165) (by decide +kernel) rfl
theorem kw_886 : (Cond.selects "SwipedStripe$Draws" ⟨"SwipedStripe$Draws", "size", "()I"⟩ ⟨"SwipedStripe$Draws", "size", "()I"⟩) ∈ jw_gd := kt_4 (i := 166) (by decide +kernel) rfl
theorem kw_887 : (Cond.code ⟨"SwipedStripe$Draws", "size", "()I"⟩ prog_3_method_2_code 1 (some .int)) ∈ jw_gd := kt_4 (i := 167) rfl rfl
theorem kw_888 : (Cond.methodLink "SwipedStripe" 259 ⟨"SwipedStripe$Draws", "take", "(LSwipedStripe$Finding;)V"⟩) ∈ jw_gd := kt_4 (i := 168) (by decide +kernel) rfl
theorem kw_889 : (Cond.instanceMethod ⟨"SwipedStripe$Draws", "take", "(LSwipedStripe$Finding;)V"⟩) ∈ jw_gd := kt_4 (i := 169) (by decide +kernel) rfl
theorem kw_890 : (Cond.selects "SwipedStripe$Draws" ⟨"SwipedStripe$Draws", "take", "(LSwipedStripe$Finding;)V"⟩ ⟨"SwipedStripe$Draws", "take", "(LSwipedStripe$Finding;)V"⟩) ∈ jw_gd := kt_4 (i := 170) (by decide +kernel) rfl
theorem kw_891 : (Cond.code ⟨"SwipedStripe$Draws", "take", "(LSwipedStripe$Finding;)V"⟩ prog_3_method_4_code 2 (none : Option Jvm.ClassFile.FieldType)) ∈ jw_gd := kt_4 (i := 171) rfl rfl
theorem kw_892 : (Cond.methodLink "SwipedStripe$Draws" 22 ⟨"SwipedStripe$Draw", "take", "(LSwipedStripe$Finding;)V"⟩) ∈ jw_gd := kt_4 (i := 172) (by decide +kernel) rfl
theorem kw_893 : (Cond.instanceMethod ⟨"SwipedStripe$Draw", "take", "(LSwipedStripe$Finding;)V"⟩) ∈ jw_gd := kt_4 (i := 173) (by decide +kernel) rfl
theorem kw_894 : (Cond.selects "SwipedStripe$Draw" ⟨"SwipedStripe$Draw", "take", "(LSwipedStripe$Finding;)V"⟩ ⟨"SwipedStripe$Draw", "take", "(LSwipedStripe$Finding;)V"⟩) ∈ jw_gd := kt_4 (i := 174) (by decide +kernel) rfl
theorem kw_895 : (Cond.code ⟨"SwipedStripe$Draw", "take", "(LSwipedStripe$Finding;)V"⟩ prog_2_method_2_code 3 (none : Option Jvm.ClassFile.FieldType)) ∈ jw_gd := kt_4 (i := 175) rfl rfl
theorem kw_896 : (Cond.methodLink "SwipedStripe$Draw" 24 ⟨"SwipedStripe$Row", "cut", "(I)V"⟩) ∈ jw_gd := kt_4 (i := 176) (by decide +kernel) rfl
theorem kw_897 : (Cond.methodLink "SwipedStripe$Draw" 27 ⟨"SwipedStripe$Finding", "values", "()I"⟩) ∈ jw_gd := kt_4 (i := 177) (by decide +kernel) rfl
theorem kw_898 : (Cond.methodLink "SwipedStripe$Draw" 32 ⟨"SwipedStripe$Finding", "valueAt", "(I)I"⟩) ∈ jw_gd := kt_4 (i := 178) (by decide +kernel) rfl
theorem kw_899 : (Cond.methodLink "SwipedStripe$Draw" 36 ⟨"SwipedStripe$Row", "push", "(I)Z"⟩) ∈ jw_gd := kt_4 (i := 179) (by decide +kernel) rfl
theorem kw_900 : (Cond.methodLink "SwipedStripe$Draw" 40 ⟨"SwipedStripe$Finding", "valueIsSound", "(I)Z"⟩) ∈ jw_gd := kt_4 (i := 180) (by decide +kernel) rfl
theorem kw_901 : (Cond.instanceMethod ⟨"SwipedStripe$Finding", "valueIsSound", "(I)Z"⟩) ∈ jw_gd := kt_4 (i := 181) (by decide +kernel) rfl
theorem kw_902 : (Cond.selects "SwipedStripe$Finding" ⟨"SwipedStripe$Finding", "valueIsSound", "(I)Z"⟩ ⟨"SwipedStripe$Finding", "valueIsSound", "(I)Z"⟩) ∈ jw_gd := kt_4 (i := 182) (by decide +kernel) rfl
theorem kw_903 : (Cond.code ⟨"SwipedStripe$Finding", "valueIsSound", "(I)Z"⟩ prog_4_method_7_code 2 (some .boolean)) ∈ jw_gd := kt_4 (i := 183) rfl rfl
theorem kw_908 : (Cond.methodLink "SwipedStripe" 263 ⟨"SwipedStripe$Draws", "places", "()I"⟩) ∈ jw_gd := kt_4 (i := 188) (by decide +kernel) rfl
theorem kw_909 : (Cond.instanceMethod ⟨"SwipedStripe$Draws", "places", "()I"⟩) ∈ jw_gd := kt_4 (i := 189) (by decide +kernel) rfl
theorem kw_910 : (Cond.selects "SwipedStripe$Draws" ⟨"SwipedStripe$Draws", "places", "()I"⟩ ⟨"SwipedStripe$Draws", "places", "()I"⟩) ∈ jw_gd := kt_4 (i := 190) (by decide +kernel) rfl
theorem kw_911 : (Cond.code ⟨"SwipedStripe$Draws", "places", "()I"⟩ prog_3_method_5_code 5 (some .int)) ∈ jw_gd := kt_4 (i := 191) rfl rfl
theorem kw_912 : (Cond.methodLink "SwipedStripe$Draws" 26 ⟨"SwipedStripe$Draws", "withPlaces", "(I)I"⟩) ∈ jw_gd := kt_4 (i := 192) (by decide +kernel) rfl
theorem kw_913 : (Cond.instanceMethod ⟨"SwipedStripe$Draws", "withPlaces", "(I)I"⟩) ∈ jw_gd := kt_4 (i := 193) (by decide +kernel) rfl
theorem kw_914 : (Cond.selects "SwipedStripe$Draws" ⟨"SwipedStripe$Draws", "withPlaces", "(I)I"⟩ ⟨"SwipedStripe$Draws", "withPlaces", "(I)I"⟩) ∈ jw_gd := kt_4 (i := 194) (by decide +kernel) rfl
theorem kw_915 : (Cond.code ⟨"SwipedStripe$Draws", "withPlaces", "(I)I"⟩ prog_3_method_6_code 4 (some .int)) ∈ jw_gd := kt_4 (i := 195) rfl rfl
theorem kw_916 : (Cond.methodLink "SwipedStripe$Draws" 30 ⟨"SwipedStripe$Draw", "size", "()I"⟩) ∈ jw_gd := kt_4 (i := 196) (by decide +kernel) rfl
theorem kw_917 : (Cond.instanceMethod ⟨"SwipedStripe$Draw", "size", "()I"⟩) ∈ jw_gd := kt_4 (i := 197) (by decide +kernel) rfl
theorem kw_918 : (Cond.selects "SwipedStripe$Draw" ⟨"SwipedStripe$Draw", "size", "()I"⟩ ⟨"SwipedStripe$Draw", "size", "()I"⟩) ∈ jw_gd := kt_4 (i := 198) (by decide +kernel) rfl
theorem kw_919 : (Cond.code ⟨"SwipedStripe$Draw", "size", "()I"⟩ prog_2_method_3_code 1 (some .int)) ∈ jw_gd := kt_4 (i := 199) rfl rfl
theorem kw_920 : (Cond.methodLink "SwipedStripe$Draw" 43 ⟨"SwipedStripe$Row", "size", "()I"⟩) ∈ jw_gd := kt_4 (i := 200) (by decide +kernel) rfl
theorem kw_921 : (Cond.methodLink "SwipedStripe" 266 ⟨"SwipedStripe$Draws", "withPlaces", "(I)I"⟩) ∈ jw_gd := kt_4 (i := 201) (by decide +kernel) rfl
theorem kw_922 : (Cond.methodLink "SwipedStripe" 269 ⟨"SwipedStripe$Draws", "openPlaces", "(I)I"⟩) ∈ jw_gd := kt_4 (i := 202) (by decide +kernel) rfl
theorem kw_923 : (Cond.instanceMethod ⟨"SwipedStripe$Draws", "openPlaces", "(I)I"⟩) ∈ jw_gd := kt_4 (i := 203) (by decide +kernel) rfl
theorem kw_924 : (Cond.selects "SwipedStripe$Draws" ⟨"SwipedStripe$Draws", "openPlaces", "(I)I"⟩ ⟨"SwipedStripe$Draws", "openPlaces", "(I)I"⟩) ∈ jw_gd := kt_4 (i := 204) (by decide +kernel) rfl
theorem kw_925 : (Cond.code ⟨"SwipedStripe$Draws", "openPlaces", "(I)I"⟩ prog_3_method_7_code 4 (some .int)) ∈ jw_gd := kt_4 (i := 205) rfl rfl
theorem kw_926 : (Cond.methodLink "SwipedStripe$Draws" 33 ⟨"SwipedStripe$Draws", "favourite", "(II)I"⟩) ∈ jw_gd := kt_4 (i := 206) (by decide +kernel) rfl
theorem kw_927 : (Cond.instanceMethod ⟨"SwipedStripe$Draws", "favourite", "(II)I"⟩) ∈ jw_gd := kt_4 (i := 207) (by decide +kernel) rfl
theorem kw_928 : (Cond.selects "SwipedStripe$Draws" ⟨"SwipedStripe$Draws", "favourite", "(II)I"⟩ ⟨"SwipedStripe$Draws", "favourite", "(II)I"⟩) ∈ jw_gd := kt_4 (i := 208) (by decide +kernel) rfl
theorem kw_929 : (Cond.code ⟨"SwipedStripe$Draws", "favourite", "(II)I"⟩ prog_3_method_9_code 7 (some .int)) ∈ jw_gd := kt_4 (i := 209) rfl rfl
theorem kw_930 : (Cond.methodLink "SwipedStripe$Draws" 37 ⟨"SwipedStripe$Draws", "votesFor", "(III)I"⟩) ∈ jw_gd := kt_4 (i := 210) (by decide +kernel) rfl
theorem kw_932 : (Cond.instanceMethod ⟨"SwipedStripe$Draws", "votesFor", "(III)I"⟩) ∈ jw_gd := kt_4 (i := 212) (by decide +kernel) rfl
theorem kw_933 : (Cond.code ⟨"SwipedStripe$Draws", "votesFor", "(III)I"⟩ prog_3_method_11_code 6 (some .int)) ∈ jw_gd := kt_4 (i := 213) rfl rfl
theorem kw_934 : (Cond.methodLink "SwipedStripe$Draws" 44 ⟨"SwipedStripe$Draw", "isSoundAt", "(I)Z"⟩) ∈ jw_gd := kt_4 (i := 214) (by decide +kernel) rfl
theorem kw_935 : (Cond.instanceMethod ⟨"SwipedStripe$Draw", "isSoundAt", "(I)Z"⟩) ∈ jw_gd := kt_4 (i := 215) (by decide +kernel) rfl
theorem kw_936 : (Cond.selects "SwipedStripe$Draw" ⟨"SwipedStripe$Draw", "isSoundAt", "(I)Z"⟩ ⟨"SwipedStripe$Draw", "isSoundAt", "(I)Z"⟩) ∈ jw_gd := kt_4 (i := 216) (by decide +kernel) rfl
theorem kw_937 : (Cond.code ⟨"SwipedStripe$Draw", "isSoundAt", "(I)Z"⟩ prog_2_method_4_code 2 (some .boolean)) ∈ jw_gd := kt_4 (i := 217) rfl rfl
theorem kw_938 : (Cond.methodLink "SwipedStripe$Draw" 46 ⟨"SwipedStripe$Row", "has", "(I)Z"⟩) ∈ jw_gd := kt_4 (i := 218) (by decide +kernel) rfl
theorem kw_939 : (Cond.methodLink "SwipedStripe$Draws" 48 ⟨"SwipedStripe$Draw", "at", "(I)I"⟩) ∈ jw_gd := kt_4 (i := 219) (by decide +kernel) rfl
theorem kw_940 : (Cond.instanceMethod ⟨"SwipedStripe$Draw", "at", "(I)I"⟩) ∈ jw_gd := kt_4 (i := 220) (by decide +kernel) rfl
theorem kw_941 : (Cond.selects "SwipedStripe$Draw" ⟨"SwipedStripe$Draw", "at", "(I)I"⟩ ⟨"SwipedStripe$Draw", "at", "(I)I"⟩) ∈ jw_gd := kt_4 (i := 221) (by decide +kernel) rfl
theorem kw_942 : (Cond.code ⟨"SwipedStripe$Draw", "at", "(I)I"⟩ prog_2_method_5_code 2 (some .int)) ∈ jw_gd := kt_4 (i := 222) rfl rfl
theorem kw_943 : (Cond.methodLink "SwipedStripe$Draw" 49 ⟨"SwipedStripe$Row", "at", "(I)I"⟩) ∈ jw_gd := kt_4 (i := 223) (by decide +kernel) rfl
theorem kw_944 : (Cond.methodLink "SwipedStripe" 272 ⟨"SwipedStripe$Draws", "disputedPlaces", "(I)I"⟩) ∈ jw_gd := kt_4 (i := 224) (by decide +kernel) rfl
theorem kw_945 : (Cond.instanceMethod ⟨"SwipedStripe$Draws", "disputedPlaces", "(I)I"⟩) ∈ jw_gd := kt_4 (i := 225) (by decide +kernel) rfl
theorem kw_946 : (Cond.selects "SwipedStripe$Draws" ⟨"SwipedStripe$Draws", "disputedPlaces", "(I)I"⟩ ⟨"SwipedStripe$Draws", "disputedPlaces", "(I)I"⟩) ∈ jw_gd := kt_4 (i := 226) (by decide +kernel) rfl
theorem kw_947 : (Cond.code ⟨"SwipedStripe$Draws", "disputedPlaces", "(I)I"⟩ prog_3_method_8_code 5 (some .int)) ∈ jw_gd := kt_4 (i := 227) rfl rfl
theorem kw_948 : (Cond.methodLink "SwipedStripe$Draws" 41 ⟨"SwipedStripe$Draws", "voters", "(II)I"⟩) ∈ jw_gd := kt_4 (i := 228) (by decide +kernel) rfl
theorem kw_950 : (Cond.instanceMethod ⟨"SwipedStripe$Draws", "voters", "(II)I"⟩) ∈ jw_gd := kt_4 (i := 230) (by decide +kernel) rfl
theorem kw_951 : (Cond.code ⟨"SwipedStripe$Draws", "voters", "(II)I"⟩ prog_3_method_10_code 5 (some .int)) ∈ jw_gd := kt_4 (i := 231) rfl rfl
theorem kw_956 : (Cond.methodLink "SwipedStripe" 275 ⟨"SwipedStripe$Draws", "favourite", "(II)I"⟩) ∈ jw_gd := kt_4 (i := 236) (by decide +kernel) rfl
theorem kw_965 : (Cond.methodLink "SwipedStripe" 278 ⟨"SwipedStripe", "isSheet", "(I)Z"⟩) ∈ jw_gd := kt_5 (i := 5) (by decide +kernel) rfl
theorem kw_966 : (Cond.static ⟨"SwipedStripe", "isSheet", "(I)Z"⟩) ∈ jw_gd := kt_5 (i := 6) (by decide +kernel) rfl
theorem kw_967 : (Cond.code ⟨"SwipedStripe", "isSheet", "(I)Z"⟩ prog_1_method_45_code 1 (some .boolean)) ∈ jw_gd := kt_5 (i := 7) rfl rfl
theorem kw_968 : (Cond.methodLink "SwipedStripe" 281 ⟨"SwipedStripe", "isLane", "(I)Z"⟩) ∈ jw_gd := kt_5 (i := 8) (by decide +kernel) rfl
theorem kw_969 : (Cond.static ⟨"SwipedStripe", "isLane", "(I)Z"⟩) ∈ jw_gd := kt_5 (i := 9) (by decide +kernel) rfl
theorem kw_970 : (Cond.code ⟨"SwipedStripe", "isLane", "(I)Z"⟩ prog_1_method_44_code 1 (some .boolean)) ∈ jw_gd := kt_5 (i := 10) rfl rfl
theorem kw_971 : (Cond.methodLink "SwipedStripe" 284 ⟨"SwipedStripe$Sheet", "renew", "(II)V"⟩) ∈ jw_gd := kt_5 (i := 11) (by decide +kernel) rfl
theorem kw_972 : (Cond.instanceMethod ⟨"SwipedStripe$Sheet", "renew", "(II)V"⟩) ∈ jw_gd := kt_5 (i := 12) (by decide +kernel) rfl
theorem kw_973 : (Cond.selects "SwipedStripe$Sheet" ⟨"SwipedStripe$Sheet", "renew", "(II)V"⟩ ⟨"SwipedStripe$Sheet", "renew", "(II)V"⟩) ∈ jw_gd := kt_5 (i := 13) (by decide +kernel) rfl
theorem kw_974 : (Cond.code ⟨"SwipedStripe$Sheet", "renew", "(II)V"⟩ prog_8_method_4_code 3 (none : Option Jvm.ClassFile.FieldType)) ∈ jw_gd := kt_5 (i := 14) rfl rfl
theorem kw_975 : (Cond.methodLink "SwipedStripe$Sheet" 28 ⟨"SwipedStripe$Row", "zeros", "(I)V"⟩) ∈ jw_gd := kt_5 (i := 15) (by decide +kernel) rfl
theorem kw_980 : (Cond.methodLink "SwipedStripe" 287 ⟨"SwipedStripe$Sheet", "faultAt", "(I)I"⟩) ∈ jw_gd := kt_5 (i := 20) (by decide +kernel) rfl
theorem kw_981 : (Cond.instanceMethod ⟨"SwipedStripe$Sheet", "faultAt", "(I)I"⟩) ∈ jw_gd := kt_5 (i := 21) (by decide +kernel) rfl
theorem kw_982 : (Cond.selects "SwipedStripe$Sheet" ⟨"SwipedStripe$Sheet", "faultAt", "(I)I"⟩ ⟨"SwipedStripe$Sheet", "faultAt", "(I)I"⟩) ∈ jw_gd := kt_5 (i := 22) (by decide +kernel) rfl
theorem kw_983 : (Cond.code ⟨"SwipedStripe$Sheet", "faultAt", "(I)I"⟩ prog_8_method_5_code 2 (some .int)) ∈ jw_gd := kt_5 (i := 23) rfl rfl
theorem kw_984 : (Cond.methodLink "SwipedStripe$Sheet" 31 ⟨"SwipedStripe$Sheet", "isNothing", "()Z"⟩) ∈ jw_gd := kt_5 (i := 24) (by decide +kernel) rfl
theorem kw_985 : (Cond.instanceMethod ⟨"SwipedStripe$Sheet", "isNothing", "()Z"⟩) ∈ jw_gd := kt_5 (i := 25) (by decide +kernel) rfl
theorem kw_986 : (Cond.selects "SwipedStripe$Sheet" ⟨"SwipedStripe$Sheet", "isNothing", "()Z"⟩ ⟨"SwipedStripe$Sheet", "isNothing", "()Z"⟩) ∈ jw_gd := kt_5 (i := 26) (by decide +kernel) rfl
theorem kw_987 : (Cond.code ⟨"SwipedStripe$Sheet", "isNothing", "()Z"⟩ prog_8_method_2_code 1 (some .boolean)) ∈ jw_gd := kt_5 (i := 27) rfl rfl
theorem kw_988 : (Cond.methodLink "SwipedStripe$Sheet" 35 ⟨"SwipedStripe$Row", "has", "(I)Z"⟩) ∈ jw_gd := kt_5 (i := 28) (by decide +kernel) rfl
theorem kw_989 : (Cond.methodLink "SwipedStripe" 290 ⟨"SwipedStripe$Sheet", "set", "(II)V"⟩) ∈ jw_gd := kt_5 (i := 29) (by decide +kernel) rfl
theorem kw_990 : (Cond.instanceMethod ⟨"SwipedStripe$Sheet", "set", "(II)V"⟩) ∈ jw_gd := kt_5 (i := 30) (by decide +kernel) rfl
theorem kw_991 : (Cond.selects "SwipedStripe$Sheet" ⟨"SwipedStripe$Sheet", "set", "(II)V"⟩ ⟨"SwipedStripe$Sheet", "set", "(II)V"⟩) ∈ jw_gd := kt_5 (i := 31) (by decide +kernel) rfl
theorem kw_992 : (Cond.code ⟨"SwipedStripe$Sheet", "set", "(II)V"⟩ prog_8_method_8_code 3 (none : Option Jvm.ClassFile.FieldType)) ∈ jw_gd := kt_5 (i := 32) rfl rfl
theorem kw_993 : (Cond.methodLink "SwipedStripe$Sheet" 46 ⟨"SwipedStripe$Row", "put", "(II)V"⟩) ∈ jw_gd := kt_5 (i := 33) (by decide +kernel) rfl
theorem kw_998 : (Cond.methodLink "SwipedStripe" 293 ⟨"SwipedStripe$Sheet", "faultAs", "(II)I"⟩) ∈ jw_gd := kt_5 (i := 38) (by decide +kernel) rfl
theorem kw_999 : (Cond.instanceMethod ⟨"SwipedStripe$Sheet", "faultAs", "(II)I"⟩) ∈ jw_gd := kt_5 (i := 39) (by decide +kernel) rfl
theorem kw_1000 : (Cond.selects "SwipedStripe$Sheet" ⟨"SwipedStripe$Sheet", "faultAs", "(II)I"⟩ ⟨"SwipedStripe$Sheet", "faultAs", "(II)I"⟩) ∈ jw_gd := kt_5 (i := 40) (by decide +kernel) rfl
theorem kw_1001 : (Cond.code ⟨"SwipedStripe$Sheet", "faultAs", "(II)I"⟩ prog_8_method_6_code 3 (some .int)) ∈ jw_gd := kt_5 (i := 41) rfl rfl
theorem kw_1002 : (Cond.methodLink "SwipedStripe$Sheet" 39 ⟨"SwipedStripe$Sheet", "faultAt", "(I)I"⟩) ∈ jw_gd := kt_5 (i := 42) (by decide +kernel) rfl
theorem kw_1003 : (Cond.methodLink "SwipedStripe" 296 ⟨"SwipedStripe$Sheet", "at", "(I)I"⟩) ∈ jw_gd := kt_5 (i := 43) (by decide +kernel) rfl
theorem kw_1004 : (Cond.instanceMethod ⟨"SwipedStripe$Sheet", "at", "(I)I"⟩) ∈ jw_gd := kt_5 (i := 44) (by decide +kernel) rfl
theorem kw_1005 : (Cond.selects "SwipedStripe$Sheet" ⟨"SwipedStripe$Sheet", "at", "(I)I"⟩ ⟨"SwipedStripe$Sheet", "at", "(I)I"⟩) ∈ jw_gd := kt_5 (i := 45) (by decide +kernel) rfl
theorem kw_1006 : (Cond.code ⟨"SwipedStripe$Sheet", "at", "(I)I"⟩ prog_8_method_7_code 2 (some .int)) ∈ jw_gd := kt_5 (i := 46) rfl rfl
theorem kw_1007 : (Cond.methodLink "SwipedStripe$Sheet" 43 ⟨"SwipedStripe$Row", "at", "(I)I"⟩) ∈ jw_gd := kt_5 (i := 47) (by decide +kernel) rfl
theorem kw_1020 : (Cond.methodLink "SwipedStripe" 297 ⟨"SwipedStripe$Sheet", "isNothing", "()Z"⟩) ∈ jw_gd := kt_5 (i := 60) (by decide +kernel) rfl
theorem kw_1021 : (Cond.methodLink "SwipedStripe" 300 ⟨"SwipedStripe$Sheet", "size", "()I"⟩) ∈ jw_gd := kt_5 (i := 61) (by decide +kernel) rfl
theorem kw_1022 : (Cond.instanceMethod ⟨"SwipedStripe$Sheet", "size", "()I"⟩) ∈ jw_gd := kt_5 (i := 62) (by decide +kernel) rfl
theorem kw_1023 : (Cond.selects "SwipedStripe$Sheet" ⟨"SwipedStripe$Sheet", "size", "()I"⟩ ⟨"SwipedStripe$Sheet", "size", "()I"⟩) ∈ jw_gd := kt_5 (i := 63) (by decide +kernel) rfl
theorem kw_1024 : (Cond.code ⟨"SwipedStripe$Sheet", "size", "()I"⟩ prog_8_method_3_code 1 (some .int)) ∈ jw_gd := kt_5 (i := 64) rfl rfl
theorem kw_1025 : (Cond.methodLink "SwipedStripe$Sheet" 24 ⟨"SwipedStripe$Row", "size", "()I"⟩) ∈ jw_gd := kt_5 (i := 65) (by decide +kernel) rfl
theorem kw_1032 : (Cond.fieldLink "SwipedStripeModel" 7 "SwipedStripeModel" "tape" "[I") ∈ jw_gd := kt_5 (i := 72) (by decide +kernel) rfl
theorem kw_1033 : (Cond.fieldLink "SwipedStripeModel" 77 "SwipedStripeModel" "taped" "I") ∈ jw_gd := kt_5 (i := 73) (by decide +kernel) rfl
theorem kw_1034 : (Cond.fieldLink "SwipedStripeModel" 132 "SwipedStripeModel" "fault" "I") ∈ jw_gd := kt_5 (i := 74) (by decide +kernel) rfl
theorem kw_1035 : (Cond.fieldLink "SwipedStripeModel" 85 "SwipedStripeModel" "wrong" "I") ∈ jw_gd := kt_5 (i := 75) (by decide +kernel) rfl
theorem kw_1036 : (Cond.fieldLink "SwipedStripeModel" 91 "SwipedStripeModel" "wrongAt" "I") ∈ jw_gd := kt_5 (i := 76) (by decide +kernel) rfl
theorem kw_1037 : (Cond.fieldLink "SwipedStripeModel" 98 "SwipedStripeModel" "spot" "I") ∈ jw_gd := kt_5 (i := 77) (by decide +kernel) rfl
theorem kw_1038 : (Cond.fieldLink "SwipedStripeModel" 88 "SwipedStripeModel" "place" "I") ∈ jw_gd := kt_5 (i := 78) (by decide +kernel) rfl
theorem kw_1039 : (Cond.fieldLink "SwipedStripeModel" 104 "SwipedStripeModel" "token" "I") ∈ jw_gd := kt_5 (i := 79) (by decide +kernel) rfl
theorem kw_1040 : (Cond.fieldLink "SwipedStripeModel" 101 "SwipedStripeModel" "value" "I") ∈ jw_gd := kt_5 (i := 80) (by decide +kernel) rfl
theorem kw_1041 : (Cond.fieldLink "SwipedStripeModel" 13 "SwipedStripeModel" "cuts" "[I") ∈ jw_gd := kt_5 (i := 81) (by decide +kernel) rfl
theorem kw_1042 : (Cond.fieldLink "SwipedStripeModel" 16 "SwipedStripeModel" "letters" "[I") ∈ jw_gd := kt_5 (i := 82) (by decide +kernel) rfl
theorem kw_1043 : (Cond.fieldLink "SwipedStripeModel" 19 "SwipedStripeModel" "plain" "[I") ∈ jw_gd := kt_5 (i := 83) (by decide +kernel) rfl
theorem kw_1044 : (Cond.fieldLink "SwipedStripeModel" 22 "SwipedStripeModel" "leasts" "[I") ∈ jw_gd := kt_5 (i := 84) (by decide +kernel) rfl
theorem kw_1045 : (Cond.fieldLink "SwipedStripeModel" 25 "SwipedStripeModel" "mosts" "[I") ∈ jw_gd := kt_5 (i := 85) (by decide +kernel) rfl
theorem kw_1046 : (Cond.fieldLink "SwipedStripeModel" 28 "SwipedStripeModel" "holds" "[I") ∈ jw_gd := kt_5 (i := 86) (by decide +kernel) rfl
theorem kw_1047 : (Cond.fieldLink "SwipedStripeModel" 31 "SwipedStripeModel" "reads" "[I") ∈ jw_gd := kt_5 (i := 87) (by decide +kernel) rfl
theorem kw_1048 : (Cond.fieldLink "SwipedStripeModel" 123 "SwipedStripeModel" "toldOnes" "I") ∈ jw_gd := kt_5 (i := 88) (by decide +kernel) rfl
theorem kw_1049 : (Cond.fieldLink "SwipedStripeModel" 34 "SwipedStripeModel" "row" "[I") ∈ jw_gd := kt_5 (i := 89) (by decide +kernel) rfl
theorem kw_1050 : (Cond.fieldLink "SwipedStripeModel" 135 "SwipedStripeModel" "rowMany" "I") ∈ jw_gd := kt_5 (i := 90) (by decide +kernel) rfl
theorem kw_1051 : (Cond.fieldLink "SwipedStripeModel" 37 "SwipedStripeModel" "bits" "[I") ∈ jw_gd := kt_5 (i := 91) (by decide +kernel) rfl
theorem kw_1052 : (Cond.fieldLink "SwipedStripeModel" 149 "SwipedStripeModel" "bitMany" "I") ∈ jw_gd := kt_5 (i := 92) (by decide +kernel) rfl
theorem kw_1053 : (Cond.fieldLink "SwipedStripeModel" 40 "SwipedStripeModel" "gaps" "[I") ∈ jw_gd := kt_5 (i := 93) (by decide +kernel) rfl
theorem kw_1054 : (Cond.fieldLink "SwipedStripeModel" 138 "SwipedStripeModel" "gapMany" "I") ∈ jw_gd := kt_5 (i := 94) (by decide +kernel) rfl
theorem kw_1055 : (Cond.fieldLink "SwipedStripeModel" 173 "SwipedStripeModel" "seed" "I") ∈ jw_gd := kt_5 (i := 95) (by decide +kernel) rfl
theorem kw_1056 : (Cond.fieldLink "SwipedStripeModel" 43 "SwipedStripeModel" "heardBits" "[I") ∈ jw_gd := kt_5 (i := 96) (by decide +kernel) rfl
theorem kw_1057 : (Cond.fieldLink "SwipedStripeModel" 200 "SwipedStripeModel" "heardMany" "I") ∈ jw_gd := kt_5 (i := 97) (by decide +kernel) rfl
theorem kw_1058 : (Cond.fieldLink "SwipedStripeModel" 203 "SwipedStripeModel" "failed" "I") ∈ jw_gd := kt_5 (i := 98) (by decide +kernel) rfl
theorem kw_1059 : (Cond.fieldLink "SwipedStripeModel" 206 "SwipedStripeModel" "failedAt" "I") ∈ jw_gd := kt_5 (i := 99) (by decide +kernel) rfl
theorem kw_1060 : (Cond.fieldLink "SwipedStripeModel" 224 "SwipedStripeModel" "marginUp" "J") ∈ jw_gd := kt_5 (i := 100) (by decide +kernel) rfl
theorem kw_1061 : (Cond.fieldLink "SwipedStripeModel" 209 "SwipedStripeModel" "marginDown" "J") ∈ jw_gd := kt_5 (i := 101) (by decide +kernel) rfl
theorem kw_1062 : (Cond.fieldLink "SwipedStripeModel" 213 "SwipedStripeModel" "swayed" "I") ∈ jw_gd := kt_5 (i := 102) (by decide +kernel) rfl
theorem kw_1063 : (Cond.fieldLink "SwipedStripeModel" 261 "SwipedStripeModel" "verdict" "I") ∈ jw_gd := kt_5 (i := 103) (by decide +kernel) rfl
theorem kw_1064 : (Cond.fieldLink "SwipedStripeModel" 235 "SwipedStripeModel" "beginAt" "I") ∈ jw_gd := kt_5 (i := 104) (by decide +kernel) rfl
theorem kw_1065 : (Cond.fieldLink "SwipedStripeModel" 46 "SwipedStripeModel" "symbols" "[I") ∈ jw_gd := kt_5 (i := 105) (by decide +kernel) rfl
theorem kw_1066 : (Cond.fieldLink "SwipedStripeModel" 49 "SwipedStripeModel" "fitsOf" "[Z") ∈ jw_gd := kt_5 (i := 106) (by decide +kernel) rfl
theorem kw_1067 : (Cond.fieldLink "SwipedStripeModel" 245 "SwipedStripeModel" "symbolMany" "I") ∈ jw_gd := kt_5 (i := 107) (by decide +kernel) rfl
theorem kw_1068 : (Cond.fieldLink "SwipedStripeModel" 255 "SwipedStripeModel" "misfits" "I") ∈ jw_gd := kt_5 (i := 108) (by decide +kernel) rfl
theorem kw_1069 : (Cond.fieldLink "SwipedStripeModel" 258 "SwipedStripeModel" "otherChecks" "I") ∈ jw_gd := kt_5 (i := 109) (by decide +kernel) rfl
theorem kw_1070 : (Cond.fieldLink "SwipedStripeModel" 53 "SwipedStripeModel" "rest" "[I") ∈ jw_gd := kt_5 (i := 110) (by decide +kernel) rfl
theorem kw_1071 : (Cond.fieldLink "SwipedStripeModel" 56 "SwipedStripeModel" "smoothBits" "[I") ∈ jw_gd := kt_5 (i := 111) (by decide +kernel) rfl
theorem kw_1072 : (Cond.fieldLink "SwipedStripeModel" 283 "SwipedStripeModel" "smoothMany" "I") ∈ jw_gd := kt_5 (i := 112) (by decide +kernel) rfl
theorem kw_1073 : (Cond.fieldLink "SwipedStripeModel" 141 "SwipedStripeModel" "drawMany" "I") ∈ jw_gd := kt_5 (i := 113) (by decide +kernel) rfl
theorem kw_1074 : (Cond.fieldLink "SwipedStripeModel" 59 "SwipedStripeModel" "drawLong" "[I") ∈ jw_gd := kt_5 (i := 114) (by decide +kernel) rfl
theorem kw_1075 : (Cond.fieldLink "SwipedStripeModel" 62 "SwipedStripeModel" "drawn" "[I") ∈ jw_gd := kt_5 (i := 115) (by decide +kernel) rfl
theorem kw_1076 : (Cond.fieldLink "SwipedStripeModel" 65 "SwipedStripeModel" "drawnFits" "[Z") ∈ jw_gd := kt_5 (i := 116) (by decide +kernel) rfl
theorem kw_1077 : (Cond.fieldLink "SwipedStripeModel" 293 "SwipedStripeModel" "partMany" "I") ∈ jw_gd := kt_5 (i := 117) (by decide +kernel) rfl
theorem kw_1078 : (Cond.fieldLink "SwipedStripeModel" 68 "SwipedStripeModel" "lanes" "[I") ∈ jw_gd := kt_5 (i := 118) (by decide +kernel) rfl
theorem kw_1079 : (Cond.fieldLink "SwipedStripeModel" 71 "SwipedStripeModel" "lengths" "[I") ∈ jw_gd := kt_5 (i := 119) (by decide +kernel) rfl
theorem kw_1080 : (Cond.fieldLink "SwipedStripeModel" 74 "SwipedStripeModel" "cells" "[I") ∈ jw_gd := kt_5 (i := 120) (by decide +kernel) rfl
theorem kw_1081 : (Cond.fieldLink "SwipedStripeModel" 310 "SwipedStripeModel" "torn" "I") ∈ jw_gd := kt_5 (i := 121) (by decide +kernel) rfl
theorem kw_1192 : (Cond.methodLink "SwipedStripeModel" 81 ⟨"SwipedStripeModel", "in", "(JJJ)Z"⟩) ∈ jw_gd := kt_5 (i := 232) (by decide +kernel) rfl
theorem kw_1193 : (Cond.static ⟨"SwipedStripeModel", "in", "(JJJ)Z"⟩) ∈ jw_gd := kt_5 (i := 233) (by decide +kernel) rfl
theorem kw_1194 : (Cond.code ⟨"SwipedStripeModel", "in", "(JJJ)Z"⟩ prog_13_method_3_code 6 (some .boolean)) ∈ jw_gd := kt_5 (i := 234) rfl rfl
theorem kw_1199 : (Cond.methodLink "SwipedStripeModel" 126 ⟨"SwipedStripeModel", "next", "()V"⟩) ∈ jw_gd := kt_5 (i := 239) (by decide +kernel) rfl
theorem kw_1201 : (Cond.instanceMethod ⟨"SwipedStripeModel", "next", "()V"⟩) ∈ jw_gd := kt_6 (i := 1) (by decide +kernel) rfl
theorem kw_1202 : (Cond.code ⟨"SwipedStripeModel", "next", "()V"⟩ prog_13_method_9_code 2 (none : Option Jvm.ClassFile.FieldType)) ∈ jw_gd := kt_6 (i := 2) rfl rfl
theorem kw_1203 : (Cond.methodLink "SwipedStripeModel" 94 ⟨"SwipedStripeModel", "byteAt", "(I)I"⟩) ∈ jw_gd := kt_6 (i := 3) (by decide +kernel) rfl
theorem kw_1205 : (Cond.instanceMethod ⟨"SwipedStripeModel", "byteAt", "(I)I"⟩) ∈ jw_gd := kt_6 (i := 5) (by decide +kernel) rfl
theorem kw_1206 : (Cond.code ⟨"SwipedStripeModel", "byteAt", "(I)I"⟩ prog_13_method_6_code 2 (some .int)) ∈ jw_gd := kt_6 (i := 6) rfl rfl
theorem kw_1207 : (Cond.constantLong "SwipedStripeModel" 107 97) ∈ jw_gd := kt_6 (i := 7) (by decide +kernel) rfl
theorem kw_1208 : (Cond.constantLong "SwipedStripeModel" 109 122) ∈ jw_gd := kt_6 (i := 8) (by decide +kernel) rfl
theorem kw_1209 : (Cond.methodLink "SwipedStripeModel" 111 ⟨"SwipedStripeModel", "nameAt", "(II)I"⟩) ∈ jw_gd := kt_6 (i := 9) (by decide +kernel) rfl
theorem kw_1211 : (Cond.instanceMethod ⟨"SwipedStripeModel", "nameAt", "(II)I"⟩) ∈ jw_gd := kt_6 (i := 11) (by decide +kernel) rfl
theorem kw_1212 : (Cond.code ⟨"SwipedStripeModel", "nameAt", "(II)I"⟩ prog_13_method_8_code 6 (some .int)) ∈ jw_gd := kt_6 (i := 12) rfl rfl
theorem kw_1213 : (Cond.methodLink "SwipedStripeModel" 115 ⟨"SwipedStripeModel", "fails", "(I)V"⟩) ∈ jw_gd := kt_6 (i := 13) (by decide +kernel) rfl
theorem kw_1215 : (Cond.instanceMethod ⟨"SwipedStripeModel", "fails", "(I)V"⟩) ∈ jw_gd := kt_6 (i := 15) (by decide +kernel) rfl
theorem kw_1216 : (Cond.code ⟨"SwipedStripeModel", "fails", "(I)V"⟩ prog_13_method_7_code 2 (none : Option Jvm.ClassFile.FieldType)) ∈ jw_gd := kt_6 (i := 16) rfl rfl
theorem kw_1217 : (Cond.constantLong "SwipedStripeModel" 119 48) ∈ jw_gd := kt_6 (i := 17) (by decide +kernel) rfl
theorem kw_1218 : (Cond.constantLong "SwipedStripeModel" 121 57) ∈ jw_gd := kt_6 (i := 18) (by decide +kernel) rfl
theorem kw_1219 : (Cond.methodLink "SwipedStripeModel" 129 ⟨"SwipedStripeModel", "readLine", "()V"⟩) ∈ jw_gd := kt_6 (i := 19) (by decide +kernel) rfl
theorem kw_1221 : (Cond.instanceMethod ⟨"SwipedStripeModel", "readLine", "()V"⟩) ∈ jw_gd := kt_6 (i := 21) (by decide +kernel) rfl
theorem kw_1222 : (Cond.code ⟨"SwipedStripeModel", "readLine", "()V"⟩ prog_13_method_10_code 3 (none : Option Jvm.ClassFile.FieldType)) ∈ jw_gd := kt_6 (i := 22) rfl rfl
theorem kw_1231 : (Cond.constantLong "SwipedStripeModel" 144 8) ∈ jw_gd := kt_6 (i := 31) (by decide +kernel) rfl
theorem kw_1248 : (Cond.constantLong "SwipedStripeModel" 165 2) ∈ jw_gd := kt_6 (i := 48) (by decide +kernel) rfl
theorem kw_1249 : (Cond.methodLink "SwipedStripeModel" 167 ⟨"SwipedStripeModel", "layStripe", "()V"⟩) ∈ jw_gd := kt_6 (i := 49) (by decide +kernel) rfl
theorem kw_1251 : (Cond.instanceMethod ⟨"SwipedStripeModel", "layStripe", "()V"⟩) ∈ jw_gd := kt_6 (i := 51) (by decide +kernel) rfl
theorem kw_1252 : (Cond.code ⟨"SwipedStripeModel", "layStripe", "()V"⟩ prog_13_method_22_code 2 (none : Option Jvm.ClassFile.FieldType)) ∈ jw_gd := kt_6 (i := 52) rfl rfl
theorem kw_1253 : (Cond.methodLink "SwipedStripeModel" 152 ⟨"SwipedStripeModel", "layBit", "(I)V"⟩) ∈ jw_gd := kt_6 (i := 53) (by decide +kernel) rfl
theorem kw_1255 : (Cond.instanceMethod ⟨"SwipedStripeModel", "layBit", "(I)V"⟩) ∈ jw_gd := kt_6 (i := 55) (by decide +kernel) rfl
theorem kw_1256 : (Cond.code ⟨"SwipedStripeModel", "layBit", "(I)V"⟩ prog_13_method_19_code 2 (none : Option Jvm.ClassFile.FieldType)) ∈ jw_gd := kt_6 (i := 56) rfl rfl
theorem kw_1257 : (Cond.methodLink "SwipedStripeModel" 158 ⟨"SwipedStripeModel", "laySymbol", "(I)V"⟩) ∈ jw_gd := kt_6 (i := 57) (by decide +kernel) rfl
theorem kw_1259 : (Cond.instanceMethod ⟨"SwipedStripeModel", "laySymbol", "(I)V"⟩) ∈ jw_gd := kt_6 (i := 59) (by decide +kernel) rfl
theorem kw_1260 : (Cond.code ⟨"SwipedStripeModel", "laySymbol", "(I)V"⟩ prog_13_method_20_code 3 (none : Option Jvm.ClassFile.FieldType)) ∈ jw_gd := kt_6 (i := 60) rfl rfl
theorem kw_1261 : (Cond.methodLink "SwipedStripeModel" 155 ⟨"SwipedStripeModel", "parity", "(I)I"⟩) ∈ jw_gd := kt_6 (i := 61) (by decide +kernel) rfl
theorem kw_1263 : (Cond.instanceMethod ⟨"SwipedStripeModel", "parity", "(I)I"⟩) ∈ jw_gd := kt_6 (i := 63) (by decide +kernel) rfl
theorem kw_1264 : (Cond.code ⟨"SwipedStripeModel", "parity", "(I)I"⟩ prog_13_method_18_code 2 (some .int)) ∈ jw_gd := kt_6 (i := 64) rfl rfl
theorem kw_1265 : (Cond.methodLink "SwipedStripeModel" 146 ⟨"SwipedStripeModel", "onesOf", "(I)I"⟩) ∈ jw_gd := kt_6 (i := 65) (by decide +kernel) rfl
theorem kw_1266 : (Cond.static ⟨"SwipedStripeModel", "onesOf", "(I)I"⟩) ∈ jw_gd := kt_6 (i := 66) (by decide +kernel) rfl
theorem kw_1267 : (Cond.code ⟨"SwipedStripeModel", "onesOf", "(I)I"⟩ prog_13_method_17_code 3 (some .int)) ∈ jw_gd := kt_6 (i := 67) rfl rfl
theorem kw_1268 : (Cond.methodLink "SwipedStripeModel" 161 ⟨"SwipedStripeModel", "checks", "()I"⟩) ∈ jw_gd := kt_6 (i := 68) (by decide +kernel) rfl
theorem kw_1270 : (Cond.instanceMethod ⟨"SwipedStripeModel", "checks", "()I"⟩) ∈ jw_gd := kt_6 (i := 70) (by decide +kernel) rfl
theorem kw_1271 : (Cond.code ⟨"SwipedStripeModel", "checks", "()I"⟩ prog_13_method_21_code 3 (some .int)) ∈ jw_gd := kt_6 (i := 71) rfl rfl
theorem kw_1272 : (Cond.methodLink "SwipedStripeModel" 170 ⟨"SwipedStripeModel", "onesLaid", "()I"⟩) ∈ jw_gd := kt_6 (i := 72) (by decide +kernel) rfl
theorem kw_1274 : (Cond.instanceMethod ⟨"SwipedStripeModel", "onesLaid", "()I"⟩) ∈ jw_gd := kt_6 (i := 74) (by decide +kernel) rfl
theorem kw_1275 : (Cond.code ⟨"SwipedStripeModel", "onesLaid", "()I"⟩ prog_13_method_23_code 3 (some .int)) ∈ jw_gd := kt_6 (i := 75) rfl rfl
theorem kw_1284 : (Cond.constantLong "SwipedStripeModel" 177 4) ∈ jw_gd := kt_6 (i := 84) (by decide +kernel) rfl
theorem kw_1285 : (Cond.constantLong "SwipedStripeModel" 179 999) ∈ jw_gd := kt_6 (i := 85) (by decide +kernel) rfl
theorem kw_1286 : (Cond.constantLong "SwipedStripeModel" 181 (-50)) ∈ jw_gd := kt_6 (i := 86) (by decide +kernel) rfl
theorem kw_1287 : (Cond.constantLong "SwipedStripeModel" 183 50) ∈ jw_gd := kt_6 (i := 87) (by decide +kernel) rfl
theorem kw_1288 : (Cond.constantLong "SwipedStripeModel" 185 99) ∈ jw_gd := kt_6 (i := 88) (by decide +kernel) rfl
theorem kw_1289 : (Cond.methodLink "SwipedStripeModel" 187 ⟨"SwipedStripeModel", "layGap", "(II)V"⟩) ∈ jw_gd := kt_6 (i := 89) (by decide +kernel) rfl
theorem kw_1291 : (Cond.instanceMethod ⟨"SwipedStripeModel", "layGap", "(II)V"⟩) ∈ jw_gd := kt_6 (i := 91) (by decide +kernel) rfl
theorem kw_1292 : (Cond.code ⟨"SwipedStripeModel", "layGap", "(II)V"⟩ prog_13_method_26_code 4 (none : Option Jvm.ClassFile.FieldType)) ∈ jw_gd := kt_6 (i := 92) rfl rfl
theorem kw_1293 : (Cond.constant "SwipedStripeModel" 176 1103515245) ∈ jw_gd := kt_6 (i := 93) (by decide +kernel) rfl
theorem kw_1298 : (Cond.methodLink "SwipedStripeModel" 191 ⟨"SwipedStripeModel", "isGap", "(I)Z"⟩) ∈ jw_gd := kt_6 (i := 98) (by decide +kernel) rfl
theorem kw_1300 : (Cond.instanceMethod ⟨"SwipedStripeModel", "isGap", "(I)Z"⟩) ∈ jw_gd := kt_6 (i := 100) (by decide +kernel) rfl
theorem kw_1301 : (Cond.code ⟨"SwipedStripeModel", "isGap", "(I)Z"⟩ prog_13_method_28_code 2 (some .boolean)) ∈ jw_gd := kt_6 (i := 101) rfl rfl
theorem kw_1306 : (Cond.constantLong "SwipedStripeModel" 195 9999) ∈ jw_gd := kt_6 (i := 106) (by decide +kernel) rfl
theorem kw_1319 : (Cond.methodLink "SwipedStripeModel" 197 ⟨"SwipedStripeModel", "reverse", "()V"⟩) ∈ jw_gd := kt_6 (i := 119) (by decide +kernel) rfl
theorem kw_1321 : (Cond.instanceMethod ⟨"SwipedStripeModel", "reverse", "()V"⟩) ∈ jw_gd := kt_6 (i := 121) (by decide +kernel) rfl
theorem kw_1322 : (Cond.code ⟨"SwipedStripeModel", "reverse", "()V"⟩ prog_13_method_33_code 3 (none : Option Jvm.ClassFile.FieldType)) ∈ jw_gd := kt_6 (i := 122) rfl rfl
theorem kw_1327 : (Cond.methodLink "SwipedStripeModel" 231 ⟨"SwipedStripeModel", "layRead", "(IZ)V"⟩) ∈ jw_gd := kt_6 (i := 127) (by decide +kernel) rfl
theorem kw_1329 : (Cond.instanceMethod ⟨"SwipedStripeModel", "layRead", "(IZ)V"⟩) ∈ jw_gd := kt_6 (i := 129) (by decide +kernel) rfl
theorem kw_1330 : (Cond.code ⟨"SwipedStripeModel", "layRead", "(IZ)V"⟩ prog_13_method_37_code 12 (none : Option Jvm.ClassFile.FieldType)) ∈ jw_gd := kt_6 (i := 130) rfl rfl
theorem kw_1331 : (Cond.constantLong "SwipedStripeModel" 216 100) ∈ jw_gd := kt_6 (i := 131) (by decide +kernel) rfl
theorem kw_1332 : (Cond.methodLink "SwipedStripeModel" 218 ⟨"SwipedStripeModel", "size", "(J)J"⟩) ∈ jw_gd := kt_6 (i := 132) (by decide +kernel) rfl
theorem kw_1333 : (Cond.static ⟨"SwipedStripeModel", "size", "(J)J"⟩) ∈ jw_gd := kt_6 (i := 133) (by decide +kernel) rfl
theorem kw_1334 : (Cond.code ⟨"SwipedStripeModel", "size", "(J)J"⟩ prog_13_method_35_code 2 (some .long)) ∈ jw_gd := kt_6 (i := 134) rfl rfl
theorem kw_1335 : (Cond.constantLong "SwipedStripeModel" 222 3) ∈ jw_gd := kt_6 (i := 135) (by decide +kernel) rfl
theorem kw_1336 : (Cond.methodLink "SwipedStripeModel" 227 ⟨"SwipedStripeModel", "swayOf", "(IIZ)I"⟩) ∈ jw_gd := kt_6 (i := 136) (by decide +kernel) rfl
theorem kw_1338 : (Cond.instanceMethod ⟨"SwipedStripeModel", "swayOf", "(IIZ)I"⟩) ∈ jw_gd := kt_6 (i := 138) (by decide +kernel) rfl
theorem kw_1339 : (Cond.code ⟨"SwipedStripeModel", "swayOf", "(IIZ)I"⟩ prog_13_method_36_code 5 (some .int)) ∈ jw_gd := kt_6 (i := 139) rfl rfl
theorem kw_1348 : (Cond.methodLink "SwipedStripeModel" 264 ⟨"SwipedStripeModel", "layFound", "()V"⟩) ∈ jw_gd := kt_6 (i := 148) (by decide +kernel) rfl
theorem kw_1350 : (Cond.instanceMethod ⟨"SwipedStripeModel", "layFound", "()V"⟩) ∈ jw_gd := kt_6 (i := 150) (by decide +kernel) rfl
theorem kw_1351 : (Cond.code ⟨"SwipedStripeModel", "layFound", "()V"⟩ prog_13_method_44_code 3 (none : Option Jvm.ClassFile.FieldType)) ∈ jw_gd := kt_6 (i := 151) rfl rfl
theorem kw_1352 : (Cond.methodLink "SwipedStripeModel" 248 ⟨"SwipedStripeModel", "layBegin", "()V"⟩) ∈ jw_gd := kt_6 (i := 152) (by decide +kernel) rfl
theorem kw_1354 : (Cond.instanceMethod ⟨"SwipedStripeModel", "layBegin", "()V"⟩) ∈ jw_gd := kt_6 (i := 154) (by decide +kernel) rfl
theorem kw_1355 : (Cond.code ⟨"SwipedStripeModel", "layBegin", "()V"⟩ prog_13_method_42_code 2 (none : Option Jvm.ClassFile.FieldType)) ∈ jw_gd := kt_6 (i := 155) rfl rfl
theorem kw_1356 : (Cond.methodLink "SwipedStripeModel" 238 ⟨"SwipedStripeModel", "symbolAt", "(I)I"⟩) ∈ jw_gd := kt_6 (i := 156) (by decide +kernel) rfl
theorem kw_1358 : (Cond.instanceMethod ⟨"SwipedStripeModel", "symbolAt", "(I)I"⟩) ∈ jw_gd := kt_6 (i := 158) (by decide +kernel) rfl
theorem kw_1359 : (Cond.code ⟨"SwipedStripeModel", "symbolAt", "(I)I"⟩ prog_13_method_40_code 5 (some .int)) ∈ jw_gd := kt_6 (i := 159) rfl rfl
theorem kw_1360 : (Cond.methodLink "SwipedStripeModel" 241 ⟨"SwipedStripeModel", "fitsAt", "(II)Z"⟩) ∈ jw_gd := kt_6 (i := 160) (by decide +kernel) rfl
theorem kw_1362 : (Cond.instanceMethod ⟨"SwipedStripeModel", "fitsAt", "(II)Z"⟩) ∈ jw_gd := kt_6 (i := 162) (by decide +kernel) rfl
theorem kw_1363 : (Cond.code ⟨"SwipedStripeModel", "fitsAt", "(II)Z"⟩ prog_13_method_41_code 3 (some .boolean)) ∈ jw_gd := kt_6 (i := 163) rfl rfl
theorem kw_1364 : (Cond.methodLink "SwipedStripeModel" 251 ⟨"SwipedStripeModel", "laySymbols", "()Z"⟩) ∈ jw_gd := kt_6 (i := 164) (by decide +kernel) rfl
theorem kw_1366 : (Cond.instanceMethod ⟨"SwipedStripeModel", "laySymbols", "()Z"⟩) ∈ jw_gd := kt_6 (i := 166) (by decide +kernel) rfl
theorem kw_1367 : (Cond.code ⟨"SwipedStripeModel", "laySymbols", "()Z"⟩ prog_13_method_43_code 5 (some .boolean)) ∈ jw_gd := kt_6 (i := 167) rfl rfl
theorem kw_1368 : (Cond.methodLink "SwipedStripeModel" 267 ⟨"SwipedStripeModel", "isWhole", "()Z"⟩) ∈ jw_gd := kt_6 (i := 168) (by decide +kernel) rfl
theorem kw_1370 : (Cond.instanceMethod ⟨"SwipedStripeModel", "isWhole", "()Z"⟩) ∈ jw_gd := kt_6 (i := 170) (by decide +kernel) rfl
theorem kw_1371 : (Cond.code ⟨"SwipedStripeModel", "isWhole", "()Z"⟩ prog_13_method_46_code 1 (some .boolean)) ∈ jw_gd := kt_6 (i := 171) rfl rfl
theorem kw_1372 : (Cond.methodLink "SwipedStripeModel" 270 ⟨"SwipedStripeModel", "values", "()I"⟩) ∈ jw_gd := kt_6 (i := 172) (by decide +kernel) rfl
theorem kw_1374 : (Cond.instanceMethod ⟨"SwipedStripeModel", "values", "()I"⟩) ∈ jw_gd := kt_6 (i := 174) (by decide +kernel) rfl
theorem kw_1375 : (Cond.code ⟨"SwipedStripeModel", "values", "()I"⟩ prog_13_method_45_code 1 (some .int)) ∈ jw_gd := kt_6 (i := 175) rfl rfl
theorem kw_1392 : (Cond.methodLink "SwipedStripeModel" 286 ⟨"SwipedStripeModel", "laySmooth", "()V"⟩) ∈ jw_gd := kt_6 (i := 192) (by decide +kernel) rfl
theorem kw_1394 : (Cond.instanceMethod ⟨"SwipedStripeModel", "laySmooth", "()V"⟩) ∈ jw_gd := kt_6 (i := 194) (by decide +kernel) rfl
theorem kw_1395 : (Cond.code ⟨"SwipedStripeModel", "laySmooth", "()V"⟩ prog_13_method_54_code 6 (none : Option Jvm.ClassFile.FieldType)) ∈ jw_gd := kt_6 (i := 195) rfl rfl
theorem kw_1396 : (Cond.methodLink "SwipedStripeModel" 276 ⟨"SwipedStripeModel", "isThere", "(II)Z"⟩) ∈ jw_gd := kt_6 (i := 196) (by decide +kernel) rfl
theorem kw_1398 : (Cond.instanceMethod ⟨"SwipedStripeModel", "isThere", "(II)Z"⟩) ∈ jw_gd := kt_6 (i := 198) (by decide +kernel) rfl
theorem kw_1399 : (Cond.code ⟨"SwipedStripeModel", "isThere", "(II)Z"⟩ prog_13_method_53_code 3 (some .boolean)) ∈ jw_gd := kt_6 (i := 199) rfl rfl
theorem kw_1400 : (Cond.methodLink "SwipedStripeModel" 279 ⟨"SwipedStripeModel", "goesOn", "(III)I"⟩) ∈ jw_gd := kt_6 (i := 200) (by decide +kernel) rfl
theorem kw_1402 : (Cond.instanceMethod ⟨"SwipedStripeModel", "goesOn", "(III)I"⟩) ∈ jw_gd := kt_6 (i := 202) (by decide +kernel) rfl
theorem kw_1403 : (Cond.code ⟨"SwipedStripeModel", "goesOn", "(III)I"⟩ prog_13_method_52_code 8 (some .int)) ∈ jw_gd := kt_6 (i := 203) rfl rfl
theorem kw_1404 : (Cond.methodLink "SwipedStripeModel" 273 ⟨"SwipedStripeModel", "apart", "(II)I"⟩) ∈ jw_gd := kt_6 (i := 204) (by decide +kernel) rfl
theorem kw_1405 : (Cond.static ⟨"SwipedStripeModel", "apart", "(II)I"⟩) ∈ jw_gd := kt_6 (i := 205) (by decide +kernel) rfl
theorem kw_1406 : (Cond.code ⟨"SwipedStripeModel", "apart", "(II)I"⟩ prog_13_method_51_code 2 (some .int)) ∈ jw_gd := kt_6 (i := 206) rfl rfl
theorem kw_1415 : (Cond.methodLink "SwipedStripeModel" 289 ⟨"SwipedStripeModel", "lowest", "(JJI)J"⟩) ∈ jw_gd := kt_6 (i := 215) (by decide +kernel) rfl
theorem kw_1416 : (Cond.static ⟨"SwipedStripeModel", "lowest", "(JJI)J"⟩) ∈ jw_gd := kt_6 (i := 216) (by decide +kernel) rfl
theorem kw_1417 : (Cond.code ⟨"SwipedStripeModel", "lowest", "(JJI)J"⟩ prog_13_method_57_code 11 (some .long)) ∈ jw_gd := kt_6 (i := 217) rfl rfl
theorem kw_1430 : (Cond.methodLink "SwipedStripeModel" 299 ⟨"SwipedStripeModel", "joinedLong", "()I"⟩) ∈ jw_gd := kt_6 (i := 230) (by decide +kernel) rfl
theorem kw_1432 : (Cond.instanceMethod ⟨"SwipedStripeModel", "joinedLong", "()I"⟩) ∈ jw_gd := kt_6 (i := 232) (by decide +kernel) rfl
theorem kw_1433 : (Cond.code ⟨"SwipedStripeModel", "joinedLong", "()I"⟩ prog_13_method_61_code 5 (some .int)) ∈ jw_gd := kt_6 (i := 233) rfl rfl
theorem kw_1434 : (Cond.methodLink "SwipedStripeModel" 302 ⟨"SwipedStripeModel", "joinedAt", "(II)I"⟩) ∈ jw_gd := kt_6 (i := 234) (by decide +kernel) rfl
theorem kw_1436 : (Cond.instanceMethod ⟨"SwipedStripeModel", "joinedAt", "(II)I"⟩) ∈ jw_gd := kt_6 (i := 236) (by decide +kernel) rfl
theorem kw_1437 : (Cond.code ⟨"SwipedStripeModel", "joinedAt", "(II)I"⟩ prog_13_method_63_code 7 (some .int)) ∈ jw_gd := kt_6 (i := 237) rfl rfl
theorem kw_1438 : (Cond.methodLink "SwipedStripeModel" 296 ⟨"SwipedStripeModel", "says", "(III)I"⟩) ∈ jw_gd := kt_6 (i := 238) (by decide +kernel) rfl
theorem kw_1440 : (Cond.instanceMethod ⟨"SwipedStripeModel", "says", "(III)I"⟩) ∈ jw_gd := kt_7 (i := 0) (by decide +kernel) rfl
theorem kw_1441 : (Cond.code ⟨"SwipedStripeModel", "says", "(III)I"⟩ prog_13_method_62_code 7 (some .int)) ∈ jw_gd := kt_7 (i := 1) rfl rfl
theorem kw_1442 : (Cond.methodLink "SwipedStripeModel" 305 ⟨"SwipedStripeModel", "isUnlike", "(II)Z"⟩) ∈ jw_gd := kt_7 (i := 2) (by decide +kernel) rfl
theorem kw_1444 : (Cond.instanceMethod ⟨"SwipedStripeModel", "isUnlike", "(II)Z"⟩) ∈ jw_gd := kt_7 (i := 4) (by decide +kernel) rfl
theorem kw_1445 : (Cond.code ⟨"SwipedStripeModel", "isUnlike", "(II)Z"⟩ prog_13_method_64_code 5 (some .boolean)) ∈ jw_gd := kt_7 (i := 5) rfl rfl
theorem kw_1466 : (Cond.constantLong "SwipedStripeModel" 308 64) ∈ jw_gd := kt_7 (i := 26) (by decide +kernel) rfl
theorem kw_obj : Cond.code objectInit ⟨#[0xb1]⟩ 1 none ∈ jw_gd := kt_1 (i := 26) rfl rfl
theorem kp_1 : Cond.selects "SwipedStripe$TextReader" ⟨"SwipedStripe$TextReader", "isBetween", "(ICC)Z"⟩ ⟨"SwipedStripe$TextReader", "isBetween", "(ICC)Z"⟩ ∈ jw_gd := jw_inS (i := 1) (q := (⟨"SwipedStripe$TextReader", "isBetween", "(ICC)Z"⟩, _)) rfl
theorem kp_6 : Cond.selects "SwipedStripe$TextReader" ⟨"SwipedStripe$TextReader", "refuse", "(II)V"⟩ ⟨"SwipedStripe$TextReader", "refuse", "(II)V"⟩ ∈ jw_gd := jw_inS (i := 6) (q := (⟨"SwipedStripe$TextReader", "refuse", "(II)V"⟩, _)) rfl
theorem kp_9 : Cond.selects "SwipedStripe$Stripe" ⟨"SwipedStripe$Stripe", "pushZeros", "(I)V"⟩ ⟨"SwipedStripe$Stripe", "pushZeros", "(I)V"⟩ ∈ jw_gd := jw_inS (i := 9) (q := (⟨"SwipedStripe$Stripe", "pushZeros", "(I)V"⟩, _)) rfl
theorem kp_10 : Cond.selects "SwipedStripe$Stripe" ⟨"SwipedStripe$Stripe", "pushSymbol", "(LSwipedStripe$Rules;I)V"⟩ ⟨"SwipedStripe$Stripe", "pushSymbol", "(LSwipedStripe$Rules;I)V"⟩ ∈ jw_gd := jw_inS (i := 10) (q := (⟨"SwipedStripe$Stripe", "pushSymbol", "(LSwipedStripe$Rules;I)V"⟩, _)) rfl
theorem kp_11 : Cond.selects "SwipedStripe$Stripe" ⟨"SwipedStripe$Stripe", "swayed", "(II)I"⟩ ⟨"SwipedStripe$Stripe", "swayed", "(II)I"⟩ ∈ jw_gd := jw_inS (i := 11) (q := (⟨"SwipedStripe$Stripe", "swayed", "(II)I"⟩, _)) rfl
theorem kp_12 : Cond.selects "SwipedStripe$Reading" ⟨"SwipedStripe$Reading", "startAgain", "()V"⟩ ⟨"SwipedStripe$Reading", "startAgain", "()V"⟩ ∈ jw_gd := jw_inS (i := 12) (q := (⟨"SwipedStripe$Reading", "startAgain", "()V"⟩, _)) rfl
theorem kp_13 : Cond.selects "SwipedStripe$Reading" ⟨"SwipedStripe$Reading", "note", "(III)V"⟩ ⟨"SwipedStripe$Reading", "note", "(III)V"⟩ ∈ jw_gd := jw_inS (i := 13) (q := (⟨"SwipedStripe$Reading", "note", "(III)V"⟩, _)) rfl
theorem kp_14 : Cond.selects "SwipedStripe$Reading" ⟨"SwipedStripe$Reading", "fail", "(II)V"⟩ ⟨"SwipedStripe$Reading", "fail", "(II)V"⟩ ∈ jw_gd := jw_inS (i := 14) (q := (⟨"SwipedStripe$Reading", "fail", "(II)V"⟩, _)) rfl
theorem kp_15 : Cond.selects "SwipedStripe" ⟨"SwipedStripe", "hearByText", "()V"⟩ ⟨"SwipedStripe", "hearByText", "()V"⟩ ∈ jw_gd := jw_inS (i := 15) (q := (⟨"SwipedStripe", "hearByText", "()V"⟩, _)) rfl
theorem kp_16 : Cond.selects "SwipedStripe" ⟨"SwipedStripe", "look", "()V"⟩ ⟨"SwipedStripe", "look", "()V"⟩ ∈ jw_gd := jw_inS (i := 16) (q := (⟨"SwipedStripe", "look", "()V"⟩, _)) rfl
theorem kp_17 : Cond.selects "SwipedStripe$Finding" ⟨"SwipedStripe$Finding", "placeOf", "(ILSwipedStripe$Row;)I"⟩ ⟨"SwipedStripe$Finding", "placeOf", "(ILSwipedStripe$Row;)I"⟩ ∈ jw_gd := jw_inS (i := 17) (q := (⟨"SwipedStripe$Finding", "placeOf", "(ILSwipedStripe$Row;)I"⟩, _)) rfl
theorem kp_18 : Cond.selects "SwipedStripe$Finding" ⟨"SwipedStripe$Finding", "codedFrom", "(LSwipedStripe$Row;I)I"⟩ ⟨"SwipedStripe$Finding", "codedFrom", "(LSwipedStripe$Row;I)I"⟩ ∈ jw_gd := jw_inS (i := 18) (q := (⟨"SwipedStripe$Finding", "codedFrom", "(LSwipedStripe$Row;I)I"⟩, _)) rfl
theorem kp_19 : Cond.selects "SwipedStripe$Finding" ⟨"SwipedStripe$Finding", "takeSymbols", "(ILSwipedStripe$Row;)Z"⟩ ⟨"SwipedStripe$Finding", "takeSymbols", "(ILSwipedStripe$Row;)Z"⟩ ∈ jw_gd := jw_inS (i := 19) (q := (⟨"SwipedStripe$Finding", "takeSymbols", "(ILSwipedStripe$Row;)Z"⟩, _)) rfl
theorem kp_20 : Cond.selects "SwipedStripe$Finding" ⟨"SwipedStripe$Finding", "take", "(I)Z"⟩ ⟨"SwipedStripe$Finding", "take", "(I)Z"⟩ ∈ jw_gd := jw_inS (i := 20) (q := (⟨"SwipedStripe$Finding", "take", "(I)Z"⟩, _)) rfl
theorem kp_21 : Cond.selects "SwipedStripe$Finding" ⟨"SwipedStripe$Finding", "weighChecks", "()V"⟩ ⟨"SwipedStripe$Finding", "weighChecks", "()V"⟩ ∈ jw_gd := jw_inS (i := 21) (q := (⟨"SwipedStripe$Finding", "weighChecks", "()V"⟩, _)) rfl
theorem kp_22 : Cond.selects "SwipedStripe" ⟨"SwipedStripe", "findsValues", "()Z"⟩ ⟨"SwipedStripe", "findsValues", "()Z"⟩ ∈ jw_gd := jw_inS (i := 22) (q := (⟨"SwipedStripe", "findsValues", "()Z"⟩, _)) rfl
theorem kp_23 : Cond.selects "SwipedStripe$Smoothest" ⟨"SwipedStripe$Smoothest", "least", "(LSwipedStripe$Row;II)I"⟩ ⟨"SwipedStripe$Smoothest", "least", "(LSwipedStripe$Row;II)I"⟩ ∈ jw_gd := jw_inS (i := 23) (q := (⟨"SwipedStripe$Smoothest", "least", "(LSwipedStripe$Row;II)I"⟩, _)) rfl
theorem kp_24 : Cond.selects "SwipedStripe$Smoothest" ⟨"SwipedStripe$Smoothest", "withZero", "(LSwipedStripe$Row;II)I"⟩ ⟨"SwipedStripe$Smoothest", "withZero", "(LSwipedStripe$Row;II)I"⟩ ∈ jw_gd := jw_inS (i := 24) (q := (⟨"SwipedStripe$Smoothest", "withZero", "(LSwipedStripe$Row;II)I"⟩, _)) rfl
theorem kp_25 : Cond.selects "SwipedStripe$Smoothest" ⟨"SwipedStripe$Smoothest", "withOne", "(LSwipedStripe$Row;II)I"⟩ ⟨"SwipedStripe$Smoothest", "withOne", "(LSwipedStripe$Row;II)I"⟩ ∈ jw_gd := jw_inS (i := 25) (q := (⟨"SwipedStripe$Smoothest", "withOne", "(LSwipedStripe$Row;II)I"⟩, _)) rfl
theorem kp_26 : Cond.selects "SwipedStripe$Smoothest" ⟨"SwipedStripe$Smoothest", "walk", "(LSwipedStripe$Row;)V"⟩ ⟨"SwipedStripe$Smoothest", "walk", "(LSwipedStripe$Row;)V"⟩ ∈ jw_gd := jw_inS (i := 26) (q := (⟨"SwipedStripe$Smoothest", "walk", "(LSwipedStripe$Row;)V"⟩, _)) rfl
theorem kp_27 : Cond.selects "SwipedStripe$Reading" ⟨"SwipedStripe$Reading", "withstands", "(II)Z"⟩ ⟨"SwipedStripe$Reading", "withstands", "(II)Z"⟩ ∈ jw_gd := jw_inS (i := 27) (q := (⟨"SwipedStripe$Reading", "withstands", "(II)Z"⟩, _)) rfl
theorem kp_28 : Cond.selects "SwipedStripe$Draws" ⟨"SwipedStripe$Draws", "votesFor", "(III)I"⟩ ⟨"SwipedStripe$Draws", "votesFor", "(III)I"⟩ ∈ jw_gd := jw_inS (i := 28) (q := (⟨"SwipedStripe$Draws", "votesFor", "(III)I"⟩, _)) rfl
theorem kp_29 : Cond.selects "SwipedStripe$Draws" ⟨"SwipedStripe$Draws", "voters", "(II)I"⟩ ⟨"SwipedStripe$Draws", "voters", "(II)I"⟩ ∈ jw_gd := jw_inS (i := 29) (q := (⟨"SwipedStripe$Draws", "voters", "(II)I"⟩, _)) rfl
theorem kp_30 : Cond.selects "SwipedStripeModel" ⟨"SwipedStripeModel", "next", "()V"⟩ ⟨"SwipedStripeModel", "next", "()V"⟩ ∈ jw_gd := jw_inS (i := 30) (q := (⟨"SwipedStripeModel", "next", "()V"⟩, _)) rfl
theorem kp_31 : Cond.selects "SwipedStripeModel" ⟨"SwipedStripeModel", "byteAt", "(I)I"⟩ ⟨"SwipedStripeModel", "byteAt", "(I)I"⟩ ∈ jw_gd := jw_inS (i := 31) (q := (⟨"SwipedStripeModel", "byteAt", "(I)I"⟩, _)) rfl
theorem kp_32 : Cond.selects "SwipedStripeModel" ⟨"SwipedStripeModel", "nameAt", "(II)I"⟩ ⟨"SwipedStripeModel", "nameAt", "(II)I"⟩ ∈ jw_gd := jw_inS (i := 32) (q := (⟨"SwipedStripeModel", "nameAt", "(II)I"⟩, _)) rfl
theorem kp_33 : Cond.selects "SwipedStripeModel" ⟨"SwipedStripeModel", "fails", "(I)V"⟩ ⟨"SwipedStripeModel", "fails", "(I)V"⟩ ∈ jw_gd := jw_inS (i := 33) (q := (⟨"SwipedStripeModel", "fails", "(I)V"⟩, _)) rfl
theorem kp_34 : Cond.selects "SwipedStripeModel" ⟨"SwipedStripeModel", "readLine", "()V"⟩ ⟨"SwipedStripeModel", "readLine", "()V"⟩ ∈ jw_gd := jw_inS (i := 34) (q := (⟨"SwipedStripeModel", "readLine", "()V"⟩, _)) rfl
theorem kp_35 : Cond.selects "SwipedStripeModel" ⟨"SwipedStripeModel", "layStripe", "()V"⟩ ⟨"SwipedStripeModel", "layStripe", "()V"⟩ ∈ jw_gd := jw_inS (i := 35) (q := (⟨"SwipedStripeModel", "layStripe", "()V"⟩, _)) rfl
theorem kp_36 : Cond.selects "SwipedStripeModel" ⟨"SwipedStripeModel", "layBit", "(I)V"⟩ ⟨"SwipedStripeModel", "layBit", "(I)V"⟩ ∈ jw_gd := jw_inS (i := 36) (q := (⟨"SwipedStripeModel", "layBit", "(I)V"⟩, _)) rfl
theorem kp_37 : Cond.selects "SwipedStripeModel" ⟨"SwipedStripeModel", "laySymbol", "(I)V"⟩ ⟨"SwipedStripeModel", "laySymbol", "(I)V"⟩ ∈ jw_gd := jw_inS (i := 37) (q := (⟨"SwipedStripeModel", "laySymbol", "(I)V"⟩, _)) rfl
theorem kp_38 : Cond.selects "SwipedStripeModel" ⟨"SwipedStripeModel", "parity", "(I)I"⟩ ⟨"SwipedStripeModel", "parity", "(I)I"⟩ ∈ jw_gd := jw_inS (i := 38) (q := (⟨"SwipedStripeModel", "parity", "(I)I"⟩, _)) rfl
theorem kp_39 : Cond.selects "SwipedStripeModel" ⟨"SwipedStripeModel", "checks", "()I"⟩ ⟨"SwipedStripeModel", "checks", "()I"⟩ ∈ jw_gd := jw_inS (i := 39) (q := (⟨"SwipedStripeModel", "checks", "()I"⟩, _)) rfl
theorem kp_40 : Cond.selects "SwipedStripeModel" ⟨"SwipedStripeModel", "onesLaid", "()I"⟩ ⟨"SwipedStripeModel", "onesLaid", "()I"⟩ ∈ jw_gd := jw_inS (i := 40) (q := (⟨"SwipedStripeModel", "onesLaid", "()I"⟩, _)) rfl
theorem kp_41 : Cond.selects "SwipedStripeModel" ⟨"SwipedStripeModel", "layGap", "(II)V"⟩ ⟨"SwipedStripeModel", "layGap", "(II)V"⟩ ∈ jw_gd := jw_inS (i := 41) (q := (⟨"SwipedStripeModel", "layGap", "(II)V"⟩, _)) rfl
theorem kp_42 : Cond.selects "SwipedStripeModel" ⟨"SwipedStripeModel", "isGap", "(I)Z"⟩ ⟨"SwipedStripeModel", "isGap", "(I)Z"⟩ ∈ jw_gd := jw_inS (i := 42) (q := (⟨"SwipedStripeModel", "isGap", "(I)Z"⟩, _)) rfl
theorem kp_43 : Cond.selects "SwipedStripeModel" ⟨"SwipedStripeModel", "reverse", "()V"⟩ ⟨"SwipedStripeModel", "reverse", "()V"⟩ ∈ jw_gd := jw_inS (i := 43) (q := (⟨"SwipedStripeModel", "reverse", "()V"⟩, _)) rfl
theorem kp_44 : Cond.selects "SwipedStripeModel" ⟨"SwipedStripeModel", "layRead", "(IZ)V"⟩ ⟨"SwipedStripeModel", "layRead", "(IZ)V"⟩ ∈ jw_gd := jw_inS (i := 44) (q := (⟨"SwipedStripeModel", "layRead", "(IZ)V"⟩, _)) rfl
theorem kp_45 : Cond.selects "SwipedStripeModel" ⟨"SwipedStripeModel", "swayOf", "(IIZ)I"⟩ ⟨"SwipedStripeModel", "swayOf", "(IIZ)I"⟩ ∈ jw_gd := jw_inS (i := 45) (q := (⟨"SwipedStripeModel", "swayOf", "(IIZ)I"⟩, _)) rfl
theorem kp_46 : Cond.selects "SwipedStripeModel" ⟨"SwipedStripeModel", "layFound", "()V"⟩ ⟨"SwipedStripeModel", "layFound", "()V"⟩ ∈ jw_gd := jw_inS (i := 46) (q := (⟨"SwipedStripeModel", "layFound", "()V"⟩, _)) rfl
theorem kp_47 : Cond.selects "SwipedStripeModel" ⟨"SwipedStripeModel", "layBegin", "()V"⟩ ⟨"SwipedStripeModel", "layBegin", "()V"⟩ ∈ jw_gd := jw_inS (i := 47) (q := (⟨"SwipedStripeModel", "layBegin", "()V"⟩, _)) rfl
theorem kp_48 : Cond.selects "SwipedStripeModel" ⟨"SwipedStripeModel", "symbolAt", "(I)I"⟩ ⟨"SwipedStripeModel", "symbolAt", "(I)I"⟩ ∈ jw_gd := jw_inS (i := 48) (q := (⟨"SwipedStripeModel", "symbolAt", "(I)I"⟩, _)) rfl
theorem kp_49 : Cond.selects "SwipedStripeModel" ⟨"SwipedStripeModel", "fitsAt", "(II)Z"⟩ ⟨"SwipedStripeModel", "fitsAt", "(II)Z"⟩ ∈ jw_gd := jw_inS (i := 49) (q := (⟨"SwipedStripeModel", "fitsAt", "(II)Z"⟩, _)) rfl
theorem kp_50 : Cond.selects "SwipedStripeModel" ⟨"SwipedStripeModel", "laySymbols", "()Z"⟩ ⟨"SwipedStripeModel", "laySymbols", "()Z"⟩ ∈ jw_gd := jw_inS (i := 50) (q := (⟨"SwipedStripeModel", "laySymbols", "()Z"⟩, _)) rfl
theorem kp_51 : Cond.selects "SwipedStripeModel" ⟨"SwipedStripeModel", "isWhole", "()Z"⟩ ⟨"SwipedStripeModel", "isWhole", "()Z"⟩ ∈ jw_gd := jw_inS (i := 51) (q := (⟨"SwipedStripeModel", "isWhole", "()Z"⟩, _)) rfl
theorem kp_52 : Cond.selects "SwipedStripeModel" ⟨"SwipedStripeModel", "values", "()I"⟩ ⟨"SwipedStripeModel", "values", "()I"⟩ ∈ jw_gd := jw_inS (i := 52) (q := (⟨"SwipedStripeModel", "values", "()I"⟩, _)) rfl
theorem kp_53 : Cond.selects "SwipedStripeModel" ⟨"SwipedStripeModel", "laySmooth", "()V"⟩ ⟨"SwipedStripeModel", "laySmooth", "()V"⟩ ∈ jw_gd := jw_inS (i := 53) (q := (⟨"SwipedStripeModel", "laySmooth", "()V"⟩, _)) rfl
theorem kp_54 : Cond.selects "SwipedStripeModel" ⟨"SwipedStripeModel", "isThere", "(II)Z"⟩ ⟨"SwipedStripeModel", "isThere", "(II)Z"⟩ ∈ jw_gd := jw_inS (i := 54) (q := (⟨"SwipedStripeModel", "isThere", "(II)Z"⟩, _)) rfl
theorem kp_55 : Cond.selects "SwipedStripeModel" ⟨"SwipedStripeModel", "goesOn", "(III)I"⟩ ⟨"SwipedStripeModel", "goesOn", "(III)I"⟩ ∈ jw_gd := jw_inS (i := 55) (q := (⟨"SwipedStripeModel", "goesOn", "(III)I"⟩, _)) rfl
theorem kp_56 : Cond.selects "SwipedStripeModel" ⟨"SwipedStripeModel", "joinedLong", "()I"⟩ ⟨"SwipedStripeModel", "joinedLong", "()I"⟩ ∈ jw_gd := jw_inS (i := 56) (q := (⟨"SwipedStripeModel", "joinedLong", "()I"⟩, _)) rfl
theorem kp_57 : Cond.selects "SwipedStripeModel" ⟨"SwipedStripeModel", "joinedAt", "(II)I"⟩ ⟨"SwipedStripeModel", "joinedAt", "(II)I"⟩ ∈ jw_gd := jw_inS (i := 57) (q := (⟨"SwipedStripeModel", "joinedAt", "(II)I"⟩, _)) rfl
theorem kp_58 : Cond.selects "SwipedStripeModel" ⟨"SwipedStripeModel", "says", "(III)I"⟩ ⟨"SwipedStripeModel", "says", "(III)I"⟩ ∈ jw_gd := jw_inS (i := 58) (q := (⟨"SwipedStripeModel", "says", "(III)I"⟩, _)) rfl
theorem kp_59 : Cond.selects "SwipedStripeModel" ⟨"SwipedStripeModel", "isUnlike", "(II)Z"⟩ ⟨"SwipedStripeModel", "isUnlike", "(II)Z"⟩ ∈ jw_gd := jw_inS (i := 59) (q := (⟨"SwipedStripeModel", "isUnlike", "(II)Z"⟩, _)) rfl
