def wsL_element_r1 : List Cond := [Cond.classLink RL 13 "java/lang/IllegalArgumentException", Cond.classLink RL 15 "java/lang/IllegalStateException", Cond.methodLink RL 7 yX11_element, Cond.instanceMethod yX11_element, Cond.selects RX11 yX11_element yX11_element, Cond.initialized RX11, Cond.code yX11_element cX11_element 4 (some .long), Cond.classLink RX11 239 "java/lang/IllegalArgumentException", Cond.initialized "java/lang/IllegalArgumentException", Cond.classLink RX11 246 "java/lang/IllegalStateException", Cond.initialized "java/lang/IllegalStateException", Cond.methodLink RX11 223 yX11_isShelf, Cond.static yX11_isShelf, Cond.code yX11_isShelf cX11_isShelf 1 (some .boolean), Cond.methodLink RX11 41 yX11_rowAt, Cond.instanceMethod yX11_rowAt, Cond.selects RX11 yX11_rowAt yX11_rowAt, Cond.code yX11_rowAt cX11_rowAt 2 (some (.object "HoldsOnceDenied$Row")), Cond.fieldLink RX11 37 "HoldsOnceDenied" "shelvedRows" "[LHoldsOnceDenied$Row;", Cond.methodLink RX11 233 yX8_hasPlace, Cond.instanceMethod yX8_hasPlace, Cond.selects RX8 yX8_hasPlace yX8_hasPlace, Cond.initialized RX8, Cond.code yX8_hasPlace cX8_hasPlace 2 (some .boolean)]
def wsL_element_r2 : List Cond := [Cond.fieldLink RX8 15 "HoldsOnceDenied$Row" "cells" "[I", Cond.methodLink RX11 69 yX8_at, Cond.instanceMethod yX8_at, Cond.selects RX8 yX8_at yX8_at, Cond.code yX8_at cX8_at 2 (some .int)]
def wsL_element : List Cond := .codeWith yL_element cL_element 5 (some .int) [(0, 9, 12, 13), (0, 9, 16, 15)] :: ((wsL_element_r1 ++ wsL_element_r2) ++ wsX110 ++ wsX80 ++ (vx_atS RX11 243 "java/lang/IllegalArgumentException" ["java/lang/RuntimeException", "java/lang/Exception"]).filter goodWord ++ (vx_atS RX11 250 "java/lang/IllegalStateException" ["java/lang/RuntimeException", "java/lang/Exception"]).filter goodWord)
def wsL_law0_r1 : List Cond := [Cond.classLink RL 8 RX11, Cond.instantiable RX11 7, Cond.initialized RX11, Cond.classLink RL 18 RX12, Cond.instantiable RX12 20, Cond.initialized RX12, Cond.arrayClass .long, Cond.methodLink RL 17 yX11_init, Cond.instanceMethod yX11_init, Cond.code yX11_init cX11_init 1 none, Cond.methodLink RX11 1 objectInit, Cond.instanceMethod objectInit, Cond.code objectInit ⟨#[0xb1]⟩ 1 none, Cond.classLink RX11 7 RX9, Cond.instantiable RX9 10, Cond.initialized RX9, Cond.fieldLink RX11 10 "HoldsOnceDenied" "now" "LHoldsOnceDenied$School;", Cond.fieldLink RX11 16 "HoldsOnceDenied" "mind" "LHoldsOnceDenied$School;", Cond.fieldLink RX11 19 "HoldsOnceDenied" "past" "LHoldsOnceDenied$School;", Cond.classLink RX11 22 RX4, Cond.instantiable RX4 4, Cond.initialized RX4, Cond.fieldLink RX11 25 "HoldsOnceDenied" "foresight" "LHoldsOnceDenied$Foresight;", Cond.classLink RX11 29 RX2]
def wsL_law0_r2 : List Cond := [Cond.fieldLink RX11 31 "HoldsOnceDenied" "shelvedDeniers" "[LHoldsOnceDenied$Denier;", Cond.classLink RX11 35 RX8, Cond.fieldLink RX11 37 "HoldsOnceDenied" "shelvedRows" "[LHoldsOnceDenied$Row;", Cond.instanceMethod yX9_init, Cond.code yX9_init cX9_init 1 none, Cond.methodLink RX9 3 objectInit, Cond.arrayClass .int, Cond.fieldLink RX9 9 "HoldsOnceDenied$School" "needs" "[I", Cond.fieldLink RX9 15 "HoldsOnceDenied$School" "makers" "[I", Cond.fieldLink RX9 18 "HoldsOnceDenied$School" "since" "[I", Cond.fieldLink RX9 21 "HoldsOnceDenied$School" "known" "[I", Cond.classLink RX9 24 RX2, Cond.fieldLink RX9 26 "HoldsOnceDenied$School" "members" "[LHoldsOnceDenied$Denier;", Cond.instanceMethod yX4_init, Cond.code yX4_init cX4_init 1 none, Cond.methodLink RX4 3 objectInit, Cond.fieldLink RX4 11 "HoldsOnceDenied$Foresight" "lacks" "[I", Cond.fieldLink RX4 15 "HoldsOnceDenied$Foresight" "efforts" "[I", Cond.fieldLink RX4 18 "HoldsOnceDenied$Foresight" "least" "[I", Cond.methodLink RL 20 yX12_init, Cond.instanceMethod yX12_init, Cond.code yX12_init cX12_init 1 none, Cond.methodLink RX12 1 objectInit, Cond.fieldLink RX12 9 "HoldsOnceDeniedModel" "s" "[I"]
def wsL_law0_r3 : List Cond := [Cond.fieldLink RX12 13 "HoldsOnceDeniedModel" "image" "[I", Cond.fieldLink RX12 16 "HoldsOnceDeniedModel" "read" "[I", Cond.fieldLink RX12 19 "HoldsOnceDeniedModel" "mind" "[I", Cond.fieldLink RX12 22 "HoldsOnceDeniedModel" "kept" "[I", Cond.fieldLink RX12 25 "HoldsOnceDeniedModel" "sort" "[I", Cond.fieldLink RX12 28 "HoldsOnceDeniedModel" "size" "[I", Cond.fieldLink RX12 31 "HoldsOnceDeniedModel" "element" "[I", Cond.fieldLink RX12 34 "HoldsOnceDeniedModel" "keptKind" "[I", Cond.fieldLink RX12 37 "HoldsOnceDeniedModel" "keptFigure" "[I", Cond.fieldLink RX12 40 "HoldsOnceDeniedModel" "numbers" "[I", Cond.fieldLink RX12 43 "HoldsOnceDeniedModel" "fewest" "[I", Cond.fieldLink RX12 46 "HoldsOnceDeniedModel" "easiest" "[I", Cond.fieldLink RX12 49 "HoldsOnceDeniedModel" "prices" "[I", Cond.methodLink RL 21 yX11_school, Cond.instanceMethod yX11_school, Cond.selects RX11 yX11_school yX11_school, Cond.code yX11_school cX11_school 6 (some .int), Cond.methodLink RX11 41 yX11_rowAt, Cond.instanceMethod yX11_rowAt, Cond.selects RX11 yX11_rowAt yX11_rowAt, Cond.code yX11_rowAt cX11_rowAt 2 (some (.object "HoldsOnceDenied$Row")), Cond.methodLink RX11 45 yX11_whyMissing, Cond.instanceMethod yX11_whyMissing, Cond.selects RX11 yX11_whyMissing yX11_whyMissing]
def wsL_law0_r4 : List Cond := [Cond.code yX11_whyMissing cX11_whyMissing 2 (some .int), Cond.methodLink RX11 223 yX11_isShelf, Cond.static yX11_isShelf, Cond.code yX11_isShelf cX11_isShelf 1 (some .boolean), Cond.methodLink RX11 251 yX11_isEmpty, Cond.instanceMethod yX11_isEmpty, Cond.selects RX11 yX11_isEmpty yX11_isEmpty, Cond.code yX11_isEmpty cX11_isEmpty 2 (some .boolean), Cond.methodLink RX11 110 yX11_denierAt, Cond.instanceMethod yX11_denierAt, Cond.selects RX11 yX11_denierAt yX11_denierAt, Cond.code yX11_denierAt cX11_denierAt 2 (some (.object "HoldsOnceDenied$Denier")), Cond.methodLink RX11 49 yX8_isOf, Cond.instanceMethod yX8_isOf, Cond.selects RX8 yX8_isOf yX8_isOf, Cond.initialized RX8, Cond.code yX8_isOf cX8_isOf 2 (some .boolean), Cond.fieldLink RX8 9 "HoldsOnceDenied$Row" "sort" "I", Cond.methodLink RX11 53 yX11_firstBadByte, Cond.static yX11_firstBadByte, Cond.code yX11_firstBadByte cX11_firstBadByte 4 (some .int), Cond.methodLink RX11 69 yX8_at, Cond.instanceMethod yX8_at, Cond.selects RX8 yX8_at yX8_at]
def wsL_law0_r5 : List Cond := [Cond.code yX8_at cX8_at 2 (some .int), Cond.fieldLink RX8 15 "HoldsOnceDenied$Row" "cells" "[I", Cond.methodLink RX11 72 yX11_digitsBehind, Cond.static yX11_digitsBehind, Cond.code yX11_digitsBehind cX11_digitsBehind 1 (some .int), Cond.methodLink RX11 300 yX11_digit, Cond.static yX11_digit, Cond.code yX11_digit cX11_digit 1 (some .int), Cond.methodLink RX11 61 yX8_size, Cond.instanceMethod yX8_size, Cond.selects RX8 yX8_size yX8_size, Cond.code yX8_size cX8_size 1 (some .int), Cond.methodLink RX11 57 yX9_become, Cond.instanceMethod yX9_become, Cond.selects RX9 yX9_become yX9_become, Cond.code yX9_become cX9_become 2 none, Cond.fieldLink RX9 30 "HoldsOnceDenied$School" "sentences" "I", Cond.fieldLink RX9 34 "HoldsOnceDenied$School" "deniers" "I", Cond.fieldLink RX9 37 "HoldsOnceDenied$School" "truth" "I", Cond.fieldLink RX9 40 "HoldsOnceDenied$School" "alive" "I", Cond.fieldLink RX9 43 "HoldsOnceDenied$School" "day" "I", Cond.methodLink RX9 46 arraycopyName, Cond.native arraycopyName, Cond.static arraycopyName]
def wsL_law0_r6 : List Cond := [Cond.initialized "java/lang/System", Cond.methodLink RX11 65 yX11_tell, Cond.static yX11_tell, Cond.code yX11_tell cX11_tell 5 (some .boolean), Cond.methodLink RX11 303 yX9_addSentence, Cond.instanceMethod yX9_addSentence, Cond.selects RX9 yX9_addSentence yX9_addSentence, Cond.code yX9_addSentence cX9_addSentence 1 (some .boolean), Cond.methodLink RX11 307 yX9_addNeed, Cond.instanceMethod yX9_addNeed, Cond.selects RX9 yX9_addNeed yX9_addNeed, Cond.code yX9_addNeed cX9_addNeed 3 (some .boolean), Cond.methodLink RX9 62 yX9_hasSentence, Cond.instanceMethod yX9_hasSentence, Cond.selects RX9 yX9_hasSentence yX9_hasSentence, Cond.code yX9_hasSentence cX9_hasSentence 2 (some .boolean), Cond.static yX11_bit, Cond.code yX11_bit cX11_bit 1 (some .int), Cond.methodLink RX11 310 yX9_found, Cond.instanceMethod yX9_found, Cond.selects RX9 yX9_found yX9_found, Cond.code yX9_found cX9_found 2 (some .boolean), Cond.methodLink RX9 69 yX9_isTrue, Cond.instanceMethod yX9_isTrue]
def wsL_law0_r7 : List Cond := [Cond.selects RX9 yX9_isTrue yX9_isTrue, Cond.code yX9_isTrue cX9_isTrue 2 (some .boolean), Cond.static yX11_has, Cond.code yX11_has cX11_has 2 (some .boolean), Cond.methodLink RX9 72 yX9_makeTrue, Cond.instanceMethod yX9_makeTrue, Cond.selects RX9 yX9_makeTrue yX9_makeTrue, Cond.code yX9_makeTrue cX9_makeTrue 3 none, Cond.methodLink RX11 183 yX11_newDenier, Cond.static yX11_newDenier, Cond.code yX11_newDenier cX11_newDenier 2 (some (.object "HoldsOnceDenied$Denier")), Cond.instantiable RX2 2, Cond.initialized RX2, Cond.classLink RX11 277 RX3, Cond.instantiable RX3 2, Cond.initialized RX3, Cond.classLink RX11 280 RX10, Cond.instantiable RX10 2, Cond.initialized RX10, Cond.classLink RX11 283 RX1, Cond.instantiable RX1 2, Cond.initialized RX1, Cond.classLink RX11 286 RX5, Cond.instantiable RX5 2]
def wsL_law0_r8 : List Cond := [Cond.initialized RX5, Cond.classLink RX11 289 RX6, Cond.instantiable RX6 2, Cond.initialized RX6, Cond.classLink RX11 292 RX7, Cond.instantiable RX7 2, Cond.initialized RX7, Cond.classLink RX11 295 RX0, Cond.instantiable RX0 2, Cond.initialized RX0, Cond.methodLink RX11 275 yX2_init, Cond.instanceMethod yX2_init, Cond.code yX2_init cX2_init 3 none, Cond.methodLink RX2 1 objectInit, Cond.fieldLink RX2 7 "HoldsOnceDenied$Denier" "kind" "I", Cond.fieldLink RX2 13 "HoldsOnceDenied$Denier" "figure" "I", Cond.methodLink RX11 279 yX3_init, Cond.instanceMethod yX3_init, Cond.code yX3_init cX3_init 3 none, Cond.methodLink RX3 1 yX2_init, Cond.methodLink RX11 282 yX10_init, Cond.instanceMethod yX10_init, Cond.code yX10_init cX10_init 3 none, Cond.methodLink RX10 1 yX2_init]
def wsL_law0_r9 : List Cond := [Cond.methodLink RX11 285 yX1_init, Cond.instanceMethod yX1_init, Cond.code yX1_init cX1_init 3 none, Cond.methodLink RX1 1 yX3_init, Cond.methodLink RX11 288 yX5_init, Cond.instanceMethod yX5_init, Cond.code yX5_init cX5_init 3 none, Cond.methodLink RX5 1 yX2_init, Cond.methodLink RX11 291 yX6_init, Cond.instanceMethod yX6_init, Cond.code yX6_init cX6_init 3 none, Cond.methodLink RX6 1 yX3_init, Cond.methodLink RX11 294 yX7_init, Cond.instanceMethod yX7_init, Cond.code yX7_init cX7_init 3 none, Cond.methodLink RX7 1 yX10_init, Cond.methodLink RX11 297 yX0_init, Cond.instanceMethod yX0_init, Cond.code yX0_init cX0_init 3 none, Cond.methodLink RX0 1 yX5_init, Cond.methodLink RX11 113 yX9_join, Cond.instanceMethod yX9_join, Cond.selects RX9 yX9_join yX9_join, Cond.code yX9_join cX9_join 2 (some .int)]
def wsL_law0_r10 : List Cond := [Cond.methodLink RX11 130 yX9_hasDenier, Cond.instanceMethod yX9_hasDenier, Cond.selects RX9 yX9_hasDenier yX9_hasDenier, Cond.code yX9_hasDenier cX9_hasDenier 2 (some .boolean), Cond.methodLink RX11 75 yX9_hasSentence, Cond.methodLink RX11 121 yX9_learn, Cond.instanceMethod yX9_learn, Cond.selects RX9 yX9_learn yX9_learn, Cond.code yX9_learn cX9_learn 3 (some .boolean), Cond.methodLink RX11 124 yX9_isAllowed, Cond.instanceMethod yX9_isAllowed, Cond.selects RX9 yX9_isAllowed yX9_isAllowed, Cond.code yX9_isAllowed cX9_isAllowed 4 (some .boolean), Cond.methodLink RX9 76 yX9_memberAt, Cond.instanceMethod yX9_memberAt, Cond.selects RX9 yX9_memberAt yX9_memberAt, Cond.code yX9_memberAt cX9_memberAt 2 (some (.object "HoldsOnceDenied$Denier")), Cond.methodLink RX9 80 yX9_isAlive, Cond.instanceMethod yX9_isAlive, Cond.selects RX9 yX9_isAlive yX9_isAlive, Cond.code yX9_isAlive cX9_isAlive 2 (some .boolean), Cond.methodLink RX9 83 yX9_knownTo, Cond.instanceMethod yX9_knownTo, Cond.selects RX9 yX9_knownTo yX9_knownTo]
def wsL_law0_r11 : List Cond := [Cond.code yX9_knownTo cX9_knownTo 2 (some .int), Cond.methodLink RX9 86 yX9_needsOf, Cond.instanceMethod yX9_needsOf, Cond.selects RX9 yX9_needsOf yX9_needsOf, Cond.code yX9_needsOf cX9_needsOf 2 (some .int), Cond.methodLink RX9 89 ⟨"HoldsOnceDenied$Denier", "mayDispute", "(IIII)Z"⟩, Cond.sameMethod "HoldsOnceDenied$Denier" "HoldsOnceDenied$Denier" "mayDispute" "(IIII)Z", Cond.instanceMethod ⟨"HoldsOnceDenied$Denier", "mayDispute", "(IIII)Z"⟩, Cond.selects RX0 ⟨"HoldsOnceDenied$Denier", "mayDispute", "(IIII)Z"⟩ yX0_mayDispute, Cond.instanceMethod yX0_mayDispute, Cond.code yX0_mayDispute cX0_mayDispute 5 (some .boolean), Cond.methodLink RX0 7 yX5_mayDispute, Cond.sameMethod "HoldsOnceDenied$Friend" "HoldsOnceDenied$Friend" "mayDispute" "(IIII)Z", Cond.superclass RX0 RX5, Cond.instanceMethod yX5_mayDispute, Cond.code yX5_mayDispute cX5_mayDispute 5 (some .boolean), Cond.fieldLink RX5 11 "HoldsOnceDenied$Friend" "figure" "I", Cond.sameField "HoldsOnceDenied$Friend" "HoldsOnceDenied$Denier" "figure" "I", Cond.methodLink RX5 7 yX2_mayDispute, Cond.superclass RX5 RX2, Cond.instanceMethod yX2_mayDispute, Cond.code yX2_mayDispute cX2_mayDispute 5 (some .boolean), Cond.selects RX1 ⟨"HoldsOnceDenied$Denier", "mayDispute", "(IIII)Z"⟩ yX1_mayDispute, Cond.instanceMethod yX1_mayDispute]
def wsL_law0_r12 : List Cond := [Cond.code yX1_mayDispute cX1_mayDispute 5 (some .boolean), Cond.methodLink RX9 89 yX2_mayDispute, Cond.selects RX2 yX2_mayDispute yX2_mayDispute, Cond.selects RX3 ⟨"HoldsOnceDenied$Denier", "mayDispute", "(IIII)Z"⟩ yX3_mayDispute, Cond.instanceMethod yX3_mayDispute, Cond.code yX3_mayDispute cX3_mayDispute 5 (some .boolean), Cond.selects RX5 ⟨"HoldsOnceDenied$Denier", "mayDispute", "(IIII)Z"⟩ yX5_mayDispute, Cond.selects RX6 ⟨"HoldsOnceDenied$Denier", "mayDispute", "(IIII)Z"⟩ yX6_mayDispute, Cond.instanceMethod yX6_mayDispute, Cond.code yX6_mayDispute cX6_mayDispute 5 (some .boolean), Cond.fieldLink RX6 11 "HoldsOnceDenied$Hired" "figure" "I", Cond.sameField "HoldsOnceDenied$Hired" "HoldsOnceDenied$Denier" "figure" "I", Cond.methodLink RX6 7 yX3_mayDispute, Cond.sameMethod "HoldsOnceDenied$Fool" "HoldsOnceDenied$Fool" "mayDispute" "(IIII)Z", Cond.superclass RX6 RX3, Cond.selects RX7 ⟨"HoldsOnceDenied$Denier", "mayDispute", "(IIII)Z"⟩ yX7_mayDispute, Cond.instanceMethod yX7_mayDispute, Cond.code yX7_mayDispute cX7_mayDispute 5 (some .boolean), Cond.fieldLink RX7 11 "HoldsOnceDenied$Old" "figure" "I", Cond.sameField "HoldsOnceDenied$Old" "HoldsOnceDenied$Denier" "figure" "I", Cond.methodLink RX7 7 yX10_mayDispute, Cond.sameMethod "HoldsOnceDenied$Wise" "HoldsOnceDenied$Wise" "mayDispute" "(IIII)Z", Cond.superclass RX7 RX10, Cond.instanceMethod yX10_mayDispute]
def wsL_law0_r13 : List Cond := [Cond.code yX10_mayDispute cX10_mayDispute 5 (some .boolean), Cond.methodLink RX10 7 yX2_mayDispute, Cond.superclass RX10 RX2, Cond.static yX11_within, Cond.code yX11_within cX11_within 2 (some .boolean), Cond.selects RX10 ⟨"HoldsOnceDenied$Denier", "mayDispute", "(IIII)Z"⟩ yX10_mayDispute, Cond.methodLink RX11 127 yX9_dispute, Cond.instanceMethod yX9_dispute, Cond.selects RX9 yX9_dispute yX9_dispute, Cond.code yX9_dispute cX9_dispute 4 (some .boolean), Cond.methodLink RX9 104 yX9_wouldSilence, Cond.instanceMethod yX9_wouldSilence, Cond.selects RX9 yX9_wouldSilence yX9_wouldSilence, Cond.code yX9_wouldSilence cX9_wouldSilence 4 (some .boolean), Cond.methodLink RX9 93 yX9_isOddDay, Cond.instanceMethod yX9_isOddDay, Cond.selects RX9 yX9_isOddDay yX9_isOddDay, Cond.code yX9_isOddDay cX9_isOddDay 1 (some .boolean), Cond.methodLink RX9 97 ⟨"HoldsOnceDenied$Denier", "isSilenced", "(IIIZ)Z"⟩, Cond.sameMethod "HoldsOnceDenied$Denier" "HoldsOnceDenied$Denier" "isSilenced" "(IIIZ)Z", Cond.instanceMethod ⟨"HoldsOnceDenied$Denier", "isSilenced", "(IIIZ)Z"⟩, Cond.selects RX0 ⟨"HoldsOnceDenied$Denier", "isSilenced", "(IIIZ)Z"⟩ yX0_isSilenced, Cond.instanceMethod yX0_isSilenced, Cond.code yX0_isSilenced cX0_isSilenced 5 (some .boolean)]
def wsL_law0_r14 : List Cond := [Cond.code yX2_isSilenced cX2_isSilenced 5 (some .boolean), Cond.selects RX1 ⟨"HoldsOnceDenied$Denier", "isSilenced", "(IIIZ)Z"⟩ yX1_isSilenced, Cond.instanceMethod yX1_isSilenced, Cond.code yX1_isSilenced cX1_isSilenced 5 (some .boolean), Cond.methodLink RX9 97 yX2_isSilenced, Cond.instanceMethod yX2_isSilenced, Cond.selects RX2 yX2_isSilenced yX2_isSilenced, Cond.selects RX3 ⟨"HoldsOnceDenied$Denier", "isSilenced", "(IIIZ)Z"⟩ yX2_isSilenced, Cond.selects RX5 ⟨"HoldsOnceDenied$Denier", "isSilenced", "(IIIZ)Z"⟩ yX2_isSilenced, Cond.selects RX6 ⟨"HoldsOnceDenied$Denier", "isSilenced", "(IIIZ)Z"⟩ yX2_isSilenced, Cond.selects RX7 ⟨"HoldsOnceDenied$Denier", "isSilenced", "(IIIZ)Z"⟩ yX2_isSilenced, Cond.selects RX10 ⟨"HoldsOnceDenied$Denier", "isSilenced", "(IIIZ)Z"⟩ yX2_isSilenced, Cond.methodLink RX9 107 yX9_learn, Cond.methodLink RL 25 yX12_school, Cond.instanceMethod yX12_school, Cond.selects RX12 yX12_school yX12_school, Cond.code yX12_school cX12_school 7 (some .int), Cond.fieldLink RX12 117 "HoldsOnceDeniedModel" "base" "I", Cond.fieldLink RX12 114 "HoldsOnceDeniedModel" "end" "I", Cond.fieldLink RX12 111 "HoldsOnceDeniedModel" "pos" "I", Cond.methodLink RX12 153 yX12_wrongRow, Cond.instanceMethod yX12_wrongRow, Cond.selects RX12 yX12_wrongRow yX12_wrongRow, Cond.code yX12_wrongRow cX12_wrongRow 3 (some .int)]
def wsL_law0_r15 : List Cond := [Cond.methodLink RX12 150 yX12_isShelf, Cond.static yX12_isShelf, Cond.code yX12_isShelf cX12_isShelf 1 (some .boolean), Cond.constantLong RX12 56 (7), Cond.methodLink RX12 58 yX12_isIn, Cond.static yX12_isIn, Cond.code yX12_isIn cX12_isIn 6 (some .boolean), Cond.methodLink RX12 156 yX12_readsStatement, Cond.instanceMethod yX12_readsStatement, Cond.selects RX12 yX12_readsStatement yX12_readsStatement, Cond.code yX12_readsStatement cX12_readsStatement 3 (some .boolean), Cond.methodLink RX12 120 yX12_here, Cond.instanceMethod yX12_here, Cond.selects RX12 yX12_here yX12_here, Cond.code yX12_here cX12_here 1 (some .int), Cond.methodLink RX12 128 yX12_readsDigits, Cond.instanceMethod yX12_readsDigits, Cond.selects RX12 yX12_readsDigits yX12_readsDigits, Cond.code yX12_readsDigits cX12_readsDigits 3 (some .boolean), Cond.constantLong RX12 124 (48), Cond.constantLong RX12 126 (57), Cond.methodLink RX12 62 yX12_lays, Cond.static yX12_lays, Cond.code yX12_lays cX12_lays 3 none]
def wsL_law0_r16 : List Cond := [Cond.methodLink RX12 160 yX12_comesTold, Cond.instanceMethod yX12_comesTold, Cond.selects RX12 yX12_comesTold yX12_comesTold, Cond.code yX12_comesTold cX12_comesTold 5 (some .boolean), Cond.methodLink RX12 104 yX12_setOf, Cond.instanceMethod yX12_setOf, Cond.selects RX12 yX12_setOf yX12_setOf, Cond.code yX12_setOf cX12_setOf 4 none, Cond.methodLink RX12 135 yX12_isSentence, Cond.instanceMethod yX12_isSentence, Cond.selects RX12 yX12_isSentence yX12_isSentence, Cond.code yX12_isSentence cX12_isSentence 2 (some .boolean), Cond.methodLink RX12 74 yX12_of, Cond.instanceMethod yX12_of, Cond.selects RX12 yX12_of yX12_of, Cond.code yX12_of cX12_of 3 (some .int), Cond.methodLink RX12 77 yX12_isTrue, Cond.instanceMethod yX12_isTrue, Cond.selects RX12 yX12_isTrue yX12_isTrue, Cond.code yX12_isTrue cX12_isTrue 2 (some .boolean), Cond.methodLink RX12 66 yX12_has, Cond.static yX12_has, Cond.code yX12_has cX12_has 2 (some .boolean), Cond.methodLink RX12 138 yX12_adds]
def wsL_law0_r17 : List Cond := [Cond.instanceMethod yX12_adds, Cond.selects RX12 yX12_adds yX12_adds, Cond.code yX12_adds cX12_adds 3 (some .boolean), Cond.methodLink RX12 131 yX12_joins, Cond.instanceMethod yX12_joins, Cond.selects RX12 yX12_joins yX12_joins, Cond.code yX12_joins cX12_joins 4 none, Cond.methodLink RX12 108 yX12_puts, Cond.instanceMethod yX12_puts, Cond.selects RX12 yX12_puts yX12_puts, Cond.code yX12_puts cX12_puts 4 none, Cond.methodLink RX12 141 yX12_isDenier, Cond.instanceMethod yX12_isDenier, Cond.selects RX12 yX12_isDenier yX12_isDenier, Cond.code yX12_isDenier cX12_isDenier 2 (some .boolean), Cond.methodLink RX12 70 yX12_get, Cond.instanceMethod yX12_get, Cond.selects RX12 yX12_get yX12_get, Cond.code yX12_get cX12_get 3 (some .int), Cond.methodLink RX12 144 yX12_mayNow, Cond.instanceMethod yX12_mayNow, Cond.selects RX12 yX12_mayNow yX12_mayNow, Cond.code yX12_mayNow cX12_mayNow 3 (some .boolean), Cond.methodLink RX12 87 yX12_isAlive]
def wsL_law0_r18 : List Cond := [Cond.instanceMethod yX12_isAlive, Cond.selects RX12 yX12_isAlive yX12_isAlive, Cond.code yX12_isAlive cX12_isAlive 2 (some .boolean), Cond.methodLink RX12 90 yX12_mayIf, Cond.instanceMethod yX12_mayIf, Cond.selects RX12 yX12_mayIf yX12_mayIf, Cond.code yX12_mayIf cX12_mayIf 6 (some .boolean), Cond.methodLink RX12 81 yX12_knows, Cond.instanceMethod yX12_knows, Cond.selects RX12 yX12_knows yX12_knows, Cond.code yX12_knows cX12_knows 3 (some .boolean), Cond.methodLink RX12 84 yX12_isMet, Cond.instanceMethod yX12_isMet, Cond.selects RX12 yX12_isMet yX12_isMet, Cond.code yX12_isMet cX12_isMet 3 (some .boolean), Cond.methodLink RX12 147 yX12_denies, Cond.instanceMethod yX12_denies, Cond.selects RX12 yX12_denies yX12_denies, Cond.code yX12_denies cX12_denies 4 (some .boolean), Cond.methodLink RX12 100 yX12_isSilenced, Cond.instanceMethod yX12_isSilenced, Cond.selects RX12 yX12_isSilenced yX12_isSilenced, Cond.code yX12_isSilenced cX12_isSilenced 5 (some .boolean), Cond.methodLink RL 26 yX11_sentence]
def wsL_law0_r19 : List Cond := [Cond.instanceMethod yX11_sentence, Cond.selects RX11 yX11_sentence yX11_sentence, Cond.code yX11_sentence cX11_sentence 3 (some .int), Cond.methodLink RX11 78 yX9_needsOf, Cond.methodLink RX11 81 yX9_isTrue, Cond.methodLink RX11 84 yX9_makerOf, Cond.instanceMethod yX9_makerOf, Cond.selects RX9 yX9_makerOf yX9_makerOf, Cond.code yX9_makerOf cX9_makerOf 2 (some .int), Cond.methodLink RX11 87 yX9_trueSince, Cond.instanceMethod yX9_trueSince, Cond.selects RX9 yX9_trueSince yX9_trueSince, Cond.code yX9_trueSince cX9_trueSince 2 (some .int), Cond.methodLink RL 30 yX12_sentence, Cond.instanceMethod yX12_sentence, Cond.selects RX12 yX12_sentence yX12_sentence, Cond.code yX12_sentence cX12_sentence 3 (some .int), Cond.methodLink RL 31 yX11_denier, Cond.instanceMethod yX11_denier, Cond.selects RX11 yX11_denier yX11_denier, Cond.code yX11_denier cX11_denier 4 (some .int), Cond.fieldLink RX11 94 "HoldsOnceDenied$Denier" "kind" "I", Cond.fieldLink RX11 98 "HoldsOnceDenied$Denier" "figure" "I", Cond.methodLink RX11 90 yX9_memberAt]
def wsL_law0_r20 : List Cond := [Cond.methodLink RX11 101 yX9_knownTo, Cond.methodLink RX11 104 yX9_isAlive, Cond.methodLink RX11 107 ⟨"HoldsOnceDenied$Denier", "asks", "()I"⟩, Cond.sameMethod "HoldsOnceDenied$Denier" "HoldsOnceDenied$Denier" "asks" "()I", Cond.instanceMethod ⟨"HoldsOnceDenied$Denier", "asks", "()I"⟩, Cond.selects RX0 ⟨"HoldsOnceDenied$Denier", "asks", "()I"⟩ yX0_asks, Cond.instanceMethod yX0_asks, Cond.code yX0_asks cX0_asks 1 (some .int), Cond.methodLink RX0 19 yX5_asks, Cond.sameMethod "HoldsOnceDenied$Friend" "HoldsOnceDenied$Friend" "asks" "()I", Cond.instanceMethod yX5_asks, Cond.code yX5_asks cX5_asks 1 (some .int), Cond.methodLink RX5 21 yX2_asks, Cond.instanceMethod yX2_asks, Cond.code yX2_asks cX2_asks 1 (some .int), Cond.selects RX1 ⟨"HoldsOnceDenied$Denier", "asks", "()I"⟩ yX1_asks, Cond.instanceMethod yX1_asks, Cond.code yX1_asks cX1_asks 1 (some .int), Cond.methodLink RX1 7 yX3_asks, Cond.sameMethod "HoldsOnceDenied$Fool" "HoldsOnceDenied$Fool" "asks" "()I", Cond.superclass RX1 RX3, Cond.instanceMethod yX3_asks, Cond.code yX3_asks cX3_asks 1 (some .int), Cond.methodLink RX3 17 yX2_asks]
def wsL_law0_r21 : List Cond := [Cond.superclass RX3 RX2, Cond.methodLink RX11 107 yX2_asks, Cond.selects RX2 yX2_asks yX2_asks, Cond.selects RX3 ⟨"HoldsOnceDenied$Denier", "asks", "()I"⟩ yX3_asks, Cond.selects RX5 ⟨"HoldsOnceDenied$Denier", "asks", "()I"⟩ yX5_asks, Cond.selects RX6 ⟨"HoldsOnceDenied$Denier", "asks", "()I"⟩ yX6_asks, Cond.instanceMethod yX6_asks, Cond.code yX6_asks cX6_asks 1 (some .int), Cond.methodLink RX6 21 yX3_asks, Cond.selects RX7 ⟨"HoldsOnceDenied$Denier", "asks", "()I"⟩ yX7_asks, Cond.instanceMethod yX7_asks, Cond.code yX7_asks cX7_asks 1 (some .int), Cond.methodLink RX7 27 yX10_asks, Cond.sameMethod "HoldsOnceDenied$Wise" "HoldsOnceDenied$Wise" "asks" "()I", Cond.instanceMethod yX10_asks, Cond.code yX10_asks cX10_asks 1 (some .int), Cond.fieldLink RX10 21 "HoldsOnceDenied$Wise" "figure" "I", Cond.sameField "HoldsOnceDenied$Wise" "HoldsOnceDenied$Denier" "figure" "I", Cond.methodLink RX10 17 yX2_asks, Cond.selects RX10 ⟨"HoldsOnceDenied$Denier", "asks", "()I"⟩ yX10_asks, Cond.methodLink RL 34 yX12_denier, Cond.instanceMethod yX12_denier, Cond.selects RX12 yX12_denier yX12_denier, Cond.code yX12_denier cX12_denier 3 (some .int)]
def wsL_law0_r22 : List Cond := [Cond.methodLink RX12 163 yX12_priceOf, Cond.instanceMethod yX12_priceOf, Cond.selects RX12 yX12_priceOf yX12_priceOf, Cond.code yX12_priceOf cX12_priceOf 2 (some .int), Cond.methodLink RX12 97 yX12_priceBy, Cond.static yX12_priceBy, Cond.code yX12_priceBy cX12_priceBy 2 (some .int), Cond.methodLink RL 35 yX11_comes, Cond.instanceMethod yX11_comes, Cond.selects RX11 yX11_comes yX11_comes, Cond.code yX11_comes cX11_comes 3 (some .int), Cond.methodLink RL 38 yX12_comes, Cond.instanceMethod yX12_comes, Cond.selects RX12 yX12_comes yX12_comes, Cond.code yX12_comes cX12_comes 3 (some .int), Cond.methodLink RX12 166 yX12_wrongKept, Cond.instanceMethod yX12_wrongKept, Cond.selects RX12 yX12_wrongKept yX12_wrongKept, Cond.code yX12_wrongKept cX12_wrongKept 2 (some .int), Cond.methodLink RL 39 yX11_learns, Cond.instanceMethod yX11_learns, Cond.selects RX11 yX11_learns yX11_learns, Cond.code yX11_learns cX11_learns 3 (some .int), Cond.methodLink RX11 117 yX11_isPair]
def wsL_law0_r23 : List Cond := [Cond.instanceMethod yX11_isPair, Cond.selects RX11 yX11_isPair yX11_isPair, Cond.code yX11_isPair cX11_isPair 3 (some .boolean), Cond.methodLink RL 42 yX12_learns, Cond.instanceMethod yX12_learns, Cond.selects RX12 yX12_learns yX12_learns, Cond.code yX12_learns cX12_learns 4 (some .int), Cond.methodLink RL 43 yX11_deny, Cond.instanceMethod yX11_deny, Cond.selects RX11 yX11_deny yX11_deny, Cond.code yX11_deny cX11_deny 3 (some .int), Cond.methodLink RL 46 yX12_deny, Cond.instanceMethod yX12_deny, Cond.selects RX12 yX12_deny yX12_deny, Cond.code yX12_deny cX12_deny 3 (some .int), Cond.methodLink RL 47 yX11_die, Cond.instanceMethod yX11_die, Cond.selects RX11 yX11_die yX11_die, Cond.code yX11_die cX11_die 3 (some .int), Cond.methodLink RX11 133 yX9_ruins, Cond.instanceMethod yX9_ruins, Cond.selects RX9 yX9_ruins yX9_ruins, Cond.code yX9_ruins cX9_ruins 5 (some .int), Cond.methodLink RX9 110 yX9_makerOf]
def wsL_law0_r24 : List Cond := [Cond.methodLink RX11 136 yX9_bury, Cond.instanceMethod yX9_bury, Cond.selects RX9 yX9_bury yX9_bury, Cond.code yX9_bury cX9_bury 3 none, Cond.methodLink RX11 140 yJ6_bitCount_0f7a4, Cond.static yJ6_bitCount_0f7a4, Cond.initialized RJ6, Cond.code yJ6_bitCount_0f7a4 cJ6_bitCount_0f7a4 1 (some .int), Cond.constant RJ6 265 (1431655765), Cond.constant RJ6 266 (858993459), Cond.constant RJ6 267 (252645135), Cond.methodLink RL 50 yX12_die, Cond.instanceMethod yX12_die, Cond.selects RX12 yX12_die yX12_die, Cond.code yX12_die cX12_die 3 (some .int), Cond.methodLink RX12 169 yX12_fallsBy, Cond.instanceMethod yX12_fallsBy, Cond.selects RX12 yX12_fallsBy yX12_fallsBy, Cond.code yX12_fallsBy cX12_fallsBy 5 (some .int), Cond.methodLink RX12 172 yX12_fallAll, Cond.instanceMethod yX12_fallAll, Cond.selects RX12 yX12_fallAll yX12_fallAll, Cond.code yX12_fallAll cX12_fallAll 3 none, Cond.methodLink RX12 93 yX12_bits]
def wsL_law0_r25 : List Cond := [Cond.static yX12_bits, Cond.code yX12_bits cX12_bits 3 (some .int), Cond.methodLink RL 51 yX11_may, Cond.instanceMethod yX11_may, Cond.selects RX11 yX11_may yX11_may, Cond.code yX11_may cX11_may 2 (some .int), Cond.methodLink RX11 145 yX9_allowedTo, Cond.instanceMethod yX9_allowedTo, Cond.selects RX9 yX9_allowedTo yX9_allowedTo, Cond.code yX9_allowedTo cX9_allowedTo 4 (some .int), Cond.methodLink RX9 101 yX9_isAllowed, Cond.methodLink RL 54 yX12_may, Cond.instanceMethod yX12_may, Cond.selects RX12 yX12_may yX12_may, Cond.code yX12_may cX12_may 4 (some .int), Cond.methodLink RL 55 yX11_silences, Cond.instanceMethod yX11_silences, Cond.selects RX11 yX11_silences yX11_silences, Cond.code yX11_silences cX11_silences 2 (some .int), Cond.methodLink RX11 148 yX9_silencingFor, Cond.instanceMethod yX9_silencingFor, Cond.selects RX9 yX9_silencingFor yX9_silencingFor, Cond.code yX9_silencingFor cX9_silencingFor 7 (some .int), Cond.methodLink RL 58 yX12_silences]
def wsL_law0_r26 : List Cond := [Cond.instanceMethod yX12_silences, Cond.selects RX12 yX12_silences yX12_silences, Cond.code yX12_silences cX12_silences 2 (some .int), Cond.methodLink RX12 176 yX12_silencesOf, Cond.instanceMethod yX12_silencesOf, Cond.selects RX12 yX12_silencesOf yX12_silencesOf, Cond.code yX12_silencesOf cX12_silencesOf 5 (some .int), Cond.methodLink RL 59 yX11_steps, Cond.instanceMethod yX11_steps, Cond.selects RX11 yX11_steps yX11_steps, Cond.code yX11_steps cX11_steps 4 (some .int), Cond.methodLink RX11 151 ⟨"HoldsOnceDenied$Denier", "effort", "(I)I"⟩, Cond.sameMethod "HoldsOnceDenied$Denier" "HoldsOnceDenied$Denier" "effort" "(I)I", Cond.instanceMethod ⟨"HoldsOnceDenied$Denier", "effort", "(I)I"⟩, Cond.selects RX0 ⟨"HoldsOnceDenied$Denier", "effort", "(I)I"⟩ yX0_effort, Cond.instanceMethod yX0_effort, Cond.code yX0_effort cX0_effort 2 (some .int), Cond.methodLink RX0 15 yX5_effort, Cond.sameMethod "HoldsOnceDenied$Friend" "HoldsOnceDenied$Friend" "effort" "(I)I", Cond.instanceMethod yX5_effort, Cond.code yX5_effort cX5_effort 2 (some .int), Cond.methodLink RX5 17 yX2_effort, Cond.instanceMethod yX2_effort, Cond.code yX2_effort cX2_effort 2 (some .int)]
def wsL_law0_r27 : List Cond := [Cond.selects RX1 ⟨"HoldsOnceDenied$Denier", "effort", "(I)I"⟩ yX3_effort, Cond.instanceMethod yX3_effort, Cond.code yX3_effort cX3_effort 2 (some .int), Cond.methodLink RX3 13 yX2_effort, Cond.methodLink RX11 151 yX2_effort, Cond.selects RX2 yX2_effort yX2_effort, Cond.selects RX3 ⟨"HoldsOnceDenied$Denier", "effort", "(I)I"⟩ yX3_effort, Cond.selects RX5 ⟨"HoldsOnceDenied$Denier", "effort", "(I)I"⟩ yX5_effort, Cond.selects RX6 ⟨"HoldsOnceDenied$Denier", "effort", "(I)I"⟩ yX6_effort, Cond.instanceMethod yX6_effort, Cond.code yX6_effort cX6_effort 2 (some .int), Cond.methodLink RX6 17 yX3_effort, Cond.sameMethod "HoldsOnceDenied$Fool" "HoldsOnceDenied$Fool" "effort" "(I)I", Cond.selects RX7 ⟨"HoldsOnceDenied$Denier", "effort", "(I)I"⟩ yX7_effort, Cond.instanceMethod yX7_effort, Cond.code yX7_effort cX7_effort 2 (some .int), Cond.methodLink RX7 23 yX10_effort, Cond.sameMethod "HoldsOnceDenied$Wise" "HoldsOnceDenied$Wise" "effort" "(I)I", Cond.instanceMethod yX10_effort, Cond.code yX10_effort cX10_effort 2 (some .int), Cond.selects RX10 ⟨"HoldsOnceDenied$Denier", "effort", "(I)I"⟩ yX10_effort, Cond.methodLink RL 62 yX12_steps, Cond.instanceMethod yX12_steps, Cond.selects RX12 yX12_steps yX12_steps]
def wsL_law0_r28 : List Cond := [Cond.code yX12_steps cX12_steps 3 (some .int), Cond.methodLink RX12 179 yX12_stepsOf, Cond.instanceMethod yX12_stepsOf, Cond.selects RX12 yX12_stepsOf yX12_stepsOf, Cond.code yX12_stepsOf cX12_stepsOf 5 (some .int), Cond.methodLink RL 63 yX11_falls, Cond.instanceMethod yX11_falls, Cond.selects RX11 yX11_falls yX11_falls, Cond.code yX11_falls cX11_falls 2 (some .int), Cond.methodLink RL 66 yX12_falls, Cond.instanceMethod yX12_falls, Cond.selects RX12 yX12_falls yX12_falls, Cond.code yX12_falls cX12_falls 2 (some .int), Cond.methodLink RL 67 yX11_lonely, Cond.instanceMethod yX11_lonely, Cond.selects RX11 yX11_lonely yX11_lonely, Cond.code yX11_lonely cX11_lonely 3 (some .int), Cond.methodLink RX11 154 yX9_untrue, Cond.instanceMethod yX9_untrue, Cond.selects RX9 yX9_untrue yX9_untrue, Cond.code yX9_untrue cX9_untrue 1 (some .int), Cond.methodLink RL 71 yX12_lonely, Cond.instanceMethod yX12_lonely, Cond.selects RX12 yX12_lonely yX12_lonely]
def wsL_law0_r29 : List Cond := [Cond.code yX12_lonely cX12_lonely 3 (some .int), Cond.methodLink RX12 182 yX12_everything, Cond.instanceMethod yX12_everything, Cond.selects RX12 yX12_everything yX12_everything, Cond.code yX12_everything cX12_everything 1 (some .int), Cond.methodLink RX12 185 yX12_may, Cond.methodLink RL 72 yX11_ever, Cond.instanceMethod yX11_ever, Cond.selects RX11 yX11_ever yX11_ever, Cond.code yX11_ever cX11_ever 1 (some .int), Cond.methodLink RX11 157 yX4_look, Cond.instanceMethod yX4_look, Cond.selects RX4 yX4_look yX4_look, Cond.code yX4_look cX4_look 4 none, Cond.fieldLink RX4 27 "HoldsOnceDenied$Foresight" "start" "I", Cond.methodLink RX4 30 yJ7_fill_53178, Cond.static yJ7_fill_53178, Cond.initialized RJ7, Cond.code yJ7_fill_53178 cJ7_fill_53178 4 none, Cond.methodLink RX4 36 yX9_isAlive, Cond.methodLink RX4 40 yX9_memberAt, Cond.methodLink RX4 44 yX9_knownTo, Cond.methodLink RX4 48 yX4_consider, Cond.instanceMethod yX4_consider]
def wsL_law0_r30 : List Cond := [Cond.selects RX4 yX4_consider yX4_consider, Cond.code yX4_consider cX4_consider 8 none, Cond.methodLink RX4 52 yX9_countSentences, Cond.instanceMethod yX9_countSentences, Cond.selects RX9 yX9_countSentences yX9_countSentences, Cond.code yX9_countSentences cX9_countSentences 1 (some .int), Cond.methodLink RX4 56 yX9_needsOf, Cond.methodLink RX4 59 ⟨"HoldsOnceDenied$Denier", "mayDispute", "(IIII)Z"⟩, Cond.methodLink RX4 59 yX2_mayDispute, Cond.methodLink RX4 65 ⟨"HoldsOnceDenied$Denier", "isSilenced", "(IIIZ)Z"⟩, Cond.methodLink RX4 65 yX2_isSilenced, Cond.methodLink RX4 69 yJ6_bitCount_0f7a4, Cond.methodLink RX4 74 ⟨"HoldsOnceDenied$Denier", "effort", "(I)I"⟩, Cond.methodLink RX4 74 yX2_effort, Cond.methodLink RX11 161 yX4_reachable, Cond.instanceMethod yX4_reachable, Cond.selects RX4 yX4_reachable yX4_reachable, Cond.code yX4_reachable cX4_reachable 4 (some .int), Cond.methodLink RX4 84 yX4_cheapest, Cond.instanceMethod yX4_cheapest, Cond.selects RX4 yX4_cheapest yX4_cheapest, Cond.code yX4_cheapest cX4_cheapest 5 (some .int), Cond.methodLink RL 75 yX12_ever, Cond.instanceMethod yX12_ever]
def wsL_law0_r31 : List Cond := [Cond.selects RX12 yX12_ever yX12_ever, Cond.code yX12_ever cX12_ever 1 (some .int), Cond.methodLink RX12 188 yX12_everNow, Cond.instanceMethod yX12_everNow, Cond.selects RX12 yX12_everNow yX12_everNow, Cond.code yX12_everNow cX12_everNow 5 (some .int), Cond.methodLink RL 76 yX11_soonest, Cond.instanceMethod yX11_soonest, Cond.selects RX11 yX11_soonest yX11_soonest, Cond.code yX11_soonest cX11_soonest 2 (some .int), Cond.methodLink RX11 164 yX11_bit, Cond.methodLink RX11 167 yX4_fewestDenials, Cond.instanceMethod yX4_fewestDenials, Cond.selects RX4 yX4_fewestDenials yX4_fewestDenials, Cond.code yX4_fewestDenials cX4_fewestDenials 2 (some .int), Cond.methodLink RX4 91 yX4_plan, Cond.instanceMethod yX4_plan, Cond.selects RX4 yX4_plan yX4_plan, Cond.code yX4_plan cX4_plan 4 none, Cond.methodLink RX4 101 yX4_leastFrom, Cond.instanceMethod yX4_leastFrom, Cond.selects RX4 yX4_leastFrom yX4_leastFrom, Cond.code yX4_leastFrom cX4_leastFrom 8 (some .int), Cond.methodLink RX4 95 yX4_leastOf]
def wsL_law0_r32 : List Cond := [Cond.instanceMethod yX4_leastOf, Cond.selects RX4 yX4_leastOf yX4_leastOf, Cond.code yX4_leastOf cX4_leastOf 2 (some .int), Cond.methodLink RL 79 yX12_soonest, Cond.instanceMethod yX12_soonest, Cond.selects RX12 yX12_soonest yX12_soonest, Cond.code yX12_soonest cX12_soonest 2 (some .int), Cond.methodLink RX12 194 yX12_growsFrom, Cond.instanceMethod yX12_growsFrom, Cond.selects RX12 yX12_growsFrom yX12_growsFrom, Cond.code yX12_growsFrom cX12_growsFrom 5 none, Cond.methodLink RX12 191 yX12_growsBy, Cond.instanceMethod yX12_growsBy, Cond.selects RX12 yX12_growsBy yX12_growsBy, Cond.code yX12_growsBy cX12_growsBy 5 none, Cond.methodLink RX12 197 yX12_leastWith, Cond.instanceMethod yX12_leastWith, Cond.selects RX12 yX12_leastWith yX12_leastWith, Cond.code yX12_leastWith cX12_leastWith 5 (some .int), Cond.methodLink RL 80 yX11_first, Cond.instanceMethod yX11_first, Cond.selects RX11 yX11_first yX11_first, Cond.code yX11_first cX11_first 2 (some .int), Cond.methodLink RX11 170 yX4_beginning]
def wsL_law0_r33 : List Cond := [Cond.instanceMethod yX4_beginning, Cond.selects RX4 yX4_beginning yX4_beginning, Cond.code yX4_beginning cX4_beginning 4 (some .int), Cond.methodLink RX4 98 yX4_fewestDenials, Cond.methodLink RL 83 yX12_first, Cond.instanceMethod yX12_first, Cond.selects RX12 yX12_first yX12_first, Cond.code yX12_first cX12_first 5 (some .int), Cond.methodLink RL 84 yX11_easiest, Cond.instanceMethod yX11_easiest, Cond.selects RX11 yX11_easiest yX11_easiest, Cond.code yX11_easiest cX11_easiest 2 (some .int), Cond.methodLink RX11 173 yX4_fewestSteps, Cond.instanceMethod yX4_fewestSteps, Cond.selects RX4 yX4_fewestSteps yX4_fewestSteps, Cond.code yX4_fewestSteps cX4_fewestSteps 2 (some .int), Cond.methodLink RL 87 yX12_easiest, Cond.instanceMethod yX12_easiest, Cond.selects RX12 yX12_easiest yX12_easiest, Cond.code yX12_easiest cX12_easiest 2 (some .int), Cond.methodLink RL 88 yX11_all, Cond.instanceMethod yX11_all, Cond.selects RX11 yX11_all yX11_all, Cond.code yX11_all cX11_all 1 (some .int)]
def wsL_law0_r34 : List Cond := [Cond.methodLink RL 91 yX12_all, Cond.instanceMethod yX12_all, Cond.selects RX12 yX12_all yX12_all, Cond.code yX12_all cX12_all 1 (some .int), Cond.methodLink RL 92 yX11_atOnce, Cond.instanceMethod yX11_atOnce, Cond.selects RX11 yX11_atOnce yX11_atOnce, Cond.code yX11_atOnce cX11_atOnce 2 (some .int), Cond.methodLink RX11 176 yX4_together, Cond.instanceMethod yX4_together, Cond.selects RX4 yX4_together yX4_together, Cond.code yX4_together cX4_together 7 (some .int), Cond.methodLink RX4 105 yX9_silencingFor, Cond.methodLink RX4 108 ⟨"HoldsOnceDenied$Denier", "asks", "()I"⟩, Cond.methodLink RX4 108 yX2_asks, Cond.methodLink RX4 111 yX4_letOneJoin, Cond.instanceMethod yX4_letOneJoin, Cond.selects RX4 yX4_letOneJoin yX4_letOneJoin, Cond.code yX4_letOneJoin cX4_letOneJoin 6 none, Cond.methodLink RL 95 yX12_atOnce, Cond.instanceMethod yX12_atOnce, Cond.selects RX12 yX12_atOnce yX12_atOnce, Cond.code yX12_atOnce cX12_atOnce 8 (some .int), Cond.methodLink RL 96 yX11_hire]
def wsL_law0_r35 : List Cond := [Cond.instanceMethod yX11_hire, Cond.selects RX11 yX11_hire yX11_hire, Cond.code yX11_hire cX11_hire 7 (some .int), Cond.methodLink RX11 180 yX11_isFigure, Cond.static yX11_isFigure, Cond.code yX11_isFigure cX11_isFigure 1 (some .boolean), Cond.methodLink RL 99 yX12_hire, Cond.instanceMethod yX12_hire, Cond.selects RX12 yX12_hire yX12_hire, Cond.code yX12_hire cX12_hire 7 (some .int), Cond.constantLong RX12 201 (9), Cond.methodLink RX12 203 yX12_begins, Cond.instanceMethod yX12_begins, Cond.selects RX12 yX12_begins yX12_begins, Cond.code yX12_begins cX12_begins 1 none, Cond.methodLink RX12 206 yX12_ends, Cond.instanceMethod yX12_ends, Cond.selects RX12 yX12_ends yX12_ends, Cond.code yX12_ends cX12_ends 1 none, Cond.methodLink RL 100 yX11_canHave, Cond.instanceMethod yX11_canHave, Cond.selects RX11 yX11_canHave yX11_canHave, Cond.code yX11_canHave cX11_canHave 2 (some .int), Cond.methodLink RX11 187 yX9_suspects]
def wsL_law0_r36 : List Cond := [Cond.instanceMethod yX9_suspects, Cond.selects RX9 yX9_suspects yX9_suspects, Cond.code yX9_suspects cX9_suspects 8 (some .int), Cond.methodLink RL 103 yX12_canHave, Cond.instanceMethod yX12_canHave, Cond.selects RX12 yX12_canHave yX12_canHave, Cond.code yX12_canHave cX12_canHave 4 (some .int), Cond.methodLink RL 104 yX11_run, Cond.instanceMethod yX11_run, Cond.selects RX11 yX11_run yX11_run, Cond.code yX11_run cX11_run 6 (some .int), Cond.methodLink RX11 190 yX11_areDenials, Cond.instanceMethod yX11_areDenials, Cond.selects RX11 yX11_areDenials yX11_areDenials, Cond.code yX11_areDenials cX11_areDenials 3 (some .boolean), Cond.methodLink RX11 194 yX11_disputeIfAllowed, Cond.instanceMethod yX11_disputeIfAllowed, Cond.selects RX11 yX11_disputeIfAllowed yX11_disputeIfAllowed, Cond.code yX11_disputeIfAllowed cX11_disputeIfAllowed 3 (some .int), Cond.methodLink RX11 198 yX9_countTrue, Cond.instanceMethod yX9_countTrue, Cond.selects RX9 yX9_countTrue yX9_countTrue, Cond.code yX9_countTrue cX9_countTrue 1 (some .int), Cond.methodLink RX9 56 yJ6_bitCount_0f7a4]
def wsL_law0_r37 : List Cond := [Cond.methodLink RL 107 yX12_run, Cond.instanceMethod yX12_run, Cond.selects RX12 yX12_run yX12_run, Cond.code yX12_run cX12_run 6 (some .int), Cond.methodLink RX12 209 yX12_told, Cond.instanceMethod yX12_told, Cond.selects RX12 yX12_told yX12_told, Cond.code yX12_told cX12_told 3 (some .int), Cond.methodLink RX12 212 yX12_deniesIf, Cond.instanceMethod yX12_deniesIf, Cond.selects RX12 yX12_deniesIf yX12_deniesIf, Cond.code yX12_deniesIf cX12_deniesIf 4 (some .boolean), Cond.methodLink RL 108 yX11_seeded, Cond.instanceMethod yX11_seeded, Cond.selects RX11 yX11_seeded yX11_seeded, Cond.code yX11_seeded cX11_seeded 6 (some .int), Cond.methodLink RX11 201 yX9_countDeniers, Cond.instanceMethod yX9_countDeniers, Cond.selects RX9 yX9_countDeniers yX9_countDeniers, Cond.code yX9_countDeniers cX9_countDeniers 1 (some .int), Cond.methodLink RX11 204 yX9_countSentences, Cond.methodLink RX11 207 yX11_nextSeed, Cond.static yX11_nextSeed, Cond.code yX11_nextSeed cX11_nextSeed 1 (some .int)]
def wsL_law0_r38 : List Cond := [Cond.constant RX11 298 (1103515245), Cond.methodLink RX11 210 yX11_draw, Cond.static yX11_draw, Cond.code yX11_draw cX11_draw 2 (some .int), Cond.constant RX11 299 (2147483647), Cond.methodLink RL 111 yX12_seeded, Cond.instanceMethod yX12_seeded, Cond.selects RX12 yX12_seeded yX12_seeded, Cond.code yX12_seeded cX12_seeded 6 (some .int), Cond.constantLong RX12 221 (40), Cond.fieldLink RX12 215 "HoldsOnceDeniedModel" "seed" "I", Cond.methodLink RX12 223 yX12_drawn, Cond.instanceMethod yX12_drawn, Cond.selects RX12 yX12_drawn yX12_drawn, Cond.code yX12_drawn cX12_drawn 2 (some .int), Cond.constant RX12 218 (1103515245), Cond.constant RX12 219 (2147483647), Cond.constant RX12 220 (65536), Cond.methodLink RL 112 yX11_judge, Cond.instanceMethod yX11_judge, Cond.selects RX11 yX11_judge yX11_judge, Cond.code yX11_judge cX11_judge 7 (some .int), Cond.methodLink RL 115 yX12_judge, Cond.instanceMethod yX12_judge]
def wsL_law0_r39 : List Cond := [Cond.selects RX12 yX12_judge yX12_judge, Cond.code yX12_judge cX12_judge 5 (some .int), Cond.methodLink RX12 226 yX12_wrongThree, Cond.instanceMethod yX12_wrongThree, Cond.selects RX12 yX12_wrongThree yX12_wrongThree, Cond.code yX12_wrongThree cX12_wrongThree 5 (some .int), Cond.methodLink RL 116 yX11_image, Cond.instanceMethod yX11_image, Cond.selects RX11 yX11_image yX11_image, Cond.code yX11_image cX11_image 1 (some .int), Cond.fieldLink RX11 213 "HoldsOnceDenied" "pastTaken" "Z", Cond.methodLink RL 119 yX12_image, Cond.instanceMethod yX12_image, Cond.selects RX12 yX12_image yX12_image, Cond.code yX12_image cX12_image 1 (some .int), Cond.fieldLink RX12 229 "HoldsOnceDeniedModel" "hasImage" "Z", Cond.methodLink RL 120 yX11_restore, Cond.instanceMethod yX11_restore, Cond.selects RX11 yX11_restore yX11_restore, Cond.code yX11_restore cX11_restore 1 (some .int), Cond.methodLink RL 123 yX12_restore, Cond.instanceMethod yX12_restore, Cond.selects RX12 yX12_restore yX12_restore, Cond.code yX12_restore cX12_restore 1 (some .int)]
def wsL_law0_r40 : List Cond := [Cond.methodLink RL 124 yX11_count, Cond.instanceMethod yX11_count, Cond.selects RX11 yX11_count yX11_count, Cond.code yX11_count cX11_count 2 (some .int), Cond.methodLink RX11 217 yX9_today, Cond.instanceMethod yX9_today, Cond.selects RX9 yX9_today yX9_today, Cond.code yX9_today cX9_today 1 (some .int), Cond.methodLink RX11 220 yX9_countAlive, Cond.instanceMethod yX9_countAlive, Cond.selects RX9 yX9_countAlive yX9_countAlive, Cond.code yX9_countAlive cX9_countAlive 1 (some .int), Cond.methodLink RL 127 yX12_count, Cond.instanceMethod yX12_count, Cond.selects RX12 yX12_count yX12_count, Cond.code yX12_count cX12_count 2 (some .int), Cond.methodLink RL 128 yX11_keep, Cond.instanceMethod yX11_keep, Cond.selects RX11 yX11_keep yX11_keep, Cond.code yX11_keep cX11_keep 5 (some .int), Cond.methodLink RX11 226 yX11_fillShelf, Cond.instanceMethod yX11_fillShelf, Cond.selects RX11 yX11_fillShelf yX11_fillShelf, Cond.code yX11_fillShelf cX11_fillShelf 4 none]
def wsL_law0_r41 : List Cond := [Cond.methodLink RL 132 yX12_keep, Cond.instanceMethod yX12_keep, Cond.selects RX12 yX12_keep yX12_keep, Cond.code yX12_keep cX12_keep 5 (some .int), Cond.methodLink RL 133 yX11_row, Cond.instanceMethod yX11_row, Cond.selects RX11 yX11_row yX11_row, Cond.code yX11_row cX11_row 4 (some .int), Cond.instantiable RX8 2, Cond.methodLink RX11 230 yX8_init, Cond.instanceMethod yX8_init, Cond.code yX8_init cX8_init 3 none, Cond.methodLink RX8 3 objectInit, Cond.methodLink RL 137 yX12_row, Cond.instanceMethod yX12_row, Cond.selects RX12 yX12_row yX12_row, Cond.code yX12_row cX12_row 5 (some .int), Cond.constantLong RX12 233 (2), Cond.methodLink RL 138 yX11_put, Cond.instanceMethod yX11_put, Cond.selects RX11 yX11_put yX11_put, Cond.code yX11_put cX11_put 5 (some .int), Cond.methodLink RX11 233 yX8_hasPlace, Cond.instanceMethod yX8_hasPlace]
def wsL_law0_r42 : List Cond := [Cond.selects RX8 yX8_hasPlace yX8_hasPlace, Cond.code yX8_hasPlace cX8_hasPlace 2 (some .boolean), Cond.methodLink RX11 236 yX8_store, Cond.instanceMethod yX8_store, Cond.selects RX8 yX8_store yX8_store, Cond.code yX8_store cX8_store 3 none, Cond.methodLink RX8 19 yX8_cut, Cond.instanceMethod yX8_cut, Cond.selects RX8 yX8_cut yX8_cut, Cond.code yX8_cut cX8_cut 2 (some .int), Cond.methodLink RL 141 yX12_put, Cond.instanceMethod yX12_put, Cond.selects RX12 yX12_put yX12_put, Cond.code yX12_put cX12_put 5 (some .int), Cond.methodLink RL 142 yL_element, Cond.static yL_element, Cond.initialized RL, Cond.codeWith yL_element cL_element 5 (some .int) [(0, 9, 12, 13), (0, 9, 16, 15)], Cond.classLink RL 13 "java/lang/IllegalArgumentException", Cond.classLink RL 15 "java/lang/IllegalStateException", Cond.methodLink RL 7 yX11_element, Cond.instanceMethod yX11_element, Cond.selects RX11 yX11_element yX11_element, Cond.code yX11_element cX11_element 4 (some .long)]
def wsL_law0_r43 : List Cond := [Cond.classLink RX11 239 "java/lang/IllegalArgumentException", Cond.initialized "java/lang/IllegalArgumentException", Cond.classLink RX11 246 "java/lang/IllegalStateException", Cond.initialized "java/lang/IllegalStateException", Cond.methodLink RL 147 yX12_element, Cond.instanceMethod yX12_element, Cond.selects RX12 yX12_element yX12_element, Cond.code yX12_element cX12_element 3 (some .long), Cond.fieldLink RX12 52 "HoldsOnceDeniedModel" "thrown" "I", Cond.methodLink RL 148 yX12_thrown, Cond.instanceMethod yX12_thrown, Cond.selects RX12 yX12_thrown yX12_thrown, Cond.code yX12_thrown cX12_thrown 1 (some .int), Cond.methodLink RL 151 yX11_copy, Cond.instanceMethod yX11_copy, Cond.selects RX11 yX11_copy yX11_copy, Cond.code yX11_copy cX11_copy 8 (some .int), Cond.methodLink RX11 264 arraycopyName, Cond.methodLink RX11 257 yX8_hasStretch, Cond.instanceMethod yX8_hasStretch, Cond.selects RX8 yX8_hasStretch yX8_hasStretch, Cond.code yX8_hasStretch cX8_hasStretch 3 (some .boolean), Cond.methodLink RL 155 yX12_copy, Cond.instanceMethod yX12_copy]
def wsL_law0_r44 : List Cond := [Cond.selects RX12 yX12_copy yX12_copy, Cond.code yX12_copy cX12_copy 8 (some .int), Cond.methodLink RL 156 yX11_price, Cond.instanceMethod yX11_price, Cond.selects RX11 yX11_price yX11_price, Cond.code yX11_price cX11_price 3 (some .int), Cond.methodLink RL 159 yX12_price, Cond.instanceMethod yX12_price, Cond.selects RX12 yX12_price yX12_price, Cond.code yX12_price cX12_price 3 (some .int), Cond.methodLink RL 160 yX11_toss, Cond.instanceMethod yX11_toss, Cond.selects RX11 yX11_toss yX11_toss, Cond.codeWith yX11_toss cX11_toss 4 (some .int) [(16, 20, 23, 246), (16, 20, 29, 239), (16, 20, 38, 273)], Cond.classLink RX11 273 "java/lang/UnsupportedOperationException", Cond.methodLink RX11 270 ⟨"HoldsOnceDenied$Denier", "fail", "()V"⟩, Cond.sameMethod "HoldsOnceDenied$Denier" "HoldsOnceDenied$Denier" "fail" "()V", Cond.selects RX0 ⟨"HoldsOnceDenied$Denier", "fail", "()V"⟩ yX2_fail, Cond.instanceMethod yX2_fail, Cond.code yX2_fail cX2_fail 1 none, Cond.classLink RX2 25 "java/lang/IllegalStateException", Cond.instanceMethod ⟨"HoldsOnceDenied$Denier", "fail", "()V"⟩, Cond.selects RX1 ⟨"HoldsOnceDenied$Denier", "fail", "()V"⟩ yX1_fail, Cond.instanceMethod yX1_fail]
def wsL_law0_r45 : List Cond := [Cond.code yX1_fail cX1_fail 1 none, Cond.methodLink RX11 270 yX2_fail, Cond.selects RX2 yX2_fail yX2_fail, Cond.selects RX3 ⟨"HoldsOnceDenied$Denier", "fail", "()V"⟩ yX3_fail, Cond.instanceMethod yX3_fail, Cond.code yX3_fail cX3_fail 1 none, Cond.classLink RX3 27 "java/lang/IllegalArgumentException", Cond.fieldLink RX3 21 "HoldsOnceDenied$Fool" "figure" "I", Cond.sameField "HoldsOnceDenied$Fool" "HoldsOnceDenied$Denier" "figure" "I", Cond.selects RX5 ⟨"HoldsOnceDenied$Denier", "fail", "()V"⟩ yX2_fail, Cond.selects RX6 ⟨"HoldsOnceDenied$Denier", "fail", "()V"⟩ yX6_fail, Cond.instanceMethod yX6_fail, Cond.code yX6_fail cX6_fail 1 none, Cond.classLink RX6 25 "java/lang/IllegalStateException", Cond.selects RX7 ⟨"HoldsOnceDenied$Denier", "fail", "()V"⟩ yX7_fail, Cond.instanceMethod yX7_fail, Cond.code yX7_fail cX7_fail 1 none, Cond.classLink RX7 31 "java/lang/UnsupportedOperationException", Cond.initialized "java/lang/UnsupportedOperationException", Cond.selects RX10 ⟨"HoldsOnceDenied$Denier", "fail", "()V"⟩ yX2_fail, Cond.methodLink RL 163 yX12_toss, Cond.instanceMethod yX12_toss, Cond.selects RX12 yX12_toss yX12_toss, Cond.code yX12_toss cX12_toss 5 (some .int)]
def wsL_law0 : List Cond := (wsL_law0_r1 ++ (wsL_law0_r2 ++ (wsL_law0_r3 ++ (wsL_law0_r4 ++ (wsL_law0_r5 ++ (wsL_law0_r6 ++ (wsL_law0_r7 ++ (wsL_law0_r8 ++ (wsL_law0_r9 ++ (wsL_law0_r10 ++ (wsL_law0_r11 ++ (wsL_law0_r12 ++ (wsL_law0_r13 ++ (wsL_law0_r14 ++ (wsL_law0_r15 ++ (wsL_law0_r16 ++ (wsL_law0_r17 ++ (wsL_law0_r18 ++ (wsL_law0_r19 ++ (wsL_law0_r20 ++ (wsL_law0_r21 ++ (wsL_law0_r22 ++ (wsL_law0_r23 ++ (wsL_law0_r24 ++ (wsL_law0_r25 ++ (wsL_law0_r26 ++ (wsL_law0_r27 ++ (wsL_law0_r28 ++ (wsL_law0_r29 ++ (wsL_law0_r30 ++ (wsL_law0_r31 ++ (wsL_law0_r32 ++ (wsL_law0_r33 ++ (wsL_law0_r34 ++ (wsL_law0_r35 ++ (wsL_law0_r36 ++ (wsL_law0_r37 ++ (wsL_law0_r38 ++ (wsL_law0_r39 ++ (wsL_law0_r40 ++ (wsL_law0_r41 ++ (wsL_law0_r42 ++ (wsL_law0_r43 ++ (wsL_law0_r44 ++ wsL_law0_r45)))))))))))))))))))))))))))))))))))))))))))) ++ wsX110 ++ wsX120 ++ wsX90 ++ wsX40 ++ wsX80 ++ wsX20 ++ wsX30 ++ wsX100 ++ wsX10 ++ wsX50 ++ wsX60 ++ wsX70 ++ wsX00 ++ ([] : List Cond)
def wsL_law : List Cond := wsL_law0 ++ (vx_atS RX11 243 "java/lang/IllegalArgumentException" ["java/lang/RuntimeException", "java/lang/Exception"]).filter goodWord ++ (vx_atS RX11 250 "java/lang/IllegalStateException" ["java/lang/RuntimeException", "java/lang/Exception"]).filter goodWord ++ (vx_atS RX2 29 "java/lang/IllegalStateException" ["java/lang/RuntimeException", "java/lang/Exception"]).filter goodWord ++ (vx_atS RX3 31 "java/lang/IllegalArgumentException" ["java/lang/RuntimeException", "java/lang/Exception"]).filter goodWord ++ (vx_atS RX6 29 "java/lang/IllegalStateException" ["java/lang/RuntimeException", "java/lang/Exception"]).filter goodWord ++ (vx_atS RX7 35 "java/lang/UnsupportedOperationException" ["java/lang/RuntimeException", "java/lang/Exception"]).filter goodWord
set_option maxRecDepth 20000 in
theorem wsL_law_in0 : ∀ w ∈ wsL_law0, w ∈ lw_tbl := fun w h => (goodIn_p wsL_law0 [83, 86, 91, 132, 969, 175, 179, 183, 186, 190, 194, 198, 201, 205, 208, 211, 215, 219, 225, 229, 233, 237, 240, 244, 248, 251, 255, 258, 262, 287, 296, 305, 314, 323, 332, 341, 349, 353, 358, 362, 366, 370, 374, 378, 385, 388, 414, 392, 395, 400, 404, 407, 411, 419, 423, 427, 434, 446, 440, 1039, 1043, 1046, 1050, 1054, 1058, 1062, 1067, 1071, 1075, 1079, 1083, 1087, 1090, 1094, 1098, 1102, 1106, 1110, 1114, 1118, 1122, 1126, 1130, 1134, 1138, 452, 458, 462, 1142, 466, 476, 479, 502, 483, 486, 492, 496, 499, 1146, 1150, 1153, 506, 1157, 1161, 510, 514, 1165, 518, 1169, 522, 526, 531, 534, 1173, 1177, 1181, 1184, 541, 545, 1188, 550, 554, 1192, 1196, 558, 565, 568, 587, 572, 578, 582, 585, 1200, 1204, 591, 1208, 595, 599, 1212, 1216, 603, 607, 610, 617, 621, 630, 634, 1221, 1225, 641, 646, 650, 654, 658, 1229, 1233, 1237, 1241, 662, 666, 1245, 671, 675, 1249, 679, 1253, 683, 687, 693, 1257, 697, 700, 1261, 1266, 1270, 704, 708, 1274, 712, 716, 720, 724, 1278, 1282, 1286, 729, 733, 737, 741, 1290, 1295, 746, 1302, 1306, 750, 1310, 754, 1314, 758, 762, 766, 1318, 770, 774, 1322, 778, 782, 1326, 796, 800, 804, 808, 1331, 960, 1335, 1035, 812, 816, 1339, 821, 1343, 948, 836, 839, 911, 930, 1347] (by decide +kernel) (by decide +kernel) w h).1
theorem wsL_law_x0 : ∀ w ∈ (vx_atS RX11 243 "java/lang/IllegalArgumentException" ["java/lang/RuntimeException", "java/lang/Exception"]).filter goodWord, w ∈ lw_tbl := by decide +kernel
theorem wsL_law_x1 : ∀ w ∈ (vx_atS RX11 250 "java/lang/IllegalStateException" ["java/lang/RuntimeException", "java/lang/Exception"]).filter goodWord, w ∈ lw_tbl := by decide +kernel
theorem wsL_law_x2 : ∀ w ∈ (vx_atS RX2 29 "java/lang/IllegalStateException" ["java/lang/RuntimeException", "java/lang/Exception"]).filter goodWord, w ∈ lw_tbl := by decide +kernel
theorem wsL_law_x3 : ∀ w ∈ (vx_atS RX3 31 "java/lang/IllegalArgumentException" ["java/lang/RuntimeException", "java/lang/Exception"]).filter goodWord, w ∈ lw_tbl := by decide +kernel
theorem wsL_law_x4 : ∀ w ∈ (vx_atS RX6 29 "java/lang/IllegalStateException" ["java/lang/RuntimeException", "java/lang/Exception"]).filter goodWord, w ∈ lw_tbl := by decide +kernel
theorem wsL_law_x5 : ∀ w ∈ (vx_atS RX7 35 "java/lang/UnsupportedOperationException" ["java/lang/RuntimeException", "java/lang/Exception"]).filter goodWord, w ∈ lw_tbl := by decide +kernel
theorem wsL_law_in : ∀ w ∈ wsL_law, w ∈ lw_tbl := fun w h => (List.mem_append.mp h).elim (fun h => (List.mem_append.mp h).elim (fun h => (List.mem_append.mp h).elim (fun h => (List.mem_append.mp h).elim (fun h => (List.mem_append.mp h).elim (fun h => (List.mem_append.mp h).elim (fun h => wsL_law_in0 w h) (fun h => wsL_law_x0 w h)) (fun h => wsL_law_x1 w h)) (fun h => wsL_law_x2 w h)) (fun h => wsL_law_x3 w h)) (fun h => wsL_law_x4 w h)) (fun h => wsL_law_x5 w h)
theorem inlX0 : ∀ w ∈ wsX00, w ∈ wsL_law := fun _ h => List.mem_append_left _ (List.mem_append_left _ (List.mem_append_left _ (List.mem_append_left _ (List.mem_append_left _ (List.mem_append_left _ (List.mem_append_left _ (List.mem_append_right _ h)))))))
theorem inX0 : ∀ w ∈ wsX00, w ∈ lw_tbl := fun w h => wsL_law_in w (inlX0 w h)
theorem inlX1 : ∀ w ∈ wsX10, w ∈ wsL_law := fun _ h => List.mem_append_left _ (List.mem_append_left _ (List.mem_append_left _ (List.mem_append_left _ (List.mem_append_left _ (List.mem_append_left _ (List.mem_append_left _ (List.mem_append_left _ (List.mem_append_left _ (List.mem_append_left _ (List.mem_append_left _ (List.mem_append_right _ h)))))))))))
theorem inX1 : ∀ w ∈ wsX10, w ∈ lw_tbl := fun w h => wsL_law_in w (inlX1 w h)
theorem inlX2 : ∀ w ∈ wsX20, w ∈ wsL_law := fun _ h => List.mem_append_left _ (List.mem_append_left _ (List.mem_append_left _ (List.mem_append_left _ (List.mem_append_left _ (List.mem_append_left _ (List.mem_append_left _ (List.mem_append_left _ (List.mem_append_left _ (List.mem_append_left _ (List.mem_append_left _ (List.mem_append_left _ (List.mem_append_left _ (List.mem_append_left _ (List.mem_append_right _ h))))))))))))))
theorem inX2 : ∀ w ∈ wsX20, w ∈ lw_tbl := fun w h => wsL_law_in w (inlX2 w h)
theorem inlX3 : ∀ w ∈ wsX30, w ∈ wsL_law := fun _ h => List.mem_append_left _ (List.mem_append_left _ (List.mem_append_left _ (List.mem_append_left _ (List.mem_append_left _ (List.mem_append_left _ (List.mem_append_left _ (List.mem_append_left _ (List.mem_append_left _ (List.mem_append_left _ (List.mem_append_left _ (List.mem_append_left _ (List.mem_append_left _ (List.mem_append_right _ h)))))))))))))
theorem inX3 : ∀ w ∈ wsX30, w ∈ lw_tbl := fun w h => wsL_law_in w (inlX3 w h)
theorem inlX4 : ∀ w ∈ wsX40, w ∈ wsL_law := fun _ h => List.mem_append_left _ (List.mem_append_left _ (List.mem_append_left _ (List.mem_append_left _ (List.mem_append_left _ (List.mem_append_left _ (List.mem_append_left _ (List.mem_append_left _ (List.mem_append_left _ (List.mem_append_left _ (List.mem_append_left _ (List.mem_append_left _ (List.mem_append_left _ (List.mem_append_left _ (List.mem_append_left _ (List.mem_append_left _ (List.mem_append_right _ h))))))))))))))))
theorem inX4 : ∀ w ∈ wsX40, w ∈ lw_tbl := fun w h => wsL_law_in w (inlX4 w h)
theorem inlX5 : ∀ w ∈ wsX50, w ∈ wsL_law := fun _ h => List.mem_append_left _ (List.mem_append_left _ (List.mem_append_left _ (List.mem_append_left _ (List.mem_append_left _ (List.mem_append_left _ (List.mem_append_left _ (List.mem_append_left _ (List.mem_append_left _ (List.mem_append_left _ (List.mem_append_right _ h))))))))))
theorem inX5 : ∀ w ∈ wsX50, w ∈ lw_tbl := fun w h => wsL_law_in w (inlX5 w h)
theorem inlX6 : ∀ w ∈ wsX60, w ∈ wsL_law := fun _ h => List.mem_append_left _ (List.mem_append_left _ (List.mem_append_left _ (List.mem_append_left _ (List.mem_append_left _ (List.mem_append_left _ (List.mem_append_left _ (List.mem_append_left _ (List.mem_append_left _ (List.mem_append_right _ h)))))))))
theorem inX6 : ∀ w ∈ wsX60, w ∈ lw_tbl := fun w h => wsL_law_in w (inlX6 w h)
theorem inlX7 : ∀ w ∈ wsX70, w ∈ wsL_law := fun _ h => List.mem_append_left _ (List.mem_append_left _ (List.mem_append_left _ (List.mem_append_left _ (List.mem_append_left _ (List.mem_append_left _ (List.mem_append_left _ (List.mem_append_left _ (List.mem_append_right _ h))))))))
theorem inX7 : ∀ w ∈ wsX70, w ∈ lw_tbl := fun w h => wsL_law_in w (inlX7 w h)
theorem inlX8 : ∀ w ∈ wsX80, w ∈ wsL_law := fun _ h => List.mem_append_left _ (List.mem_append_left _ (List.mem_append_left _ (List.mem_append_left _ (List.mem_append_left _ (List.mem_append_left _ (List.mem_append_left _ (List.mem_append_left _ (List.mem_append_left _ (List.mem_append_left _ (List.mem_append_left _ (List.mem_append_left _ (List.mem_append_left _ (List.mem_append_left _ (List.mem_append_left _ (List.mem_append_right _ h)))))))))))))))
theorem inX8 : ∀ w ∈ wsX80, w ∈ lw_tbl := fun w h => wsL_law_in w (inlX8 w h)
theorem inlX9 : ∀ w ∈ wsX90, w ∈ wsL_law := fun _ h => List.mem_append_left _ (List.mem_append_left _ (List.mem_append_left _ (List.mem_append_left _ (List.mem_append_left _ (List.mem_append_left _ (List.mem_append_left _ (List.mem_append_left _ (List.mem_append_left _ (List.mem_append_left _ (List.mem_append_left _ (List.mem_append_left _ (List.mem_append_left _ (List.mem_append_left _ (List.mem_append_left _ (List.mem_append_left _ (List.mem_append_left _ (List.mem_append_right _ h)))))))))))))))))
theorem inX9 : ∀ w ∈ wsX90, w ∈ lw_tbl := fun w h => wsL_law_in w (inlX9 w h)
theorem inlX10 : ∀ w ∈ wsX100, w ∈ wsL_law := fun _ h => List.mem_append_left _ (List.mem_append_left _ (List.mem_append_left _ (List.mem_append_left _ (List.mem_append_left _ (List.mem_append_left _ (List.mem_append_left _ (List.mem_append_left _ (List.mem_append_left _ (List.mem_append_left _ (List.mem_append_left _ (List.mem_append_left _ (List.mem_append_right _ h))))))))))))
theorem inX10 : ∀ w ∈ wsX100, w ∈ lw_tbl := fun w h => wsL_law_in w (inlX10 w h)
theorem inlX11 : ∀ w ∈ wsX110, w ∈ wsL_law := fun _ h => List.mem_append_left _ (List.mem_append_left _ (List.mem_append_left _ (List.mem_append_left _ (List.mem_append_left _ (List.mem_append_left _ (List.mem_append_left _ (List.mem_append_left _ (List.mem_append_left _ (List.mem_append_left _ (List.mem_append_left _ (List.mem_append_left _ (List.mem_append_left _ (List.mem_append_left _ (List.mem_append_left _ (List.mem_append_left _ (List.mem_append_left _ (List.mem_append_left _ (List.mem_append_left _ (List.mem_append_right _ h)))))))))))))))))))
theorem inX11 : ∀ w ∈ wsX110, w ∈ lw_tbl := fun w h => wsL_law_in w (inlX11 w h)
theorem inlX12 : ∀ w ∈ wsX120, w ∈ wsL_law := fun _ h => List.mem_append_left _ (List.mem_append_left _ (List.mem_append_left _ (List.mem_append_left _ (List.mem_append_left _ (List.mem_append_left _ (List.mem_append_left _ (List.mem_append_left _ (List.mem_append_left _ (List.mem_append_left _ (List.mem_append_left _ (List.mem_append_left _ (List.mem_append_left _ (List.mem_append_left _ (List.mem_append_left _ (List.mem_append_left _ (List.mem_append_left _ (List.mem_append_left _ (List.mem_append_right _ h))))))))))))))))))
theorem inX12 : ∀ w ∈ wsX120, w ∈ lw_tbl := fun w h => wsL_law_in w (inlX12 w h)
theorem inJx145de : ∀ w ∈ wsJx145de0, w ∈ lw_tbl := by decide +kernel
theorem inJ6 : ∀ w ∈ wsJ60, w ∈ lw_tbl := by decide +kernel
theorem inJ0 : ∀ w ∈ wsJ00, w ∈ lw_tbl := by decide +kernel
theorem inJ10 : ∀ w ∈ wsJ100, w ∈ lw_tbl := by decide +kernel
theorem inJ7 : ∀ w ∈ wsJ70, w ∈ lw_tbl := by decide +kernel
set_option maxRecDepth 20000 in
theorem ggL_element_X11_element : GoodIn wsL_element wsX11_element := goodIn_ca (goodIn_ca (goodIn_r _ [7, 8, 9, 10, 11, 12, 13, 6, 14, 15, 16, 17, 18, 19, 20, 21, 22, 23, 24, 25, 26, 27, 28, 29, 30, 31, 32, 33, 34, 35, 36, 37, 38] (by decide +kernel) (by decide +kernel)) (goodIn_sub (fun _ h => List.mem_cons_of_mem _ (List.mem_append_left _ (List.mem_append_right _ h))) (by decide +kernel))) (goodIn_sub (fun _ h => List.mem_cons_of_mem _ (List.mem_append_right _ h)) (by decide +kernel))
set_option maxRecDepth 20000 in
theorem gL_element_X11_element : GoodIn wsL_element (wsV RL 7 RX11 yX11_element wsX11_element) := goodIn_app (goodIn_of _ (by decide +kernel)) ggL_element_X11_element
theorem dL_element_0 : decode cL_element 0 = .ok (.aload_n 3, 1) := by decide +kernel
theorem dL_element_1 : decode cL_element 1 = .ok (.iconst 0, 1) := by decide +kernel
theorem dL_element_2 : decode cL_element 2 = .ok (.aload_n 0, 1) := by decide +kernel
theorem dL_element_3 : decode cL_element 3 = .ok (.iload_n 1, 1) := by decide +kernel
theorem dL_element_4 : decode cL_element 4 = .ok (.iload_n 2, 1) := by decide +kernel
theorem dL_element_5 : decode cL_element 5 = .ok (.invokevirtual 7, 3) := by decide +kernel
theorem dL_element_8 : decode cL_element 8 = .ok (.lastore, 1) := by decide +kernel
theorem dL_element_9 : decode cL_element 9 = .ok (.goto 11, 3) := by decide +kernel
theorem dL_element_12 : decode cL_element 12 = .ok (.astore 4, 2) := by decide +kernel
theorem dL_element_14 : decode cL_element 14 = .ok (.iconst 1, 1) := by decide +kernel
theorem dL_element_15 : decode cL_element 15 = .ok (.ireturn, 1) := by decide +kernel
theorem dL_element_16 : decode cL_element 16 = .ok (.astore 4, 2) := by decide +kernel
theorem dL_element_18 : decode cL_element 18 = .ok (.iconst 2, 1) := by decide +kernel
theorem dL_element_19 : decode cL_element 19 = .ok (.ireturn, 1) := by decide +kernel
theorem dL_element_20 : decode cL_element 20 = .ok (.iconst 0, 1) := by decide +kernel
theorem dL_element_21 : decode cL_element 21 = .ok (.ireturn, 1) := by decide +kernel
set_option maxRecDepth 20000 in
theorem ggL_law_X11_init : GoodIn wsL_law wsX11_init := goodIn_r _ [9, 10, 11, 12, 13, 14, 15, 16, 17, 18, 19, 20, 21, 22, 23, 24, 25, 26, 27, 28, 29, 30, 31, 32, 33, 34, 35, 36, 37, 38, 39, 40, 41, 42, 1107, 1108, 1109, 1110, 1111, 1112, 1113, 1114, 1115, 1116, 1080, 1081, 1082, 1083, 1084, 1085, 1086, 1117, 1118, 1119, 1120] (by decide +kernel) (by decide +kernel)
set_option maxRecDepth 20000 in
theorem gL_law_X11_init : GoodIn wsL_law (wsX11_init) := ggL_law_X11_init
set_option maxRecDepth 20000 in
theorem ggL_law_X12_init : GoodIn wsL_law wsX12_init := goodIn_r _ [45, 46, 11, 12, 30, 47, 48, 49, 50, 51, 52, 53, 54, 55, 56, 57, 58, 59, 60, 1087, 1088, 1089, 1090, 1091, 1092, 1093, 1094, 1095, 1096, 1097, 1098, 1099, 1100, 1101, 1102, 1103, 1104, 1105, 1106] (by decide +kernel) (by decide +kernel)
set_option maxRecDepth 20000 in
theorem gL_law_X12_init : GoodIn wsL_law (wsX12_init) := ggL_law_X12_init
set_option maxRecDepth 20000 in
theorem ggL_law_X11_school : GoodIn wsL_law wsX11_school := goodIn_r _ [64, 17, 16, 65, 66, 67, 2, 68, 26, 69, 70, 71, 72, 73, 74, 75, 76, 77, 78, 79, 80, 81, 82, 83, 24, 84, 85, 86, 87, 88, 89, 90, 91, 92, 93, 94, 95, 96, 97, 98, 99, 100, 101, 102, 103, 104, 105, 106, 107, 108, 109, 110, 15, 111, 112, 113, 114, 115, 116, 31, 117, 118, 119, 120, 32, 33, 34, 36, 121, 122, 123, 124, 125, 126, 127, 128, 129, 130, 131, 132, 133, 134, 135, 136, 137, 138, 139, 140, 141, 142, 143, 144, 145, 146, 147, 148, 149, 150, 151, 152, 153, 154, 23, 155, 156, 157, 158, 159, 160, 161, 162, 163, 164, 165, 166, 167, 168, 169, 170, 171, 172, 173, 174, 175, 176, 177, 178, 179, 180, 181, 11, 12, 182, 183, 184, 185, 186, 187, 188, 189, 190, 191, 192, 193, 194, 195, 196, 197, 198, 199, 200, 201, 202, 203, 204, 205, 206, 207, 208, 209, 210, 211, 212, 213, 214, 215, 216, 217, 218, 219, 220, 221, 222, 223, 224, 225, 226, 227, 228, 229, 230, 231, 232, 233, 234, 235, 236, 237, 238, 239, 240, 241, 242, 243, 244, 245, 246, 247, 248, 249, 250, 251, 252, 253, 254, 255, 256, 257, 258, 259, 260, 261, 262, 263, 264, 265, 266, 267, 268, 269, 270, 271, 272, 273, 274, 275, 276, 277, 278, 279, 280, 281, 282, 283, 284, 285, 286, 287, 288, 289, 290, 291, 292, 293, 294, 295, 296, 297, 298, 299, 300, 301, 302, 303, 304, 305, 306, 307, 308, 309, 310, 311, 312, 313, 314, 315, 316, 317, 318, 319, 320, 321, 322, 323, 324, 1080, 1081, 1082, 1083, 1084, 1085, 1086, 1121, 1122, 1107, 1108, 1109, 1110, 1111, 1112, 1113, 1114, 1115, 1116, 1123, 1124, 1125, 1126, 1127, 1128, 1129, 1130, 1131, 1132, 1133, 1134, 1135, 1136, 1137, 1138] (by decide +kernel) (by decide +kernel)
set_option maxRecDepth 20000 in
theorem gL_law_X11_school : GoodIn wsL_law (wsV RL 21 RX11 yX11_school wsX11_school) := goodIn_app (goodIn_of _ (by decide +kernel)) ggL_law_X11_school
set_option maxRecDepth 20000 in
theorem ggL_law_X12_school : GoodIn wsL_law wsX12_school := goodIn_r _ [328, 329, 53, 330, 331, 47, 49, 332, 333, 334, 5, 335, 51, 52, 336, 337, 338, 339, 340, 341, 342, 343, 344, 345, 346, 347, 348, 349, 350, 54, 351, 352, 353, 354, 355, 356, 57, 357, 358, 359, 360, 361, 362, 363, 364, 365, 366, 367, 368, 369, 370, 371, 372, 373, 374, 375, 376, 377, 378, 379, 380, 381, 382, 383, 384, 385, 386, 387, 388, 389, 390, 391, 392, 393, 394, 395, 396, 397, 398, 399, 400, 401, 402, 403, 404, 405, 406, 407, 408, 409, 410, 411, 412, 413, 414, 415, 416, 417, 418, 419, 420, 421, 422, 423, 424, 425, 426, 427, 428, 429, 430, 1087, 1088, 1089, 1090, 1091, 1092, 1093, 1094, 1095, 1096, 1097, 1098, 1099, 1100, 1101, 1102, 1103, 1104, 1105, 1106] (by decide +kernel) (by decide +kernel)
set_option maxRecDepth 20000 in
theorem gL_law_X12_school : GoodIn wsL_law (wsV RL 25 RX12 yX12_school wsX12_school) := goodIn_app (goodIn_of _ (by decide +kernel)) ggL_law_X12_school
set_option maxRecDepth 20000 in
theorem ggL_law_X11_sentence : GoodIn wsL_law wsX11_sentence := goodIn_r _ [434, 16, 220, 133, 134, 15, 135, 112, 435, 242, 243, 244, 31, 436, 143, 144, 145, 114, 146, 2, 147, 437, 438, 439, 440, 32, 441, 442, 443, 444, 33, 1080, 1081, 1082, 1083, 1084, 1085, 1086, 1107, 1108, 1109, 1110, 1111, 1112, 1113, 1114, 1115, 1116] (by decide +kernel) (by decide +kernel)
set_option maxRecDepth 20000 in
theorem gL_law_X11_sentence : GoodIn wsL_law (wsV RL 26 RX11 yX11_sentence wsX11_sentence) := goodIn_app (goodIn_of _ (by decide +kernel)) ggL_law_X11_sentence
set_option maxRecDepth 20000 in
theorem ggL_law_X12_sentence : GoodIn wsL_law wsX12_sentence := goodIn_r _ [448, 368, 369, 370, 5, 371, 47, 340, 341, 342, 372, 373, 374, 375, 376, 377, 378, 379, 380, 381, 382, 1087, 1088, 1089, 1090, 1091, 1092, 1093, 1094, 1095, 1096, 1097, 1098, 1099, 1100, 1101, 1102, 1103, 1104, 1105, 1106] (by decide +kernel) (by decide +kernel)
set_option maxRecDepth 20000 in
theorem gL_law_X12_sentence : GoodIn wsL_law (wsV RL 30 RX12 yX12_sentence wsX12_sentence) := goodIn_app (goodIn_of _ (by decide +kernel)) ggL_law_X12_sentence
set_option maxRecDepth 20000 in
theorem ggL_law_X11_denier : GoodIn wsL_law wsX11_denier := goodIn_r _ [452, 16, 453, 454, 455, 230, 231, 15, 232, 36, 456, 238, 239, 240, 34, 457, 234, 235, 236, 115, 146, 2, 147, 458, 459, 460, 461, 462, 177, 463, 464, 465, 253, 466, 168, 467, 256, 257, 468, 259, 469, 156, 470, 471, 472, 165, 473, 474, 475, 476, 477, 159, 478, 479, 480, 481, 482, 483, 484, 485, 486, 171, 487, 488, 278, 489, 490, 174, 491, 492, 493, 286, 494, 162, 495, 496, 497, 498, 290, 499, 1080, 1081, 1082, 1083, 1084, 1085, 1086, 1137, 1138, 1129, 1130, 1123, 1124, 1125, 1126, 1131, 1132, 1133, 1134, 1135, 1136, 1127, 1128, 1107, 1108, 1109, 1110, 1111, 1112, 1113, 1114, 1115, 1116] (by decide +kernel) (by decide +kernel)
set_option maxRecDepth 20000 in
theorem gL_law_X11_denier : GoodIn wsL_law (wsV RL 31 RX11 yX11_denier wsX11_denier) := goodIn_app (goodIn_of _ (by decide +kernel)) ggL_law_X11_denier
set_option maxRecDepth 20000 in
theorem ggL_law_X12_denier : GoodIn wsL_law wsX12_denier := goodIn_r _ [503, 395, 396, 397, 5, 398, 47, 340, 341, 342, 399, 400, 401, 402, 407, 408, 409, 410, 380, 381, 382, 504, 505, 506, 507, 508, 509, 510, 1087, 1088, 1089, 1090, 1091, 1092, 1093, 1094, 1095, 1096, 1097, 1098, 1099, 1100, 1101, 1102, 1103, 1104, 1105, 1106] (by decide +kernel) (by decide +kernel)
set_option maxRecDepth 20000 in
theorem gL_law_X12_denier : GoodIn wsL_law (wsV RL 34 RX12 yX12_denier wsX12_denier) := goodIn_app (goodIn_of _ (by decide +kernel)) ggL_law_X12_denier
set_option maxRecDepth 20000 in
theorem ggL_law_X11_comes : GoodIn wsL_law wsX11_comes := goodIn_r _ [514, 16, 80, 81, 82, 2, 83, 24, 69, 70, 71, 72, 73, 74, 75, 76, 77, 78, 79, 65, 66, 67, 68, 26, 212, 213, 214, 15, 215, 113, 36, 34, 115, 136, 137, 1080, 1081, 1082, 1083, 1084, 1085, 1086, 1107, 1108, 1109, 1110, 1111, 1112, 1113, 1114, 1115, 1116] (by decide +kernel) (by decide +kernel)
set_option maxRecDepth 20000 in
theorem gL_law_X11_comes : GoodIn wsL_law (wsV RL 35 RX11 yX11_comes wsX11_comes) := goodIn_app (goodIn_of _ (by decide +kernel)) ggL_law_X11_comes
set_option maxRecDepth 20000 in
theorem ggL_law_X12_comes : GoodIn wsL_law wsX12_comes := goodIn_r _ [518, 55, 56, 47, 519, 520, 521, 5, 522, 51, 336, 337, 338, 339, 340, 341, 342, 383, 384, 385, 386, 387, 388, 389, 390, 391, 392, 393, 394, 1087, 1088, 1089, 1090, 1091, 1092, 1093, 1094, 1095, 1096, 1097, 1098, 1099, 1100, 1101, 1102, 1103, 1104, 1105, 1106] (by decide +kernel) (by decide +kernel)
set_option maxRecDepth 20000 in
theorem gL_law_X12_comes : GoodIn wsL_law (wsV RL 38 RX12 yX12_comes wsX12_comes) := goodIn_app (goodIn_of _ (by decide +kernel)) ggL_law_X12_comes
set_option maxRecDepth 20000 in
theorem ggL_law_X11_learns : GoodIn wsL_law wsX11_learns := goodIn_r _ [526, 16, 527, 528, 529, 2, 530, 216, 217, 218, 15, 219, 113, 220, 133, 134, 135, 112, 221, 222, 223, 224, 34, 146, 147, 136, 137, 1080, 1081, 1082, 1083, 1084, 1085, 1086, 1107, 1108, 1109, 1110, 1111, 1112, 1113, 1114, 1115, 1116] (by decide +kernel) (by decide +kernel)
set_option maxRecDepth 20000 in
theorem gL_law_X11_learns : GoodIn wsL_law (wsV RL 39 RX11 yX11_learns wsX11_learns) := goodIn_app (goodIn_of _ (by decide +kernel)) ggL_law_X11_learns
set_option maxRecDepth 20000 in
theorem ggL_law_X12_learns : GoodIn wsL_law wsX12_learns := goodIn_r _ [534, 395, 396, 397, 5, 398, 47, 340, 341, 342, 368, 369, 370, 371, 415, 416, 417, 418, 399, 400, 401, 402, 380, 381, 382, 391, 392, 393, 394, 1087, 1088, 1089, 1090, 1091, 1092, 1093, 1094, 1095, 1096, 1097, 1098, 1099, 1100, 1101, 1102, 1103, 1104, 1105, 1106] (by decide +kernel) (by decide +kernel)
set_option maxRecDepth 20000 in
theorem gL_law_X12_learns : GoodIn wsL_law (wsV RL 42 RX12 yX12_learns wsX12_learns) := goodIn_app (goodIn_of _ (by decide +kernel)) ggL_law_X12_learns
set_option maxRecDepth 20000 in
theorem ggL_law_X11_deny : GoodIn wsL_law wsX11_deny := goodIn_r _ [538, 16, 527, 528, 529, 2, 530, 216, 217, 218, 15, 219, 113, 220, 133, 134, 135, 112, 225, 226, 227, 228, 114, 229, 230, 231, 232, 36, 233, 234, 235, 236, 115, 146, 147, 132, 237, 238, 239, 240, 34, 241, 242, 243, 244, 31, 245, 246, 247, 248, 249, 177, 250, 251, 252, 253, 254, 168, 255, 256, 257, 258, 259, 260, 156, 261, 262, 263, 165, 264, 265, 266, 267, 268, 159, 269, 270, 271, 272, 171, 273, 274, 275, 276, 277, 278, 279, 280, 174, 281, 282, 283, 284, 285, 286, 287, 162, 288, 289, 290, 291, 292, 293, 294, 295, 296, 297, 116, 298, 299, 300, 301, 302, 303, 304, 305, 306, 307, 308, 309, 310, 311, 312, 313, 314, 315, 316, 317, 318, 319, 320, 321, 322, 323, 148, 149, 150, 151, 32, 33, 136, 137, 324, 222, 223, 224, 1080, 1081, 1082, 1083, 1084, 1085, 1086, 1107, 1108, 1109, 1110, 1111, 1112, 1113, 1114, 1115, 1116, 1137, 1138, 1129, 1130, 1123, 1124, 1125, 1126, 1131, 1132, 1133, 1134, 1135, 1136, 1127, 1128] (by decide +kernel) (by decide +kernel)
set_option maxRecDepth 20000 in
theorem gL_law_X11_deny : GoodIn wsL_law (wsV RL 43 RX11 yX11_deny wsX11_deny) := goodIn_app (goodIn_of _ (by decide +kernel)) ggL_law_X11_deny
set_option maxRecDepth 20000 in
theorem ggL_law_X12_deny : GoodIn wsL_law wsX12_deny := goodIn_r _ [542, 395, 396, 397, 5, 398, 47, 340, 341, 342, 368, 369, 370, 371, 403, 404, 405, 406, 407, 408, 409, 410, 380, 381, 382, 411, 412, 413, 414, 399, 400, 401, 402, 376, 377, 378, 379, 415, 416, 417, 418, 419, 420, 421, 422, 372, 373, 374, 375, 423, 424, 425, 426, 427, 428, 429, 430, 364, 365, 366, 367, 391, 392, 393, 394, 1087, 1088, 1089, 1090, 1091, 1092, 1093, 1094, 1095, 1096, 1097, 1098, 1099, 1100, 1101, 1102, 1103, 1104, 1105, 1106] (by decide +kernel) (by decide +kernel)
set_option maxRecDepth 20000 in
theorem gL_law_X12_deny : GoodIn wsL_law (wsV RL 46 RX12 yX12_deny wsX12_deny) := goodIn_app (goodIn_of _ (by decide +kernel)) ggL_law_X12_deny
set_option maxRecDepth 20000 in
theorem ggL_law_X11_die : GoodIn wsL_law wsX11_die := goodIn_r _ [546, 16, 216, 217, 218, 15, 219, 113, 457, 234, 235, 236, 115, 146, 2, 147, 547, 548, 549, 550, 112, 142, 143, 144, 145, 114, 551, 438, 439, 440, 32, 136, 137, 241, 242, 243, 244, 31, 552, 553, 554, 555, 556, 557, 558, 559, 560, 561, 562, 1080, 1081, 1082, 1083, 1084, 1085, 1086, 1107, 1108, 1109, 1110, 1111, 1112, 1113, 1114, 1115, 1116] (by decide +kernel) (by decide +kernel)
set_option maxRecDepth 20000 in
theorem gL_law_X11_die : GoodIn wsL_law (wsV RL 47 RX11 yX11_die wsX11_die) := goodIn_app (goodIn_of _ (by decide +kernel)) ggL_law_X11_die
set_option maxRecDepth 20000 in
theorem ggL_law_X12_die : GoodIn wsL_law wsX12_die := goodIn_r _ [566, 47, 395, 396, 397, 5, 398, 340, 341, 342, 407, 408, 409, 410, 380, 381, 382, 567, 568, 569, 570, 376, 377, 378, 379, 372, 373, 374, 375, 571, 572, 573, 574, 364, 365, 366, 367, 575, 576, 577, 1087, 1088, 1089, 1090, 1091, 1092, 1093, 1094, 1095, 1096, 1097, 1098, 1099, 1100, 1101, 1102, 1103, 1104, 1105, 1106] (by decide +kernel) (by decide +kernel)
set_option maxRecDepth 20000 in
theorem gL_law_X12_die : GoodIn wsL_law (wsV RL 50 RX12 yX12_die wsX12_die) := goodIn_app (goodIn_of _ (by decide +kernel)) ggL_law_X12_die
set_option maxRecDepth 20000 in
theorem ggL_law_X11_may : GoodIn wsL_law wsX11_may := goodIn_r _ [581, 16, 216, 217, 218, 15, 219, 113, 582, 583, 584, 585, 112, 586, 226, 227, 228, 114, 229, 230, 231, 232, 36, 233, 234, 235, 236, 115, 146, 2, 147, 132, 133, 134, 135, 237, 238, 239, 240, 34, 241, 242, 243, 244, 31, 245, 246, 247, 248, 249, 177, 250, 251, 252, 253, 254, 168, 255, 256, 257, 258, 259, 260, 156, 261, 262, 263, 165, 264, 265, 266, 267, 268, 159, 269, 270, 271, 272, 171, 273, 274, 275, 276, 277, 278, 279, 280, 174, 281, 282, 283, 284, 285, 286, 287, 162, 288, 289, 290, 291, 292, 293, 136, 137, 1080, 1081, 1082, 1083, 1084, 1085, 1086, 1107, 1108, 1109, 1110, 1111, 1112, 1113, 1114, 1115, 1116, 1137, 1138, 1129, 1130, 1123, 1124, 1125, 1126, 1131, 1132, 1133, 1134, 1135, 1136, 1127, 1128] (by decide +kernel) (by decide +kernel)
set_option maxRecDepth 20000 in
theorem gL_law_X11_may : GoodIn wsL_law (wsV RL 51 RX11 yX11_may wsX11_may) := goodIn_app (goodIn_of _ (by decide +kernel)) ggL_law_X11_may
set_option maxRecDepth 20000 in
theorem ggL_law_X12_may : GoodIn wsL_law wsX12_may := goodIn_r _ [590, 47, 395, 396, 397, 5, 398, 340, 341, 342, 403, 404, 405, 406, 407, 408, 409, 410, 380, 381, 382, 411, 412, 413, 414, 399, 400, 401, 402, 376, 377, 378, 379, 415, 416, 417, 418, 419, 420, 421, 422, 372, 373, 374, 375, 1087, 1088, 1089, 1090, 1091, 1092, 1093, 1094, 1095, 1096, 1097, 1098, 1099, 1100, 1101, 1102, 1103, 1104, 1105, 1106] (by decide +kernel) (by decide +kernel)
set_option maxRecDepth 20000 in
theorem gL_law_X12_may : GoodIn wsL_law (wsV RL 54 RX12 yX12_may wsX12_may) := goodIn_app (goodIn_of _ (by decide +kernel)) ggL_law_X12_may
set_option maxRecDepth 20000 in
theorem ggL_law_X11_silences : GoodIn wsL_law wsX11_silences := goodIn_r _ [594, 16, 216, 217, 218, 15, 219, 113, 595, 596, 597, 598, 112, 114, 229, 230, 231, 232, 36, 233, 234, 235, 236, 115, 146, 2, 147, 237, 238, 239, 240, 34, 241, 242, 243, 244, 31, 142, 143, 144, 145, 245, 246, 247, 248, 249, 177, 250, 251, 252, 253, 254, 168, 255, 256, 257, 258, 259, 260, 156, 261, 262, 263, 165, 264, 265, 266, 267, 268, 159, 269, 270, 271, 272, 171, 273, 274, 275, 276, 277, 278, 279, 280, 174, 281, 282, 283, 284, 285, 286, 287, 162, 288, 289, 290, 291, 292, 293, 302, 303, 304, 305, 116, 306, 307, 308, 309, 310, 311, 312, 313, 314, 315, 316, 317, 318, 319, 320, 321, 322, 323, 136, 137, 1080, 1081, 1082, 1083, 1084, 1085, 1086, 1107, 1108, 1109, 1110, 1111, 1112, 1113, 1114, 1115, 1116, 1137, 1138, 1129, 1130, 1123, 1124, 1125, 1126, 1131, 1132, 1133, 1134, 1135, 1136, 1127, 1128] (by decide +kernel) (by decide +kernel)
set_option maxRecDepth 20000 in
theorem gL_law_X11_silences : GoodIn wsL_law (wsV RL 55 RX11 yX11_silences wsX11_silences) := goodIn_app (goodIn_of _ (by decide +kernel)) ggL_law_X11_silences
set_option maxRecDepth 20000 in
theorem ggL_law_X12_silences : GoodIn wsL_law wsX12_silences := goodIn_r _ [602, 47, 395, 396, 397, 5, 398, 340, 341, 342, 603, 604, 605, 606, 376, 377, 378, 379, 380, 381, 382, 403, 404, 405, 406, 407, 408, 409, 410, 411, 412, 413, 414, 399, 400, 401, 402, 415, 416, 417, 418, 419, 420, 421, 422, 372, 373, 374, 375, 427, 428, 429, 430, 1087, 1088, 1089, 1090, 1091, 1092, 1093, 1094, 1095, 1096, 1097, 1098, 1099, 1100, 1101, 1102, 1103, 1104, 1105, 1106] (by decide +kernel) (by decide +kernel)
set_option maxRecDepth 20000 in
theorem gL_law_X12_silences : GoodIn wsL_law (wsV RL 58 RX12 yX12_silences wsX12_silences) := goodIn_app (goodIn_of _ (by decide +kernel)) ggL_law_X12_silences
set_option maxRecDepth 20000 in
theorem ggL_law_X11_steps : GoodIn wsL_law wsX11_steps := goodIn_r _ [610, 16, 455, 230, 231, 15, 232, 36, 220, 133, 134, 135, 112, 435, 242, 243, 244, 31, 556, 557, 558, 559, 560, 561, 562, 611, 612, 613, 614, 615, 177, 616, 617, 618, 253, 619, 168, 620, 256, 257, 621, 259, 622, 156, 623, 624, 625, 159, 626, 627, 480, 628, 629, 630, 631, 632, 633, 171, 634, 635, 636, 278, 637, 638, 174, 639, 282, 283, 640, 641, 286, 642, 162, 643, 644, 1080, 1081, 1082, 1083, 1084, 1085, 1086, 1107, 1108, 1109, 1110, 1111, 1112, 1113, 1114, 1115, 1116, 1137, 1138, 1129, 1130, 1123, 1124, 1125, 1126, 1131, 1132, 1133, 1134, 1135, 1136, 1127, 1128] (by decide +kernel) (by decide +kernel)
set_option maxRecDepth 20000 in
theorem gL_law_X11_steps : GoodIn wsL_law (wsV RL 59 RX11 yX11_steps wsX11_steps) := goodIn_app (goodIn_of _ (by decide +kernel)) ggL_law_X11_steps
set_option maxRecDepth 20000 in
theorem ggL_law_X12_steps : GoodIn wsL_law wsX12_steps := goodIn_r _ [648, 395, 396, 397, 5, 398, 47, 340, 341, 342, 368, 369, 370, 371, 649, 650, 651, 652, 372, 373, 374, 375, 575, 576, 577, 399, 400, 401, 402, 1087, 1088, 1089, 1090, 1091, 1092, 1093, 1094, 1095, 1096, 1097, 1098, 1099, 1100, 1101, 1102, 1103, 1104, 1105, 1106] (by decide +kernel) (by decide +kernel)
set_option maxRecDepth 20000 in
theorem gL_law_X12_steps : GoodIn wsL_law (wsV RL 62 RX12 yX12_steps wsX12_steps) := goodIn_app (goodIn_of _ (by decide +kernel)) ggL_law_X12_steps
set_option maxRecDepth 20000 in
theorem ggL_law_X11_falls : GoodIn wsL_law wsX11_falls := goodIn_r _ [656, 16, 216, 217, 218, 15, 219, 113, 547, 548, 549, 550, 112, 142, 143, 144, 145, 114, 146, 2, 147, 551, 438, 439, 440, 32, 136, 137, 241, 242, 243, 244, 31, 1080, 1081, 1082, 1083, 1084, 1085, 1086, 1107, 1108, 1109, 1110, 1111, 1112, 1113, 1114, 1115, 1116] (by decide +kernel) (by decide +kernel)
set_option maxRecDepth 20000 in
theorem gL_law_X11_falls : GoodIn wsL_law (wsV RL 63 RX11 yX11_falls wsX11_falls) := goodIn_app (goodIn_of _ (by decide +kernel)) ggL_law_X11_falls
set_option maxRecDepth 20000 in
theorem ggL_law_X12_falls : GoodIn wsL_law wsX12_falls := goodIn_r _ [660, 395, 396, 397, 5, 398, 47, 340, 341, 342, 567, 568, 569, 570, 376, 377, 378, 379, 380, 381, 382, 372, 373, 374, 375, 407, 408, 409, 410, 1087, 1088, 1089, 1090, 1091, 1092, 1093, 1094, 1095, 1096, 1097, 1098, 1099, 1100, 1101, 1102, 1103, 1104, 1105, 1106] (by decide +kernel) (by decide +kernel)
set_option maxRecDepth 20000 in
theorem gL_law_X12_falls : GoodIn wsL_law (wsV RL 66 RX12 yX12_falls wsX12_falls) := goodIn_app (goodIn_of _ (by decide +kernel)) ggL_law_X12_falls
set_option maxRecDepth 20000 in
theorem ggL_law_X11_lonely : GoodIn wsL_law wsX11_lonely := goodIn_r _ [664, 16, 582, 583, 584, 15, 585, 112, 586, 226, 227, 228, 114, 229, 230, 231, 232, 36, 233, 234, 235, 236, 115, 146, 2, 147, 132, 133, 134, 135, 237, 238, 239, 240, 34, 241, 242, 243, 244, 31, 245, 246, 247, 248, 249, 177, 250, 251, 252, 253, 254, 168, 255, 256, 257, 258, 259, 260, 156, 261, 262, 263, 165, 264, 265, 266, 267, 268, 159, 269, 270, 271, 272, 171, 273, 274, 275, 276, 277, 278, 279, 280, 174, 281, 282, 283, 284, 285, 286, 287, 162, 288, 289, 290, 291, 292, 293, 136, 137, 665, 666, 667, 668, 1080, 1081, 1082, 1083, 1084, 1085, 1086, 1107, 1108, 1109, 1110, 1111, 1112, 1113, 1114, 1115, 1116, 1137, 1138, 1129, 1130, 1123, 1124, 1125, 1126, 1131, 1132, 1133, 1134, 1135, 1136, 1127, 1128] (by decide +kernel) (by decide +kernel)
set_option maxRecDepth 20000 in
theorem gL_law_X11_lonely : GoodIn wsL_law (wsV RL 67 RX11 yX11_lonely wsX11_lonely) := goodIn_app (goodIn_of _ (by decide +kernel)) ggL_law_X11_lonely
set_option maxRecDepth 20000 in
theorem ggL_law_X12_lonely : GoodIn wsL_law wsX12_lonely := goodIn_r _ [672, 47, 673, 674, 675, 5, 676, 677, 588, 589, 590, 395, 396, 397, 398, 340, 341, 342, 403, 404, 405, 406, 407, 408, 409, 410, 380, 381, 382, 411, 412, 413, 414, 399, 400, 401, 402, 376, 377, 378, 379, 415, 416, 417, 418, 419, 420, 421, 422, 372, 373, 374, 375, 1087, 1088, 1089, 1090, 1091, 1092, 1093, 1094, 1095, 1096, 1097, 1098, 1099, 1100, 1101, 1102, 1103, 1104, 1105, 1106] (by decide +kernel) (by decide +kernel)
set_option maxRecDepth 20000 in
theorem gL_law_X12_lonely : GoodIn wsL_law (wsV RL 71 RX12 yX12_lonely wsX12_lonely) := goodIn_app (goodIn_of _ (by decide +kernel)) ggL_law_X12_lonely
set_option maxRecDepth 20000 in
theorem ggL_law_X11_ever : GoodIn wsL_law wsX11_ever := goodIn_r _ [681, 22, 16, 682, 683, 684, 21, 685, 686, 40, 687, 688, 689, 690, 691, 234, 235, 15, 236, 115, 146, 2, 147, 692, 230, 231, 232, 36, 693, 238, 239, 240, 34, 694, 695, 696, 697, 41, 698, 699, 700, 701, 112, 702, 242, 243, 244, 31, 703, 246, 247, 248, 249, 177, 250, 251, 252, 253, 254, 168, 255, 256, 257, 258, 259, 260, 156, 261, 262, 263, 165, 264, 704, 266, 267, 268, 159, 269, 270, 271, 272, 171, 273, 274, 275, 276, 277, 278, 279, 280, 174, 281, 282, 283, 284, 285, 286, 287, 162, 288, 289, 290, 291, 292, 293, 705, 307, 308, 309, 310, 311, 312, 313, 314, 315, 706, 317, 318, 319, 320, 321, 322, 323, 707, 557, 558, 559, 560, 561, 562, 708, 612, 613, 614, 615, 616, 617, 618, 619, 620, 621, 622, 623, 624, 625, 626, 627, 480, 709, 629, 630, 631, 632, 633, 634, 635, 636, 637, 638, 639, 640, 641, 642, 643, 644, 710, 711, 712, 713, 714, 715, 716, 717, 136, 137, 1080, 1081, 1082, 1083, 1084, 1085, 1086, 1107, 1108, 1109, 1110, 1111, 1112, 1113, 1114, 1115, 1116, 1117, 1118, 1119, 1120, 1137, 1138, 1129, 1130, 1123, 1124, 1125, 1126, 1131, 1132, 1133, 1134, 1135, 1136, 1127, 1128] (by decide +kernel) (by decide +kernel)
set_option maxRecDepth 20000 in
theorem gL_law_X11_ever : GoodIn wsL_law (wsV RL 72 RX11 yX11_ever wsX11_ever) := goodIn_app (goodIn_of _ (by decide +kernel)) ggL_law_X11_ever
set_option maxRecDepth 20000 in
theorem ggL_law_X12_ever : GoodIn wsL_law wsX12_ever := goodIn_r _ [721, 722, 723, 724, 5, 725, 47, 603, 604, 605, 606, 376, 377, 378, 379, 380, 381, 382, 403, 404, 405, 406, 407, 408, 409, 410, 411, 412, 413, 414, 399, 400, 401, 402, 415, 416, 417, 418, 419, 420, 421, 422, 372, 373, 374, 375, 427, 428, 429, 430, 1087, 1088, 1089, 1090, 1091, 1092, 1093, 1094, 1095, 1096, 1097, 1098, 1099, 1100, 1101, 1102, 1103, 1104, 1105, 1106] (by decide +kernel) (by decide +kernel)
set_option maxRecDepth 20000 in
theorem gL_law_X12_ever : GoodIn wsL_law (wsV RL 75 RX12 yX12_ever wsX12_ever) := goodIn_app (goodIn_of _ (by decide +kernel)) ggL_law_X12_ever
set_option maxRecDepth 20000 in
theorem ggL_law_X11_soonest : GoodIn wsL_law wsX11_soonest := goodIn_r _ [729, 16, 22, 220, 133, 134, 15, 135, 112, 682, 683, 684, 21, 685, 686, 40, 687, 688, 689, 690, 691, 234, 235, 236, 115, 146, 2, 147, 692, 230, 231, 232, 36, 693, 238, 239, 240, 34, 694, 695, 696, 697, 41, 698, 699, 700, 701, 702, 242, 243, 244, 31, 703, 246, 247, 248, 249, 177, 250, 251, 252, 253, 254, 168, 255, 256, 257, 258, 259, 260, 156, 261, 262, 263, 165, 264, 704, 266, 267, 268, 159, 269, 270, 271, 272, 171, 273, 274, 275, 276, 277, 278, 279, 280, 174, 281, 282, 283, 284, 285, 286, 287, 162, 288, 289, 290, 291, 292, 293, 705, 307, 308, 309, 310, 311, 312, 313, 314, 315, 706, 317, 318, 319, 320, 321, 322, 323, 707, 557, 558, 559, 560, 561, 562, 708, 612, 613, 614, 615, 616, 617, 618, 619, 620, 621, 622, 623, 624, 625, 626, 627, 480, 709, 629, 630, 631, 632, 633, 634, 635, 636, 637, 638, 639, 640, 641, 642, 643, 644, 730, 136, 137, 731, 732, 733, 734, 735, 736, 737, 738, 42, 739, 740, 741, 742, 714, 715, 716, 717, 743, 744, 745, 746, 1080, 1081, 1082, 1083, 1084, 1085, 1086, 1107, 1108, 1109, 1110, 1111, 1112, 1113, 1114, 1115, 1116, 1117, 1118, 1119, 1120, 1137, 1138, 1129, 1130, 1123, 1124, 1125, 1126, 1131, 1132, 1133, 1134, 1135, 1136, 1127, 1128] (by decide +kernel) (by decide +kernel)
set_option maxRecDepth 20000 in
theorem gL_law_X11_soonest : GoodIn wsL_law (wsV RL 76 RX11 yX11_soonest wsX11_soonest) := goodIn_app (goodIn_of _ (by decide +kernel)) ggL_law_X11_soonest
set_option maxRecDepth 20000 in
theorem ggL_law_X12_soonest : GoodIn wsL_law wsX12_soonest := goodIn_r _ [750, 47, 58, 368, 369, 370, 5, 371, 340, 341, 342, 751, 752, 753, 754, 59, 673, 674, 675, 676, 380, 381, 382, 755, 756, 757, 758, 603, 604, 605, 606, 376, 377, 378, 379, 403, 404, 405, 406, 407, 408, 409, 410, 411, 412, 413, 414, 399, 400, 401, 402, 415, 416, 417, 418, 419, 420, 421, 422, 372, 373, 374, 375, 427, 428, 429, 430, 649, 650, 651, 652, 575, 576, 577, 759, 760, 761, 762, 1087, 1088, 1089, 1090, 1091, 1092, 1093, 1094, 1095, 1096, 1097, 1098, 1099, 1100, 1101, 1102, 1103, 1104, 1105, 1106] (by decide +kernel) (by decide +kernel)
set_option maxRecDepth 20000 in
theorem gL_law_X12_soonest : GoodIn wsL_law (wsV RL 79 RX12 yX12_soonest wsX12_soonest) := goodIn_app (goodIn_of _ (by decide +kernel)) ggL_law_X12_soonest
set_option maxRecDepth 20000 in
theorem ggL_law_X11_first : GoodIn wsL_law wsX11_first := goodIn_r _ [766, 16, 22, 220, 133, 134, 15, 135, 112, 682, 683, 684, 21, 685, 686, 40, 687, 688, 689, 690, 691, 234, 235, 236, 115, 146, 2, 147, 692, 230, 231, 232, 36, 693, 238, 239, 240, 34, 694, 695, 696, 697, 41, 698, 699, 700, 701, 702, 242, 243, 244, 31, 703, 246, 247, 248, 249, 177, 250, 251, 252, 253, 254, 168, 255, 256, 257, 258, 259, 260, 156, 261, 262, 263, 165, 264, 704, 266, 267, 268, 159, 269, 270, 271, 272, 171, 273, 274, 275, 276, 277, 278, 279, 280, 174, 281, 282, 283, 284, 285, 286, 287, 162, 288, 289, 290, 291, 292, 293, 705, 307, 308, 309, 310, 311, 312, 313, 314, 315, 706, 317, 318, 319, 320, 321, 322, 323, 707, 557, 558, 559, 560, 561, 562, 708, 612, 613, 614, 615, 616, 617, 618, 619, 620, 621, 622, 623, 624, 625, 626, 627, 480, 709, 629, 630, 631, 632, 633, 634, 635, 636, 637, 638, 639, 640, 641, 642, 643, 644, 730, 136, 137, 767, 768, 769, 770, 771, 732, 733, 734, 735, 736, 737, 738, 42, 739, 740, 741, 742, 714, 715, 716, 717, 743, 744, 745, 746, 1080, 1081, 1082, 1083, 1084, 1085, 1086, 1107, 1108, 1109, 1110, 1111, 1112, 1113, 1114, 1115, 1116, 1117, 1118, 1119, 1120, 1137, 1138, 1129, 1130, 1123, 1124, 1125, 1126, 1131, 1132, 1133, 1134, 1135, 1136, 1127, 1128] (by decide +kernel) (by decide +kernel)
set_option maxRecDepth 20000 in
theorem gL_law_X11_first : GoodIn wsL_law (wsV RL 80 RX11 yX11_first wsX11_first) := goodIn_app (goodIn_of _ (by decide +kernel)) ggL_law_X11_first
set_option maxRecDepth 20000 in
theorem ggL_law_X12_first : GoodIn wsL_law wsX12_first := goodIn_r _ [775, 47, 58, 368, 369, 370, 5, 371, 340, 341, 342, 751, 752, 753, 754, 59, 673, 674, 675, 676, 380, 381, 382, 755, 756, 757, 758, 603, 604, 605, 606, 376, 377, 378, 379, 403, 404, 405, 406, 407, 408, 409, 410, 411, 412, 413, 414, 399, 400, 401, 402, 415, 416, 417, 418, 419, 420, 421, 422, 372, 373, 374, 375, 427, 428, 429, 430, 649, 650, 651, 652, 575, 576, 577, 759, 760, 761, 762, 1087, 1088, 1089, 1090, 1091, 1092, 1093, 1094, 1095, 1096, 1097, 1098, 1099, 1100, 1101, 1102, 1103, 1104, 1105, 1106] (by decide +kernel) (by decide +kernel)
set_option maxRecDepth 20000 in
theorem gL_law_X12_first : GoodIn wsL_law (wsV RL 83 RX12 yX12_first wsX12_first) := goodIn_app (goodIn_of _ (by decide +kernel)) ggL_law_X12_first
set_option maxRecDepth 20000 in
theorem ggL_law_X11_easiest : GoodIn wsL_law wsX11_easiest := goodIn_r _ [779, 16, 22, 220, 133, 134, 15, 135, 112, 682, 683, 684, 21, 685, 686, 40, 687, 688, 689, 690, 691, 234, 235, 236, 115, 146, 2, 147, 692, 230, 231, 232, 36, 693, 238, 239, 240, 34, 694, 695, 696, 697, 41, 698, 699, 700, 701, 702, 242, 243, 244, 31, 703, 246, 247, 248, 249, 177, 250, 251, 252, 253, 254, 168, 255, 256, 257, 258, 259, 260, 156, 261, 262, 263, 165, 264, 704, 266, 267, 268, 159, 269, 270, 271, 272, 171, 273, 274, 275, 276, 277, 278, 279, 280, 174, 281, 282, 283, 284, 285, 286, 287, 162, 288, 289, 290, 291, 292, 293, 705, 307, 308, 309, 310, 311, 312, 313, 314, 315, 706, 317, 318, 319, 320, 321, 322, 323, 707, 557, 558, 559, 560, 561, 562, 708, 612, 613, 614, 615, 616, 617, 618, 619, 620, 621, 622, 623, 624, 625, 626, 627, 480, 709, 629, 630, 631, 632, 633, 634, 635, 636, 637, 638, 639, 640, 641, 642, 643, 644, 730, 136, 137, 780, 781, 782, 783, 735, 736, 737, 738, 42, 739, 740, 741, 742, 714, 715, 716, 717, 743, 744, 745, 746, 1080, 1081, 1082, 1083, 1084, 1085, 1086, 1107, 1108, 1109, 1110, 1111, 1112, 1113, 1114, 1115, 1116, 1117, 1118, 1119, 1120, 1137, 1138, 1129, 1130, 1123, 1124, 1125, 1126, 1131, 1132, 1133, 1134, 1135, 1136, 1127, 1128] (by decide +kernel) (by decide +kernel)
set_option maxRecDepth 20000 in
theorem gL_law_X11_easiest : GoodIn wsL_law (wsV RL 84 RX11 yX11_easiest wsX11_easiest) := goodIn_app (goodIn_of _ (by decide +kernel)) ggL_law_X11_easiest
set_option maxRecDepth 20000 in
theorem ggL_law_X12_easiest : GoodIn wsL_law wsX12_easiest := goodIn_r _ [787, 47, 59, 368, 369, 370, 5, 371, 340, 341, 342, 751, 752, 753, 754, 58, 673, 674, 675, 676, 380, 381, 382, 755, 756, 757, 758, 603, 604, 605, 606, 376, 377, 378, 379, 403, 404, 405, 406, 407, 408, 409, 410, 411, 412, 413, 414, 399, 400, 401, 402, 415, 416, 417, 418, 419, 420, 421, 422, 372, 373, 374, 375, 427, 428, 429, 430, 649, 650, 651, 652, 575, 576, 577, 759, 760, 761, 762, 1087, 1088, 1089, 1090, 1091, 1092, 1093, 1094, 1095, 1096, 1097, 1098, 1099, 1100, 1101, 1102, 1103, 1104, 1105, 1106] (by decide +kernel) (by decide +kernel)
set_option maxRecDepth 20000 in
theorem gL_law_X12_easiest : GoodIn wsL_law (wsV RL 87 RX12 yX12_easiest wsX12_easiest) := goodIn_app (goodIn_of _ (by decide +kernel)) ggL_law_X12_easiest
set_option maxRecDepth 20000 in
theorem ggL_law_X11_all : GoodIn wsL_law wsX11_all := goodIn_r _ [791, 22, 16, 682, 683, 684, 21, 685, 686, 40, 687, 688, 689, 690, 691, 234, 235, 15, 236, 115, 146, 2, 147, 692, 230, 231, 232, 36, 693, 238, 239, 240, 34, 694, 695, 696, 697, 41, 698, 699, 700, 701, 112, 702, 242, 243, 244, 31, 703, 246, 247, 248, 249, 177, 250, 251, 252, 253, 254, 168, 255, 256, 257, 258, 259, 260, 156, 261, 262, 263, 165, 264, 704, 266, 267, 268, 159, 269, 270, 271, 272, 171, 273, 274, 275, 276, 277, 278, 279, 280, 174, 281, 282, 283, 284, 285, 286, 287, 162, 288, 289, 290, 291, 292, 293, 705, 307, 308, 309, 310, 311, 312, 313, 314, 315, 706, 317, 318, 319, 320, 321, 322, 323, 707, 557, 558, 559, 560, 561, 562, 708, 612, 613, 614, 615, 616, 617, 618, 619, 620, 621, 622, 623, 624, 625, 626, 627, 480, 709, 629, 630, 631, 632, 633, 634, 635, 636, 637, 638, 639, 640, 641, 642, 643, 644, 710, 711, 712, 713, 714, 715, 716, 717, 136, 137, 780, 781, 782, 783, 735, 736, 737, 738, 42, 739, 740, 741, 742, 743, 744, 745, 746, 1080, 1081, 1082, 1083, 1084, 1085, 1086, 1107, 1108, 1109, 1110, 1111, 1112, 1113, 1114, 1115, 1116, 1117, 1118, 1119, 1120, 1137, 1138, 1129, 1130, 1123, 1124, 1125, 1126, 1131, 1132, 1133, 1134, 1135, 1136, 1127, 1128] (by decide +kernel) (by decide +kernel)
set_option maxRecDepth 20000 in
theorem gL_law_X11_all : GoodIn wsL_law (wsV RL 88 RX11 yX11_all wsX11_all) := goodIn_app (goodIn_of _ (by decide +kernel)) ggL_law_X11_all
set_option maxRecDepth 20000 in
theorem ggL_law_X12_all : GoodIn wsL_law wsX12_all := goodIn_r _ [795, 47, 59, 751, 752, 753, 5, 754, 58, 673, 674, 675, 676, 380, 381, 382, 755, 756, 757, 758, 603, 604, 605, 606, 376, 377, 378, 379, 403, 404, 405, 406, 407, 408, 409, 410, 411, 412, 413, 414, 399, 400, 401, 402, 415, 416, 417, 418, 419, 420, 421, 422, 372, 373, 374, 375, 427, 428, 429, 430, 649, 650, 651, 652, 575, 576, 577, 722, 723, 724, 725, 1087, 1088, 1089, 1090, 1091, 1092, 1093, 1094, 1095, 1096, 1097, 1098, 1099, 1100, 1101, 1102, 1103, 1104, 1105, 1106] (by decide +kernel) (by decide +kernel)
set_option maxRecDepth 20000 in
theorem gL_law_X12_all : GoodIn wsL_law (wsV RL 91 RX12 yX12_all wsX12_all) := goodIn_app (goodIn_of _ (by decide +kernel)) ggL_law_X12_all
set_option maxRecDepth 20000 in
theorem ggL_law_X11_atOnce : GoodIn wsL_law wsX11_atOnce := goodIn_r _ [799, 22, 16, 800, 801, 802, 21, 803, 42, 687, 688, 689, 690, 692, 230, 231, 15, 232, 36, 804, 596, 597, 598, 112, 114, 229, 233, 234, 235, 236, 115, 146, 2, 147, 237, 238, 239, 240, 34, 241, 242, 243, 244, 31, 142, 143, 144, 145, 245, 246, 247, 248, 249, 177, 250, 251, 252, 253, 254, 168, 255, 256, 257, 258, 259, 260, 156, 261, 262, 263, 165, 264, 265, 266, 267, 268, 159, 269, 270, 271, 272, 171, 273, 274, 275, 276, 277, 278, 279, 280, 174, 281, 282, 283, 284, 285, 286, 287, 162, 288, 289, 290, 291, 292, 293, 302, 303, 304, 305, 116, 306, 307, 308, 309, 310, 311, 312, 313, 314, 315, 316, 317, 318, 319, 320, 321, 322, 323, 136, 137, 805, 459, 460, 461, 462, 463, 464, 465, 466, 467, 468, 469, 470, 471, 472, 473, 474, 475, 476, 477, 478, 479, 480, 806, 482, 483, 484, 485, 486, 487, 488, 489, 490, 491, 492, 493, 494, 495, 496, 497, 498, 499, 807, 808, 809, 810, 707, 557, 558, 559, 560, 561, 562, 1080, 1081, 1082, 1083, 1084, 1085, 1086, 1117, 1118, 1119, 1120, 1107, 1108, 1109, 1110, 1111, 1112, 1113, 1114, 1115, 1116, 1137, 1138, 1129, 1130, 1123, 1124, 1125, 1126, 1131, 1132, 1133, 1134, 1135, 1136, 1127, 1128] (by decide +kernel) (by decide +kernel)
set_option maxRecDepth 20000 in
theorem gL_law_X11_atOnce : GoodIn wsL_law (wsV RL 92 RX11 yX11_atOnce wsX11_atOnce) := goodIn_app (goodIn_of _ (by decide +kernel)) ggL_law_X11_atOnce
set_option maxRecDepth 20000 in
theorem ggL_law_X12_atOnce : GoodIn wsL_law wsX12_atOnce := goodIn_r _ [814, 60, 47, 340, 341, 5, 342, 603, 604, 605, 606, 376, 377, 378, 379, 380, 381, 382, 403, 404, 405, 406, 407, 408, 409, 410, 411, 412, 413, 414, 399, 400, 401, 402, 415, 416, 417, 418, 419, 420, 421, 422, 372, 373, 374, 375, 427, 428, 429, 430, 673, 674, 675, 676, 504, 505, 506, 507, 508, 509, 510, 575, 576, 577, 1087, 1088, 1089, 1090, 1091, 1092, 1093, 1094, 1095, 1096, 1097, 1098, 1099, 1100, 1101, 1102, 1103, 1104, 1105, 1106] (by decide +kernel) (by decide +kernel)
set_option maxRecDepth 20000 in
theorem gL_law_X12_atOnce : GoodIn wsL_law (wsV RL 95 RX12 yX12_atOnce wsX12_atOnce) := goodIn_app (goodIn_of _ (by decide +kernel)) ggL_law_X12_atOnce
set_option maxRecDepth 20000 in
theorem ggL_law_X11_hire : GoodIn wsL_law wsX11_hire := goodIn_r _ [818, 22, 16, 819, 820, 2, 821, 152, 153, 154, 23, 155, 156, 157, 158, 159, 160, 161, 162, 163, 164, 165, 166, 167, 168, 169, 170, 171, 172, 173, 174, 175, 176, 177, 178, 179, 180, 181, 11, 12, 182, 183, 184, 185, 186, 187, 188, 189, 190, 191, 192, 193, 194, 195, 196, 197, 198, 199, 200, 201, 202, 203, 204, 205, 206, 207, 208, 209, 210, 211, 682, 683, 684, 21, 685, 686, 40, 687, 688, 689, 690, 691, 234, 235, 15, 236, 115, 146, 147, 692, 230, 231, 232, 36, 693, 238, 239, 240, 34, 694, 695, 696, 697, 41, 698, 699, 700, 701, 112, 702, 242, 243, 244, 31, 703, 246, 247, 248, 249, 250, 251, 252, 253, 254, 255, 256, 257, 258, 259, 260, 261, 262, 263, 264, 704, 266, 267, 268, 269, 270, 271, 272, 273, 274, 275, 276, 277, 278, 279, 280, 281, 282, 283, 284, 285, 286, 287, 288, 289, 290, 291, 292, 293, 705, 307, 308, 309, 310, 311, 312, 313, 314, 315, 706, 317, 318, 319, 320, 321, 322, 323, 707, 557, 558, 559, 560, 561, 562, 708, 612, 613, 614, 615, 616, 617, 618, 619, 620, 621, 622, 623, 624, 625, 626, 627, 480, 709, 629, 630, 631, 632, 633, 634, 635, 636, 637, 638, 639, 640, 641, 642, 643, 644, 710, 711, 712, 713, 714, 715, 716, 717, 136, 137, 556, 1080, 1081, 1082, 1083, 1084, 1085, 1086, 1123, 1124, 1125, 1126, 1127, 1128, 1129, 1130, 1131, 1132, 1133, 1134, 1135, 1136, 1137, 1138, 1107, 1108, 1109, 1110, 1111, 1112, 1113, 1114, 1115, 1116, 1117, 1118, 1119, 1120] (by decide +kernel) (by decide +kernel)
set_option maxRecDepth 20000 in
theorem gL_law_X11_hire : GoodIn wsL_law (wsV RL 96 RX11 yX11_hire wsX11_hire) := goodIn_app (goodIn_of _ (by decide +kernel)) ggL_law_X11_hire
set_option maxRecDepth 20000 in
theorem ggL_law_X12_hire : GoodIn wsL_law wsX12_hire := goodIn_r _ [825, 826, 340, 341, 5, 342, 827, 828, 829, 830, 47, 50, 357, 358, 359, 387, 388, 389, 390, 391, 392, 393, 394, 722, 723, 724, 725, 603, 604, 605, 606, 376, 377, 378, 379, 380, 381, 382, 403, 404, 405, 406, 407, 408, 409, 410, 411, 412, 413, 414, 399, 400, 401, 402, 415, 416, 417, 418, 419, 420, 421, 422, 372, 373, 374, 375, 427, 428, 429, 430, 575, 576, 577, 831, 832, 833, 834, 1087, 1088, 1089, 1090, 1091, 1092, 1093, 1094, 1095, 1096, 1097, 1098, 1099, 1100, 1101, 1102, 1103, 1104, 1105, 1106] (by decide +kernel) (by decide +kernel)
set_option maxRecDepth 20000 in
theorem gL_law_X12_hire : GoodIn wsL_law (wsV RL 99 RX12 yX12_hire wsX12_hire) := goodIn_app (goodIn_of _ (by decide +kernel)) ggL_law_X12_hire
set_option maxRecDepth 20000 in
theorem ggL_law_X11_canHave : GoodIn wsL_law wsX11_canHave := goodIn_r _ [838, 16, 220, 133, 134, 15, 135, 112, 436, 143, 144, 145, 114, 146, 2, 147, 839, 840, 841, 842, 113, 136, 137, 241, 242, 243, 244, 31, 229, 230, 231, 232, 36, 237, 238, 239, 240, 34, 245, 246, 247, 248, 249, 177, 250, 251, 252, 253, 254, 168, 255, 256, 257, 258, 259, 260, 156, 261, 262, 263, 165, 264, 265, 266, 267, 268, 159, 269, 270, 271, 272, 171, 273, 274, 275, 276, 277, 278, 279, 280, 174, 281, 282, 283, 284, 285, 286, 287, 162, 288, 289, 290, 291, 292, 293, 306, 307, 308, 309, 310, 311, 312, 313, 314, 315, 316, 317, 318, 319, 320, 321, 322, 323, 1080, 1081, 1082, 1083, 1084, 1085, 1086, 1107, 1108, 1109, 1110, 1111, 1112, 1113, 1114, 1115, 1116, 1137, 1138, 1129, 1130, 1123, 1124, 1125, 1126, 1131, 1132, 1133, 1134, 1135, 1136, 1127, 1128] (by decide +kernel) (by decide +kernel)
set_option maxRecDepth 20000 in
theorem gL_law_X11_canHave : GoodIn wsL_law (wsV RL 100 RX11 yX11_canHave wsX11_canHave) := goodIn_app (goodIn_of _ (by decide +kernel)) ggL_law_X11_canHave
set_option maxRecDepth 20000 in
theorem ggL_law_X12_canHave : GoodIn wsL_law wsX12_canHave := goodIn_r _ [846, 47, 368, 369, 370, 5, 371, 340, 341, 342, 376, 377, 378, 379, 380, 381, 382, 827, 828, 829, 830, 50, 357, 358, 359, 399, 400, 401, 402, 391, 392, 393, 394, 411, 412, 413, 414, 415, 416, 417, 418, 419, 420, 421, 422, 372, 373, 374, 375, 427, 428, 429, 430, 831, 832, 833, 834, 1087, 1088, 1089, 1090, 1091, 1092, 1093, 1094, 1095, 1096, 1097, 1098, 1099, 1100, 1101, 1102, 1103, 1104, 1105, 1106] (by decide +kernel) (by decide +kernel)
set_option maxRecDepth 20000 in
theorem gL_law_X12_canHave : GoodIn wsL_law (wsV RL 103 RX12 yX12_canHave wsX12_canHave) := goodIn_app (goodIn_of _ (by decide +kernel)) ggL_law_X12_canHave
set_option maxRecDepth 20000 in
theorem ggL_law_X11_run : GoodIn wsL_law wsX11_run := goodIn_r _ [850, 17, 16, 65, 66, 67, 2, 68, 26, 69, 70, 71, 72, 73, 74, 75, 76, 77, 78, 79, 80, 81, 82, 83, 24, 84, 85, 86, 87, 88, 89, 851, 852, 853, 854, 104, 105, 106, 107, 97, 93, 94, 95, 96, 527, 528, 529, 530, 216, 217, 218, 15, 219, 113, 220, 133, 134, 135, 112, 108, 109, 110, 111, 114, 115, 116, 31, 117, 118, 119, 120, 32, 33, 34, 36, 855, 856, 857, 858, 225, 226, 227, 228, 229, 230, 231, 232, 233, 234, 235, 236, 146, 147, 132, 237, 238, 239, 240, 241, 242, 243, 244, 245, 246, 247, 248, 249, 177, 250, 251, 252, 253, 254, 168, 255, 256, 257, 258, 259, 260, 156, 261, 262, 263, 165, 264, 265, 266, 267, 268, 159, 269, 270, 271, 272, 171, 273, 274, 275, 276, 277, 278, 279, 280, 174, 281, 282, 283, 284, 285, 286, 287, 162, 288, 289, 290, 291, 292, 293, 294, 295, 296, 297, 298, 299, 300, 301, 302, 303, 304, 305, 306, 307, 308, 309, 310, 311, 312, 313, 314, 315, 316, 317, 318, 319, 320, 321, 322, 323, 148, 149, 150, 151, 136, 137, 324, 222, 223, 224, 859, 860, 861, 862, 863, 557, 558, 559, 560, 561, 562, 1080, 1081, 1082, 1083, 1084, 1085, 1086, 1121, 1122, 1107, 1108, 1109, 1110, 1111, 1112, 1113, 1114, 1115, 1116, 1137, 1138, 1129, 1130, 1123, 1124, 1125, 1126, 1131, 1132, 1133, 1134, 1135, 1136, 1127, 1128] (by decide +kernel) (by decide +kernel)
set_option maxRecDepth 20000 in
theorem gL_law_X11_run : GoodIn wsL_law (wsV RL 104 RX11 yX11_run wsX11_run) := goodIn_app (goodIn_of _ (by decide +kernel)) ggL_law_X11_run
set_option maxRecDepth 20000 in
theorem ggL_law_X12_run : GoodIn wsL_law wsX12_run := goodIn_r _ [867, 53, 47, 336, 337, 5, 338, 339, 340, 341, 342, 332, 333, 334, 335, 51, 52, 868, 869, 870, 871, 54, 395, 396, 397, 398, 368, 369, 370, 371, 827, 828, 829, 830, 50, 357, 358, 359, 872, 873, 874, 875, 403, 404, 405, 406, 407, 408, 409, 410, 380, 381, 382, 411, 412, 413, 414, 399, 400, 401, 402, 376, 377, 378, 379, 415, 416, 417, 418, 419, 420, 421, 422, 372, 373, 374, 375, 423, 424, 425, 426, 427, 428, 429, 430, 364, 365, 366, 367, 391, 392, 393, 394, 575, 576, 577, 831, 832, 833, 834, 1087, 1088, 1089, 1090, 1091, 1092, 1093, 1094, 1095, 1096, 1097, 1098, 1099, 1100, 1101, 1102, 1103, 1104, 1105, 1106] (by decide +kernel) (by decide +kernel)
set_option maxRecDepth 20000 in
theorem gL_law_X12_run : GoodIn wsL_law (wsV RL 107 RX12 yX12_run wsX12_run) := goodIn_app (goodIn_of _ (by decide +kernel)) ggL_law_X12_run
set_option maxRecDepth 20000 in
theorem ggL_law_X11_seeded : GoodIn wsL_law wsX11_seeded := goodIn_r _ [879, 16, 17, 880, 881, 882, 15, 883, 113, 884, 699, 700, 701, 112, 108, 109, 110, 111, 114, 115, 116, 31, 117, 118, 119, 120, 32, 33, 34, 36, 885, 886, 2, 887, 888, 889, 890, 891, 892, 855, 856, 857, 858, 225, 226, 227, 228, 229, 230, 231, 232, 233, 234, 235, 236, 146, 147, 132, 133, 134, 135, 237, 238, 239, 240, 241, 242, 243, 244, 245, 246, 247, 248, 249, 177, 250, 251, 252, 253, 254, 168, 255, 256, 257, 258, 259, 260, 156, 261, 262, 263, 165, 264, 265, 266, 267, 268, 159, 269, 270, 271, 272, 171, 273, 274, 275, 276, 277, 278, 279, 280, 174, 281, 282, 283, 284, 285, 286, 287, 162, 288, 289, 290, 291, 292, 293, 294, 295, 296, 297, 298, 299, 300, 301, 302, 303, 304, 305, 306, 307, 308, 309, 310, 311, 312, 313, 314, 315, 316, 317, 318, 319, 320, 321, 322, 323, 148, 149, 150, 151, 136, 137, 324, 222, 223, 224, 859, 860, 861, 862, 863, 557, 558, 559, 560, 561, 562, 1080, 1081, 1082, 1083, 1084, 1085, 1086, 1107, 1108, 1109, 1110, 1111, 1112, 1113, 1114, 1115, 1116, 1137, 1138, 1129, 1130, 1123, 1124, 1125, 1126, 1131, 1132, 1133, 1134, 1135, 1136, 1127, 1128] (by decide +kernel) (by decide +kernel)
set_option maxRecDepth 20000 in
theorem gL_law_X11_seeded : GoodIn wsL_law (wsV RL 108 RX11 yX11_seeded wsX11_seeded) := goodIn_app (goodIn_of _ (by decide +kernel)) ggL_law_X11_seeded
set_option maxRecDepth 20000 in
theorem ggL_law_X12_seeded : GoodIn wsL_law wsX12_seeded := goodIn_r _ [896, 897, 47, 898, 340, 341, 5, 342, 827, 828, 829, 830, 50, 357, 358, 359, 899, 900, 901, 902, 903, 904, 905, 872, 873, 874, 875, 403, 404, 405, 406, 407, 408, 409, 410, 380, 381, 382, 411, 412, 413, 414, 399, 400, 401, 402, 376, 377, 378, 379, 415, 416, 417, 418, 419, 420, 421, 422, 372, 373, 374, 375, 423, 424, 425, 426, 427, 428, 429, 430, 364, 365, 366, 367, 391, 392, 393, 394, 575, 576, 577, 831, 832, 833, 834, 1087, 1088, 1089, 1090, 1091, 1092, 1093, 1094, 1095, 1096, 1097, 1098, 1099, 1100, 1101, 1102, 1103, 1104, 1105, 1106] (by decide +kernel) (by decide +kernel)
set_option maxRecDepth 20000 in
theorem gL_law_X12_seeded : GoodIn wsL_law (wsV RL 111 RX12 yX12_seeded wsX12_seeded) := goodIn_app (goodIn_of _ (by decide +kernel)) ggL_law_X12_seeded
set_option maxRecDepth 20000 in
theorem ggL_law_X11_judge : GoodIn wsL_law wsX11_judge := goodIn_r _ [909, 17, 16, 65, 66, 67, 2, 68, 26, 69, 70, 71, 72, 73, 74, 75, 76, 77, 78, 79, 80, 81, 82, 83, 24, 108, 109, 110, 15, 111, 112, 113, 114, 115, 116, 31, 117, 118, 119, 120, 32, 33, 34, 36, 104, 105, 106, 87, 107, 97, 93, 94, 95, 96, 216, 217, 218, 219, 220, 133, 134, 135, 225, 226, 227, 228, 229, 230, 231, 232, 233, 234, 235, 236, 146, 147, 132, 237, 238, 239, 240, 241, 242, 243, 244, 245, 246, 247, 248, 249, 177, 250, 251, 252, 253, 254, 168, 255, 256, 257, 258, 259, 260, 156, 261, 262, 263, 165, 264, 265, 266, 267, 268, 159, 269, 270, 271, 272, 171, 273, 274, 275, 276, 277, 278, 279, 280, 174, 281, 282, 283, 284, 285, 286, 287, 162, 288, 289, 290, 291, 292, 293, 294, 295, 296, 297, 298, 299, 300, 301, 302, 303, 304, 305, 306, 307, 308, 309, 310, 311, 312, 313, 314, 315, 316, 317, 318, 319, 320, 321, 322, 323, 148, 149, 150, 151, 136, 137, 324, 222, 223, 224, 1080, 1081, 1082, 1083, 1084, 1085, 1086, 1107, 1108, 1109, 1110, 1111, 1112, 1113, 1114, 1115, 1116, 1121, 1122, 1137, 1138, 1129, 1130, 1123, 1124, 1125, 1126, 1131, 1132, 1133, 1134, 1135, 1136, 1127, 1128] (by decide +kernel) (by decide +kernel)
set_option maxRecDepth 20000 in
theorem gL_law_X11_judge : GoodIn wsL_law (wsV RL 112 RX11 yX11_judge wsX11_judge) := goodIn_app (goodIn_of _ (by decide +kernel)) ggL_law_X11_judge
set_option maxRecDepth 20000 in
theorem ggL_law_X12_judge : GoodIn wsL_law wsX12_judge := goodIn_r _ [913, 53, 332, 333, 334, 5, 335, 51, 52, 336, 337, 338, 339, 340, 341, 342, 827, 828, 829, 830, 47, 50, 357, 358, 359, 914, 915, 916, 917, 868, 869, 870, 871, 54, 395, 396, 397, 398, 368, 369, 370, 371, 403, 404, 405, 406, 407, 408, 409, 410, 380, 381, 382, 411, 412, 413, 414, 399, 400, 401, 402, 376, 377, 378, 379, 415, 416, 417, 418, 419, 420, 421, 422, 372, 373, 374, 375, 423, 424, 425, 426, 427, 428, 429, 430, 364, 365, 366, 367, 391, 392, 393, 394, 831, 832, 833, 834, 1087, 1088, 1089, 1090, 1091, 1092, 1093, 1094, 1095, 1096, 1097, 1098, 1099, 1100, 1101, 1102, 1103, 1104, 1105, 1106] (by decide +kernel) (by decide +kernel)
set_option maxRecDepth 20000 in
theorem gL_law_X12_judge : GoodIn wsL_law (wsV RL 115 RX12 yX12_judge wsX12_judge) := goodIn_app (goodIn_of _ (by decide +kernel)) ggL_law_X12_judge
set_option maxRecDepth 20000 in
theorem ggL_law_X11_image : GoodIn wsL_law wsX11_image := goodIn_r _ [921, 18, 16, 922, 108, 109, 110, 15, 111, 112, 113, 114, 115, 116, 31, 117, 118, 119, 120, 32, 33, 34, 36, 859, 860, 861, 862, 863, 557, 558, 559, 560, 561, 562, 1080, 1081, 1082, 1083, 1084, 1085, 1086, 1107, 1108, 1109, 1110, 1111, 1112, 1113, 1114, 1115, 1116] (by decide +kernel) (by decide +kernel)
set_option maxRecDepth 20000 in
theorem gL_law_X11_image : GoodIn wsL_law (wsV RL 116 RX11 yX11_image wsX11_image) := goodIn_app (goodIn_of _ (by decide +kernel)) ggL_law_X11_image
set_option maxRecDepth 20000 in
theorem ggL_law_X12_image : GoodIn wsL_law wsX12_image := goodIn_r _ [926, 47, 48, 927, 357, 358, 5, 359, 575, 576, 577, 1087, 1088, 1089, 1090, 1091, 1092, 1093, 1094, 1095, 1096, 1097, 1098, 1099, 1100, 1101, 1102, 1103, 1104, 1105, 1106] (by decide +kernel) (by decide +kernel)
set_option maxRecDepth 20000 in
theorem gL_law_X12_image : GoodIn wsL_law (wsV RL 119 RX12 yX12_image wsX12_image) := goodIn_app (goodIn_of _ (by decide +kernel)) ggL_law_X12_image
set_option maxRecDepth 20000 in
theorem ggL_law_X11_restore : GoodIn wsL_law wsX11_restore := goodIn_r _ [931, 922, 16, 18, 108, 109, 110, 15, 111, 112, 113, 114, 115, 116, 31, 117, 118, 119, 120, 32, 33, 34, 36, 859, 860, 861, 862, 863, 557, 558, 559, 560, 561, 562, 1080, 1081, 1082, 1083, 1084, 1085, 1086, 1107, 1108, 1109, 1110, 1111, 1112, 1113, 1114, 1115, 1116] (by decide +kernel) (by decide +kernel)
set_option maxRecDepth 20000 in
theorem gL_law_X11_restore : GoodIn wsL_law (wsV RL 120 RX11 yX11_restore wsX11_restore) := goodIn_app (goodIn_of _ (by decide +kernel)) ggL_law_X11_restore
set_option maxRecDepth 20000 in
theorem ggL_law_X12_restore : GoodIn wsL_law wsX12_restore := goodIn_r _ [935, 927, 48, 47, 357, 358, 5, 359, 575, 576, 577, 1087, 1088, 1089, 1090, 1091, 1092, 1093, 1094, 1095, 1096, 1097, 1098, 1099, 1100, 1101, 1102, 1103, 1104, 1105, 1106] (by decide +kernel) (by decide +kernel)
set_option maxRecDepth 20000 in
theorem gL_law_X12_restore : GoodIn wsL_law (wsV RL 123 RX12 yX12_restore wsX12_restore) := goodIn_app (goodIn_of _ (by decide +kernel)) ggL_law_X12_restore
set_option maxRecDepth 20000 in
theorem ggL_law_X11_count : GoodIn wsL_law wsX11_count := goodIn_r _ [939, 16, 884, 699, 700, 15, 701, 112, 880, 881, 882, 883, 113, 940, 941, 942, 943, 116, 859, 860, 861, 862, 114, 863, 557, 558, 559, 560, 561, 562, 944, 945, 946, 947, 115, 1080, 1081, 1082, 1083, 1084, 1085, 1086, 1107, 1108, 1109, 1110, 1111, 1112, 1113, 1114, 1115, 1116] (by decide +kernel) (by decide +kernel)
set_option maxRecDepth 20000 in
theorem gL_law_X11_count : GoodIn wsL_law (wsV RL 124 RX11 yX11_count wsX11_count) := goodIn_app (goodIn_of _ (by decide +kernel)) ggL_law_X11_count
set_option maxRecDepth 20000 in
theorem ggL_law_X12_count : GoodIn wsL_law wsX12_count := goodIn_r _ [951, 47, 575, 576, 5, 577, 1087, 1088, 1089, 1090, 1091, 1092, 1093, 1094, 1095, 1096, 1097, 1098, 1099, 1100, 1101, 1102, 1103, 1104, 1105, 1106] (by decide +kernel) (by decide +kernel)
set_option maxRecDepth 20000 in
theorem gL_law_X12_count : GoodIn wsL_law (wsV RL 127 RX12 yX12_count wsX12_count) := goodIn_app (goodIn_of _ (by decide +kernel)) ggL_law_X12_count
set_option maxRecDepth 20000 in
theorem ggL_law_X11_keep : GoodIn wsL_law wsX11_keep := goodIn_r _ [955, 73, 74, 2, 75, 956, 957, 958, 959, 24, 26, 819, 820, 821, 152, 153, 154, 23, 155, 156, 157, 158, 159, 160, 161, 162, 163, 164, 165, 166, 167, 168, 169, 170, 171, 172, 173, 174, 175, 176, 177, 178, 179, 180, 181, 11, 12, 182, 183, 184, 185, 186, 187, 188, 189, 190, 191, 192, 193, 194, 195, 196, 197, 198, 199, 200, 201, 202, 203, 204, 205, 206, 207, 208, 209, 210, 211, 1080, 1081, 1082, 1083, 1084, 1085, 1086, 1123, 1124, 1125, 1126, 1127, 1128, 1129, 1130, 1131, 1132, 1133, 1134, 1135, 1136, 1137, 1138] (by decide +kernel) (by decide +kernel)
set_option maxRecDepth 20000 in
theorem gL_law_X11_keep : GoodIn wsL_law (wsV RL 128 RX11 yX11_keep wsX11_keep) := goodIn_app (goodIn_of _ (by decide +kernel)) ggL_law_X11_keep
set_option maxRecDepth 20000 in
theorem ggL_law_X12_keep : GoodIn wsL_law wsX12_keep := goodIn_r _ [963, 339, 826, 51, 55, 56, 336, 337, 5, 338, 340, 341, 342, 1087, 1088, 1089, 1090, 1091, 1092, 1093, 1094, 1095, 1096, 1097, 1098, 1099, 1100, 1101, 1102, 1103, 1104, 1105, 1106] (by decide +kernel) (by decide +kernel)
set_option maxRecDepth 20000 in
theorem gL_law_X12_keep : GoodIn wsL_law (wsV RL 132 RX12 yX12_keep wsX12_keep) := goodIn_app (goodIn_of _ (by decide +kernel)) ggL_law_X12_keep
set_option maxRecDepth 20000 in
theorem ggL_law_X11_row : GoodIn wsL_law wsX11_row := goodIn_r _ [967, 25, 968, 87, 30, 73, 74, 2, 75, 969, 970, 971, 972, 11, 12, 89, 97, 956, 957, 958, 959, 24, 26, 1121, 1122, 1080, 1081, 1082, 1083, 1084, 1085, 1086] (by decide +kernel) (by decide +kernel)
set_option maxRecDepth 20000 in
theorem gL_law_X11_row : GoodIn wsL_law (wsV RL 133 RX11 yX11_row wsX11_row) := goodIn_app (goodIn_of _ (by decide +kernel)) ggL_law_X11_row
set_option maxRecDepth 20000 in
theorem ggL_law_X12_row : GoodIn wsL_law wsX12_row := goodIn_r _ [976, 977, 51, 52, 53, 54, 336, 337, 5, 338, 339, 340, 341, 342, 1087, 1088, 1089, 1090, 1091, 1092, 1093, 1094, 1095, 1096, 1097, 1098, 1099, 1100, 1101, 1102, 1103, 1104, 1105, 1106] (by decide +kernel) (by decide +kernel)
set_option maxRecDepth 20000 in
theorem gL_law_X12_row : GoodIn wsL_law (wsV RL 137 RX12 yX12_row wsX12_row) := goodIn_app (goodIn_of _ (by decide +kernel)) ggL_law_X12_row
set_option maxRecDepth 20000 in
theorem ggL_law_X11_put : GoodIn wsL_law wsX11_put := goodIn_r _ [981, 65, 66, 67, 2, 68, 26, 69, 70, 71, 72, 73, 74, 75, 76, 77, 78, 79, 80, 81, 82, 83, 24, 982, 983, 984, 87, 985, 97, 986, 987, 988, 989, 990, 991, 992, 993, 89, 1080, 1081, 1082, 1083, 1084, 1085, 1086, 1121, 1122] (by decide +kernel) (by decide +kernel)
set_option maxRecDepth 20000 in
theorem gL_law_X11_put : GoodIn wsL_law (wsV RL 138 RX11 yX11_put wsX11_put) := goodIn_app (goodIn_of _ (by decide +kernel)) ggL_law_X11_put
set_option maxRecDepth 20000 in
theorem ggL_law_X12_put : GoodIn wsL_law wsX12_put := goodIn_r _ [997, 53, 54, 52, 332, 333, 334, 5, 335, 51, 336, 337, 338, 339, 340, 341, 342, 1087, 1088, 1089, 1090, 1091, 1092, 1093, 1094, 1095, 1096, 1097, 1098, 1099, 1100, 1101, 1102, 1103, 1104, 1105, 1106] (by decide +kernel) (by decide +kernel)
set_option maxRecDepth 20000 in
theorem gL_law_X12_put : GoodIn wsL_law (wsV RL 141 RX12 yX12_put wsX12_put) := goodIn_app (goodIn_of _ (by decide +kernel)) ggL_law_X12_put
set_option maxRecDepth 20000 in
theorem ggL_law_L_element : GoodIn wsL_law wsL_element := goodIn_ca (goodIn_ca (goodIn_r _ [1001, 1002, 1003, 1004, 1005, 1006, 2, 1007, 1008, 1009, 1010, 1011, 73, 74, 75, 65, 66, 67, 68, 26, 982, 983, 984, 87, 985, 97, 93, 94, 95, 96, 1080, 1081, 1082, 1083, 1084, 1085, 1086, 1121, 1122] (by decide +kernel) (by decide +kernel)) (goodIn_sub (fun _ h => List.mem_append_left _ (List.mem_append_left _ (List.mem_append_left _ (List.mem_append_left _ (List.mem_append_left _ (List.mem_append_right _ h)))))) (by decide +kernel))) (goodIn_sub (fun _ h => List.mem_append_left _ (List.mem_append_left _ (List.mem_append_left _ (List.mem_append_left _ (List.mem_append_right _ h))))) (by decide +kernel))
set_option maxRecDepth 20000 in
theorem gL_law_L_element : GoodIn wsL_law (va_wsS RL 142 yL_element wsL_element) := goodIn_app (goodIn_of _ (by decide +kernel)) ggL_law_L_element
set_option maxRecDepth 20000 in
theorem ggL_law_X12_element : GoodIn wsL_law wsX12_element := goodIn_r _ [1015, 51, 53, 1016, 54, 336, 337, 5, 338, 339, 340, 341, 342, 1087, 1088, 1089, 1090, 1091, 1092, 1093, 1094, 1095, 1096, 1097, 1098, 1099, 1100, 1101, 1102, 1103, 1104, 1105, 1106] (by decide +kernel) (by decide +kernel)
set_option maxRecDepth 20000 in
theorem gL_law_X12_element : GoodIn wsL_law (wsV RL 147 RX12 yX12_element wsX12_element) := goodIn_app (goodIn_of _ (by decide +kernel)) ggL_law_X12_element
set_option maxRecDepth 20000 in
theorem ggL_law_X12_thrown : GoodIn wsL_law wsX12_thrown := goodIn_r _ [1020, 1016, 1087, 1088, 1089, 1090, 1091, 1092, 1093, 1094, 1095, 1096, 1097, 1098, 1099, 1100, 1101, 1102, 1103, 1104, 1105, 1106] (by decide +kernel) (by decide +kernel)
set_option maxRecDepth 20000 in
theorem gL_law_X12_thrown : GoodIn wsL_law (wsV RL 148 RX12 yX12_thrown wsX12_thrown) := goodIn_app (goodIn_of _ (by decide +kernel)) ggL_law_X12_thrown
set_option maxRecDepth 20000 in
theorem ggL_law_X11_copy : GoodIn wsL_law wsX11_copy := goodIn_r _ [1024, 1025, 118, 119, 120, 73, 74, 2, 75, 76, 77, 78, 79, 65, 66, 67, 68, 26, 80, 81, 82, 83, 24, 84, 85, 86, 87, 88, 89, 1026, 1027, 1028, 1029, 97, 1121, 1122, 1080, 1081, 1082, 1083, 1084, 1085, 1086] (by decide +kernel) (by decide +kernel)
set_option maxRecDepth 20000 in
theorem gL_law_X11_copy : GoodIn wsL_law (wsV RL 151 RX11 yX11_copy wsX11_copy) := goodIn_app (goodIn_of _ (by decide +kernel)) ggL_law_X11_copy
set_option maxRecDepth 20000 in
theorem ggL_law_X12_copy : GoodIn wsL_law wsX12_copy := goodIn_r _ [1033, 51, 52, 53, 54, 336, 337, 5, 338, 339, 340, 341, 342, 1087, 1088, 1089, 1090, 1091, 1092, 1093, 1094, 1095, 1096, 1097, 1098, 1099, 1100, 1101, 1102, 1103, 1104, 1105, 1106] (by decide +kernel) (by decide +kernel)
set_option maxRecDepth 20000 in
theorem gL_law_X12_copy : GoodIn wsL_law (wsV RL 155 RX12 yX12_copy wsX12_copy) := goodIn_app (goodIn_of _ (by decide +kernel)) ggL_law_X12_copy
set_option maxRecDepth 20000 in
theorem ggL_law_X11_price : GoodIn wsL_law wsX11_price := goodIn_r _ [1037, 80, 81, 82, 2, 83, 24, 69, 70, 71, 72, 73, 74, 75, 76, 77, 78, 79, 65, 66, 67, 68, 26, 458, 459, 460, 461, 462, 177, 463, 464, 465, 253, 466, 168, 467, 256, 257, 468, 259, 469, 156, 470, 471, 472, 165, 473, 474, 475, 476, 477, 159, 478, 479, 480, 481, 482, 483, 484, 485, 486, 171, 487, 488, 278, 489, 490, 174, 491, 492, 493, 286, 494, 162, 495, 496, 497, 498, 290, 499, 1080, 1081, 1082, 1083, 1084, 1085, 1086, 1137, 1138, 1129, 1130, 1123, 1124, 1125, 1126, 1131, 1132, 1133, 1134, 1135, 1136, 1127, 1128] (by decide +kernel) (by decide +kernel)
set_option maxRecDepth 20000 in
theorem gL_law_X11_price : GoodIn wsL_law (wsV RL 156 RX11 yX11_price wsX11_price) := goodIn_app (goodIn_of _ (by decide +kernel)) ggL_law_X11_price
set_option maxRecDepth 20000 in
theorem ggL_law_X12_price : GoodIn wsL_law wsX12_price := goodIn_r _ [1041, 55, 56, 519, 520, 521, 5, 522, 51, 336, 337, 338, 339, 340, 341, 342, 508, 509, 510, 1087, 1088, 1089, 1090, 1091, 1092, 1093, 1094, 1095, 1096, 1097, 1098, 1099, 1100, 1101, 1102, 1103, 1104, 1105, 1106] (by decide +kernel) (by decide +kernel)
set_option maxRecDepth 20000 in
theorem gL_law_X12_price : GoodIn wsL_law (wsV RL 159 RX12 yX12_price wsX12_price) := goodIn_app (goodIn_of _ (by decide +kernel)) ggL_law_X12_price
set_option maxRecDepth 20000 in
theorem ggL_law_X11_toss : GoodIn wsL_law wsX11_toss := goodIn_ca (goodIn_ca (goodIn_ca (goodIn_ca (goodIn_r _ [1045, 1010, 1008, 1046, 454, 80, 81, 82, 2, 83, 24, 69, 70, 71, 72, 73, 74, 75, 76, 77, 78, 79, 65, 66, 67, 68, 26, 1047, 1048, 1049, 1050, 156, 1051, 1052, 1011, 183, 1053, 1054, 1055, 165, 1056, 1057, 1058, 1059, 1060, 159, 1061, 1062, 1009, 1063, 1064, 1065, 1066, 1067, 171, 1068, 1069, 274, 275, 1070, 1071, 174, 1072, 1073, 1074, 282, 283, 1075, 458, 459, 460, 461, 462, 177, 463, 464, 465, 253, 466, 168, 467, 256, 257, 468, 259, 469, 470, 471, 472, 473, 474, 475, 476, 477, 478, 479, 480, 481, 482, 483, 484, 485, 486, 487, 488, 278, 489, 490, 491, 492, 493, 286, 494, 162, 495, 496, 497, 498, 290, 499, 1137, 1138, 1129, 1130, 1123, 1124, 1125, 1126, 1131, 1132, 1133, 1134, 1135, 1136, 1127, 1128, 1080, 1081, 1082, 1083, 1084, 1085, 1086] (by decide +kernel) (by decide +kernel)) (goodIn_sub (fun _ h => List.mem_append_left _ (List.mem_append_left _ (List.mem_append_left _ (List.mem_append_right _ h)))) (by decide +kernel))) (goodIn_sub (fun _ h => List.mem_append_left _ (List.mem_append_left _ (List.mem_append_right _ h))) (by decide +kernel))) (goodIn_sub (fun _ h => List.mem_append_left _ (List.mem_append_right _ h)) (by decide +kernel))) (goodIn_sub (fun _ h => List.mem_append_right _ h) (by decide +kernel))
set_option maxRecDepth 20000 in
theorem gL_law_X11_toss : GoodIn wsL_law (wsV RL 160 RX11 yX11_toss wsX11_toss) := goodIn_app (goodIn_of _ (by decide +kernel)) ggL_law_X11_toss
set_option maxRecDepth 20000 in
theorem ggL_law_X12_toss : GoodIn wsL_law wsX12_toss := goodIn_r _ [1079, 55, 56, 519, 520, 521, 5, 522, 51, 336, 337, 338, 339, 340, 341, 342, 508, 509, 510, 1087, 1088, 1089, 1090, 1091, 1092, 1093, 1094, 1095, 1096, 1097, 1098, 1099, 1100, 1101, 1102, 1103, 1104, 1105, 1106] (by decide +kernel) (by decide +kernel)
set_option maxRecDepth 20000 in
theorem gL_law_X12_toss : GoodIn wsL_law (wsV RL 163 RX12 yX12_toss wsX12_toss) := goodIn_app (goodIn_of _ (by decide +kernel)) ggL_law_X12_toss
theorem dL_law_0 : decode cL_law 0 = .ok (.new 8, 3) := by decide +kernel
theorem dL_law_3 : decode cL_law 3 = .ok (.dup, 1) := by decide +kernel
theorem dL_law_4 : decode cL_law 4 = .ok (.invokespecial 17, 3) := by decide +kernel
theorem dL_law_7 : decode cL_law 7 = .ok (.astore_n 1, 1) := by decide +kernel
theorem dL_law_8 : decode cL_law 8 = .ok (.new 18, 3) := by decide +kernel
theorem dL_law_11 : decode cL_law 11 = .ok (.dup, 1) := by decide +kernel
theorem dL_law_12 : decode cL_law 12 = .ok (.invokespecial 20, 3) := by decide +kernel
theorem dL_law_15 : decode cL_law 15 = .ok (.astore_n 2, 1) := by decide +kernel
theorem dL_law_16 : decode cL_law 16 = .ok (.iconst 1, 1) := by decide +kernel
theorem dL_law_17 : decode cL_law 17 = .ok (.newarray .long, 2) := by decide +kernel
theorem dL_law_19 : decode cL_law 19 = .ok (.astore_n 3, 1) := by decide +kernel
theorem dL_law_20 : decode cL_law 20 = .ok (.iconst 0, 1) := by decide +kernel
theorem dL_law_21 : decode cL_law 21 = .ok (.istore 4, 2) := by decide +kernel
theorem dL_law_23 : decode cL_law 23 = .ok (.iload 4, 2) := by decide +kernel
theorem dL_law_25 : decode cL_law 25 = .ok (.aload_n 0, 1) := by decide +kernel
theorem dL_law_26 : decode cL_law 26 = .ok (.arraylength, 1) := by decide +kernel
theorem dL_law_27 : decode cL_law 27 = .ok (.bipush 6, 2) := by decide +kernel
theorem dL_law_29 : decode cL_law 29 = .ok (.isub, 1) := by decide +kernel
theorem dL_law_30 : decode cL_law 30 = .ok (.if_icmp .gt 1199, 3) := by decide +kernel
theorem dL_law_33 : decode cL_law 33 = .ok (.aload_n 0, 1) := by decide +kernel
theorem dL_law_34 : decode cL_law 34 = .ok (.iload 4, 2) := by decide +kernel
theorem dL_law_36 : decode cL_law 36 = .ok (.iaload, 1) := by decide +kernel
theorem dL_law_37 : decode cL_law 37 = .ok (.bipush 63, 2) := by decide +kernel
theorem dL_law_39 : decode cL_law 39 = .ok (.iand, 1) := by decide +kernel
theorem dL_law_40 : decode cL_law 40 = .ok (.tableswitch 1183 0 32 #[148, 173, 210, 247, 272, 309, 346, 371, 396, 421, 458, 483, 496, 509, 534, 559, 584, 597, 622, 659, 684, 721, 758, 783, 796, 809, 834, 895, 944, 993, 1060, 1133, 1158], 148) := by decide +kernel
theorem dL_law_188 : decode cL_law 188 = .ok (.aload_n 1, 1) := by decide +kernel
theorem dL_law_189 : decode cL_law 189 = .ok (.aload_n 0, 1) := by decide +kernel
theorem dL_law_190 : decode cL_law 190 = .ok (.iload 4, 2) := by decide +kernel
theorem dL_law_192 : decode cL_law 192 = .ok (.iconst 1, 1) := by decide +kernel
theorem dL_law_193 : decode cL_law 193 = .ok (.iadd, 1) := by decide +kernel
theorem dL_law_194 : decode cL_law 194 = .ok (.iaload, 1) := by decide +kernel
theorem dL_law_195 : decode cL_law 195 = .ok (.invokevirtual 21, 3) := by decide +kernel
theorem dL_law_198 : decode cL_law 198 = .ok (.aload_n 2, 1) := by decide +kernel
theorem dL_law_199 : decode cL_law 199 = .ok (.aload_n 0, 1) := by decide +kernel
theorem dL_law_200 : decode cL_law 200 = .ok (.iload 4, 2) := by decide +kernel
theorem dL_law_202 : decode cL_law 202 = .ok (.iconst 1, 1) := by decide +kernel
theorem dL_law_203 : decode cL_law 203 = .ok (.iadd, 1) := by decide +kernel
theorem dL_law_204 : decode cL_law 204 = .ok (.iaload, 1) := by decide +kernel
theorem dL_law_205 : decode cL_law 205 = .ok (.invokevirtual 25, 3) := by decide +kernel
theorem dL_law_208 : decode cL_law 208 = .ok (.if_icmp .eq 1015, 3) := by decide +kernel
theorem dL_law_211 : decode cL_law 211 = .ok (.iconst 0, 1) := by decide +kernel
theorem dL_law_212 : decode cL_law 212 = .ok (.ireturn, 1) := by decide +kernel
theorem dL_law_213 : decode cL_law 213 = .ok (.aload_n 1, 1) := by decide +kernel
theorem dL_law_214 : decode cL_law 214 = .ok (.aload_n 0, 1) := by decide +kernel
theorem dL_law_215 : decode cL_law 215 = .ok (.iload 4, 2) := by decide +kernel
theorem dL_law_217 : decode cL_law 217 = .ok (.iconst 1, 1) := by decide +kernel
theorem dL_law_218 : decode cL_law 218 = .ok (.iadd, 1) := by decide +kernel
theorem dL_law_219 : decode cL_law 219 = .ok (.iaload, 1) := by decide +kernel
theorem dL_law_220 : decode cL_law 220 = .ok (.aload_n 0, 1) := by decide +kernel
theorem dL_law_221 : decode cL_law 221 = .ok (.iload 4, 2) := by decide +kernel
theorem dL_law_223 : decode cL_law 223 = .ok (.iconst 2, 1) := by decide +kernel
theorem dL_law_224 : decode cL_law 224 = .ok (.iadd, 1) := by decide +kernel
theorem dL_law_225 : decode cL_law 225 = .ok (.iaload, 1) := by decide +kernel
theorem dL_law_226 : decode cL_law 226 = .ok (.invokevirtual 26, 3) := by decide +kernel
theorem dL_law_229 : decode cL_law 229 = .ok (.aload_n 2, 1) := by decide +kernel
theorem dL_law_230 : decode cL_law 230 = .ok (.aload_n 0, 1) := by decide +kernel
theorem dL_law_231 : decode cL_law 231 = .ok (.iload 4, 2) := by decide +kernel
theorem dL_law_233 : decode cL_law 233 = .ok (.iconst 1, 1) := by decide +kernel
theorem dL_law_234 : decode cL_law 234 = .ok (.iadd, 1) := by decide +kernel
theorem dL_law_235 : decode cL_law 235 = .ok (.iaload, 1) := by decide +kernel
theorem dL_law_236 : decode cL_law 236 = .ok (.aload_n 0, 1) := by decide +kernel
theorem dL_law_237 : decode cL_law 237 = .ok (.iload 4, 2) := by decide +kernel
theorem dL_law_239 : decode cL_law 239 = .ok (.iconst 2, 1) := by decide +kernel
theorem dL_law_240 : decode cL_law 240 = .ok (.iadd, 1) := by decide +kernel
theorem dL_law_241 : decode cL_law 241 = .ok (.iaload, 1) := by decide +kernel
theorem dL_law_242 : decode cL_law 242 = .ok (.invokevirtual 30, 3) := by decide +kernel
theorem dL_law_245 : decode cL_law 245 = .ok (.if_icmp .eq 978, 3) := by decide +kernel
theorem dL_law_248 : decode cL_law 248 = .ok (.iconst 0, 1) := by decide +kernel
theorem dL_law_249 : decode cL_law 249 = .ok (.ireturn, 1) := by decide +kernel
theorem dL_law_250 : decode cL_law 250 = .ok (.aload_n 1, 1) := by decide +kernel
theorem dL_law_251 : decode cL_law 251 = .ok (.aload_n 0, 1) := by decide +kernel
theorem dL_law_252 : decode cL_law 252 = .ok (.iload 4, 2) := by decide +kernel
theorem dL_law_254 : decode cL_law 254 = .ok (.iconst 1, 1) := by decide +kernel
theorem dL_law_255 : decode cL_law 255 = .ok (.iadd, 1) := by decide +kernel
theorem dL_law_256 : decode cL_law 256 = .ok (.iaload, 1) := by decide +kernel
theorem dL_law_257 : decode cL_law 257 = .ok (.aload_n 0, 1) := by decide +kernel
theorem dL_law_258 : decode cL_law 258 = .ok (.iload 4, 2) := by decide +kernel
theorem dL_law_260 : decode cL_law 260 = .ok (.iconst 2, 1) := by decide +kernel
theorem dL_law_261 : decode cL_law 261 = .ok (.iadd, 1) := by decide +kernel
theorem dL_law_262 : decode cL_law 262 = .ok (.iaload, 1) := by decide +kernel
theorem dL_law_263 : decode cL_law 263 = .ok (.invokevirtual 31, 3) := by decide +kernel
theorem dL_law_266 : decode cL_law 266 = .ok (.aload_n 2, 1) := by decide +kernel
theorem dL_law_267 : decode cL_law 267 = .ok (.aload_n 0, 1) := by decide +kernel
theorem dL_law_268 : decode cL_law 268 = .ok (.iload 4, 2) := by decide +kernel
theorem dL_law_270 : decode cL_law 270 = .ok (.iconst 1, 1) := by decide +kernel
theorem dL_law_271 : decode cL_law 271 = .ok (.iadd, 1) := by decide +kernel
theorem dL_law_272 : decode cL_law 272 = .ok (.iaload, 1) := by decide +kernel
theorem dL_law_273 : decode cL_law 273 = .ok (.aload_n 0, 1) := by decide +kernel
theorem dL_law_274 : decode cL_law 274 = .ok (.iload 4, 2) := by decide +kernel
theorem dL_law_276 : decode cL_law 276 = .ok (.iconst 2, 1) := by decide +kernel
theorem dL_law_277 : decode cL_law 277 = .ok (.iadd, 1) := by decide +kernel
theorem dL_law_278 : decode cL_law 278 = .ok (.iaload, 1) := by decide +kernel
theorem dL_law_279 : decode cL_law 279 = .ok (.invokevirtual 34, 3) := by decide +kernel
theorem dL_law_282 : decode cL_law 282 = .ok (.if_icmp .eq 941, 3) := by decide +kernel
theorem dL_law_285 : decode cL_law 285 = .ok (.iconst 0, 1) := by decide +kernel
theorem dL_law_286 : decode cL_law 286 = .ok (.ireturn, 1) := by decide +kernel
theorem dL_law_287 : decode cL_law 287 = .ok (.aload_n 1, 1) := by decide +kernel
theorem dL_law_288 : decode cL_law 288 = .ok (.aload_n 0, 1) := by decide +kernel
theorem dL_law_289 : decode cL_law 289 = .ok (.iload 4, 2) := by decide +kernel
theorem dL_law_291 : decode cL_law 291 = .ok (.iconst 1, 1) := by decide +kernel
theorem dL_law_292 : decode cL_law 292 = .ok (.iadd, 1) := by decide +kernel
theorem dL_law_293 : decode cL_law 293 = .ok (.iaload, 1) := by decide +kernel
theorem dL_law_294 : decode cL_law 294 = .ok (.invokevirtual 35, 3) := by decide +kernel
theorem dL_law_297 : decode cL_law 297 = .ok (.aload_n 2, 1) := by decide +kernel
theorem dL_law_298 : decode cL_law 298 = .ok (.aload_n 0, 1) := by decide +kernel
theorem dL_law_299 : decode cL_law 299 = .ok (.iload 4, 2) := by decide +kernel
theorem dL_law_301 : decode cL_law 301 = .ok (.iconst 1, 1) := by decide +kernel
theorem dL_law_302 : decode cL_law 302 = .ok (.iadd, 1) := by decide +kernel
theorem dL_law_303 : decode cL_law 303 = .ok (.iaload, 1) := by decide +kernel
theorem dL_law_304 : decode cL_law 304 = .ok (.invokevirtual 38, 3) := by decide +kernel
theorem dL_law_307 : decode cL_law 307 = .ok (.if_icmp .eq 916, 3) := by decide +kernel
theorem dL_law_310 : decode cL_law 310 = .ok (.iconst 0, 1) := by decide +kernel
theorem dL_law_311 : decode cL_law 311 = .ok (.ireturn, 1) := by decide +kernel
theorem dL_law_312 : decode cL_law 312 = .ok (.aload_n 1, 1) := by decide +kernel
theorem dL_law_313 : decode cL_law 313 = .ok (.aload_n 0, 1) := by decide +kernel
theorem dL_law_314 : decode cL_law 314 = .ok (.iload 4, 2) := by decide +kernel
theorem dL_law_316 : decode cL_law 316 = .ok (.iconst 1, 1) := by decide +kernel
theorem dL_law_317 : decode cL_law 317 = .ok (.iadd, 1) := by decide +kernel
theorem dL_law_318 : decode cL_law 318 = .ok (.iaload, 1) := by decide +kernel
theorem dL_law_319 : decode cL_law 319 = .ok (.aload_n 0, 1) := by decide +kernel
theorem dL_law_320 : decode cL_law 320 = .ok (.iload 4, 2) := by decide +kernel
theorem dL_law_322 : decode cL_law 322 = .ok (.iconst 2, 1) := by decide +kernel
theorem dL_law_323 : decode cL_law 323 = .ok (.iadd, 1) := by decide +kernel
theorem dL_law_324 : decode cL_law 324 = .ok (.iaload, 1) := by decide +kernel
theorem dL_law_325 : decode cL_law 325 = .ok (.invokevirtual 39, 3) := by decide +kernel
theorem dL_law_328 : decode cL_law 328 = .ok (.aload_n 2, 1) := by decide +kernel
theorem dL_law_329 : decode cL_law 329 = .ok (.aload_n 0, 1) := by decide +kernel
theorem dL_law_330 : decode cL_law 330 = .ok (.iload 4, 2) := by decide +kernel
theorem dL_law_332 : decode cL_law 332 = .ok (.iconst 1, 1) := by decide +kernel
theorem dL_law_333 : decode cL_law 333 = .ok (.iadd, 1) := by decide +kernel
theorem dL_law_334 : decode cL_law 334 = .ok (.iaload, 1) := by decide +kernel
theorem dL_law_335 : decode cL_law 335 = .ok (.aload_n 0, 1) := by decide +kernel
theorem dL_law_336 : decode cL_law 336 = .ok (.iload 4, 2) := by decide +kernel
theorem dL_law_338 : decode cL_law 338 = .ok (.iconst 2, 1) := by decide +kernel
theorem dL_law_339 : decode cL_law 339 = .ok (.iadd, 1) := by decide +kernel
theorem dL_law_340 : decode cL_law 340 = .ok (.iaload, 1) := by decide +kernel
theorem dL_law_341 : decode cL_law 341 = .ok (.invokevirtual 42, 3) := by decide +kernel
theorem dL_law_344 : decode cL_law 344 = .ok (.if_icmp .eq 879, 3) := by decide +kernel
theorem dL_law_347 : decode cL_law 347 = .ok (.iconst 0, 1) := by decide +kernel
theorem dL_law_348 : decode cL_law 348 = .ok (.ireturn, 1) := by decide +kernel
theorem dL_law_349 : decode cL_law 349 = .ok (.aload_n 1, 1) := by decide +kernel
theorem dL_law_350 : decode cL_law 350 = .ok (.aload_n 0, 1) := by decide +kernel
theorem dL_law_351 : decode cL_law 351 = .ok (.iload 4, 2) := by decide +kernel
theorem dL_law_353 : decode cL_law 353 = .ok (.iconst 1, 1) := by decide +kernel
theorem dL_law_354 : decode cL_law 354 = .ok (.iadd, 1) := by decide +kernel
theorem dL_law_355 : decode cL_law 355 = .ok (.iaload, 1) := by decide +kernel
theorem dL_law_356 : decode cL_law 356 = .ok (.aload_n 0, 1) := by decide +kernel
theorem dL_law_357 : decode cL_law 357 = .ok (.iload 4, 2) := by decide +kernel
theorem dL_law_359 : decode cL_law 359 = .ok (.iconst 2, 1) := by decide +kernel
theorem dL_law_360 : decode cL_law 360 = .ok (.iadd, 1) := by decide +kernel
theorem dL_law_361 : decode cL_law 361 = .ok (.iaload, 1) := by decide +kernel
theorem dL_law_362 : decode cL_law 362 = .ok (.invokevirtual 43, 3) := by decide +kernel
theorem dL_law_365 : decode cL_law 365 = .ok (.aload_n 2, 1) := by decide +kernel
theorem dL_law_366 : decode cL_law 366 = .ok (.aload_n 0, 1) := by decide +kernel
theorem dL_law_367 : decode cL_law 367 = .ok (.iload 4, 2) := by decide +kernel
theorem dL_law_369 : decode cL_law 369 = .ok (.iconst 1, 1) := by decide +kernel
theorem dL_law_370 : decode cL_law 370 = .ok (.iadd, 1) := by decide +kernel
theorem dL_law_371 : decode cL_law 371 = .ok (.iaload, 1) := by decide +kernel
theorem dL_law_372 : decode cL_law 372 = .ok (.aload_n 0, 1) := by decide +kernel
theorem dL_law_373 : decode cL_law 373 = .ok (.iload 4, 2) := by decide +kernel
theorem dL_law_375 : decode cL_law 375 = .ok (.iconst 2, 1) := by decide +kernel
theorem dL_law_376 : decode cL_law 376 = .ok (.iadd, 1) := by decide +kernel
theorem dL_law_377 : decode cL_law 377 = .ok (.iaload, 1) := by decide +kernel
theorem dL_law_378 : decode cL_law 378 = .ok (.invokevirtual 46, 3) := by decide +kernel
theorem dL_law_381 : decode cL_law 381 = .ok (.if_icmp .eq 842, 3) := by decide +kernel
theorem dL_law_384 : decode cL_law 384 = .ok (.iconst 0, 1) := by decide +kernel
theorem dL_law_385 : decode cL_law 385 = .ok (.ireturn, 1) := by decide +kernel
theorem dL_law_386 : decode cL_law 386 = .ok (.aload_n 1, 1) := by decide +kernel
theorem dL_law_387 : decode cL_law 387 = .ok (.aload_n 0, 1) := by decide +kernel
theorem dL_law_388 : decode cL_law 388 = .ok (.iload 4, 2) := by decide +kernel
theorem dL_law_390 : decode cL_law 390 = .ok (.iconst 1, 1) := by decide +kernel
theorem dL_law_391 : decode cL_law 391 = .ok (.iadd, 1) := by decide +kernel
theorem dL_law_392 : decode cL_law 392 = .ok (.iaload, 1) := by decide +kernel
theorem dL_law_393 : decode cL_law 393 = .ok (.invokevirtual 47, 3) := by decide +kernel
theorem dL_law_396 : decode cL_law 396 = .ok (.aload_n 2, 1) := by decide +kernel
theorem dL_law_397 : decode cL_law 397 = .ok (.aload_n 0, 1) := by decide +kernel
theorem dL_law_398 : decode cL_law 398 = .ok (.iload 4, 2) := by decide +kernel
theorem dL_law_400 : decode cL_law 400 = .ok (.iconst 1, 1) := by decide +kernel
theorem dL_law_401 : decode cL_law 401 = .ok (.iadd, 1) := by decide +kernel
theorem dL_law_402 : decode cL_law 402 = .ok (.iaload, 1) := by decide +kernel
theorem dL_law_403 : decode cL_law 403 = .ok (.invokevirtual 50, 3) := by decide +kernel
theorem dL_law_406 : decode cL_law 406 = .ok (.if_icmp .eq 817, 3) := by decide +kernel
theorem dL_law_409 : decode cL_law 409 = .ok (.iconst 0, 1) := by decide +kernel
theorem dL_law_410 : decode cL_law 410 = .ok (.ireturn, 1) := by decide +kernel
theorem dL_law_411 : decode cL_law 411 = .ok (.aload_n 1, 1) := by decide +kernel
theorem dL_law_412 : decode cL_law 412 = .ok (.aload_n 0, 1) := by decide +kernel
theorem dL_law_413 : decode cL_law 413 = .ok (.iload 4, 2) := by decide +kernel
theorem dL_law_415 : decode cL_law 415 = .ok (.iconst 1, 1) := by decide +kernel
theorem dL_law_416 : decode cL_law 416 = .ok (.iadd, 1) := by decide +kernel
theorem dL_law_417 : decode cL_law 417 = .ok (.iaload, 1) := by decide +kernel
theorem dL_law_418 : decode cL_law 418 = .ok (.invokevirtual 51, 3) := by decide +kernel
theorem dL_law_421 : decode cL_law 421 = .ok (.aload_n 2, 1) := by decide +kernel
theorem dL_law_422 : decode cL_law 422 = .ok (.aload_n 0, 1) := by decide +kernel
theorem dL_law_423 : decode cL_law 423 = .ok (.iload 4, 2) := by decide +kernel
theorem dL_law_425 : decode cL_law 425 = .ok (.iconst 1, 1) := by decide +kernel
theorem dL_law_426 : decode cL_law 426 = .ok (.iadd, 1) := by decide +kernel
theorem dL_law_427 : decode cL_law 427 = .ok (.iaload, 1) := by decide +kernel
theorem dL_law_428 : decode cL_law 428 = .ok (.invokevirtual 54, 3) := by decide +kernel
theorem dL_law_431 : decode cL_law 431 = .ok (.if_icmp .eq 792, 3) := by decide +kernel
theorem dL_law_434 : decode cL_law 434 = .ok (.iconst 0, 1) := by decide +kernel
theorem dL_law_435 : decode cL_law 435 = .ok (.ireturn, 1) := by decide +kernel
theorem dL_law_436 : decode cL_law 436 = .ok (.aload_n 1, 1) := by decide +kernel
theorem dL_law_437 : decode cL_law 437 = .ok (.aload_n 0, 1) := by decide +kernel
theorem dL_law_438 : decode cL_law 438 = .ok (.iload 4, 2) := by decide +kernel
theorem dL_law_440 : decode cL_law 440 = .ok (.iconst 1, 1) := by decide +kernel
theorem dL_law_441 : decode cL_law 441 = .ok (.iadd, 1) := by decide +kernel
theorem dL_law_442 : decode cL_law 442 = .ok (.iaload, 1) := by decide +kernel
theorem dL_law_443 : decode cL_law 443 = .ok (.invokevirtual 55, 3) := by decide +kernel
theorem dL_law_446 : decode cL_law 446 = .ok (.aload_n 2, 1) := by decide +kernel
theorem dL_law_447 : decode cL_law 447 = .ok (.aload_n 0, 1) := by decide +kernel
theorem dL_law_448 : decode cL_law 448 = .ok (.iload 4, 2) := by decide +kernel
theorem dL_law_450 : decode cL_law 450 = .ok (.iconst 1, 1) := by decide +kernel
theorem dL_law_451 : decode cL_law 451 = .ok (.iadd, 1) := by decide +kernel
theorem dL_law_452 : decode cL_law 452 = .ok (.iaload, 1) := by decide +kernel
theorem dL_law_453 : decode cL_law 453 = .ok (.invokevirtual 58, 3) := by decide +kernel
theorem dL_law_456 : decode cL_law 456 = .ok (.if_icmp .eq 767, 3) := by decide +kernel
theorem dL_law_459 : decode cL_law 459 = .ok (.iconst 0, 1) := by decide +kernel
theorem dL_law_460 : decode cL_law 460 = .ok (.ireturn, 1) := by decide +kernel
theorem dL_law_461 : decode cL_law 461 = .ok (.aload_n 1, 1) := by decide +kernel
theorem dL_law_462 : decode cL_law 462 = .ok (.aload_n 0, 1) := by decide +kernel
theorem dL_law_463 : decode cL_law 463 = .ok (.iload 4, 2) := by decide +kernel
theorem dL_law_465 : decode cL_law 465 = .ok (.iconst 1, 1) := by decide +kernel
theorem dL_law_466 : decode cL_law 466 = .ok (.iadd, 1) := by decide +kernel
theorem dL_law_467 : decode cL_law 467 = .ok (.iaload, 1) := by decide +kernel
theorem dL_law_468 : decode cL_law 468 = .ok (.aload_n 0, 1) := by decide +kernel
theorem dL_law_469 : decode cL_law 469 = .ok (.iload 4, 2) := by decide +kernel
theorem dL_law_471 : decode cL_law 471 = .ok (.iconst 2, 1) := by decide +kernel
theorem dL_law_472 : decode cL_law 472 = .ok (.iadd, 1) := by decide +kernel
theorem dL_law_473 : decode cL_law 473 = .ok (.iaload, 1) := by decide +kernel
theorem dL_law_474 : decode cL_law 474 = .ok (.invokevirtual 59, 3) := by decide +kernel
theorem dL_law_477 : decode cL_law 477 = .ok (.aload_n 2, 1) := by decide +kernel
theorem dL_law_478 : decode cL_law 478 = .ok (.aload_n 0, 1) := by decide +kernel
theorem dL_law_479 : decode cL_law 479 = .ok (.iload 4, 2) := by decide +kernel
theorem dL_law_481 : decode cL_law 481 = .ok (.iconst 1, 1) := by decide +kernel
theorem dL_law_482 : decode cL_law 482 = .ok (.iadd, 1) := by decide +kernel
theorem dL_law_483 : decode cL_law 483 = .ok (.iaload, 1) := by decide +kernel
theorem dL_law_484 : decode cL_law 484 = .ok (.aload_n 0, 1) := by decide +kernel
theorem dL_law_485 : decode cL_law 485 = .ok (.iload 4, 2) := by decide +kernel
theorem dL_law_487 : decode cL_law 487 = .ok (.iconst 2, 1) := by decide +kernel
theorem dL_law_488 : decode cL_law 488 = .ok (.iadd, 1) := by decide +kernel
theorem dL_law_489 : decode cL_law 489 = .ok (.iaload, 1) := by decide +kernel
theorem dL_law_490 : decode cL_law 490 = .ok (.invokevirtual 62, 3) := by decide +kernel
theorem dL_law_493 : decode cL_law 493 = .ok (.if_icmp .eq 730, 3) := by decide +kernel
theorem dL_law_496 : decode cL_law 496 = .ok (.iconst 0, 1) := by decide +kernel
theorem dL_law_497 : decode cL_law 497 = .ok (.ireturn, 1) := by decide +kernel
theorem dL_law_498 : decode cL_law 498 = .ok (.aload_n 1, 1) := by decide +kernel
theorem dL_law_499 : decode cL_law 499 = .ok (.aload_n 0, 1) := by decide +kernel
theorem dL_law_500 : decode cL_law 500 = .ok (.iload 4, 2) := by decide +kernel
theorem dL_law_502 : decode cL_law 502 = .ok (.iconst 1, 1) := by decide +kernel
theorem dL_law_503 : decode cL_law 503 = .ok (.iadd, 1) := by decide +kernel
theorem dL_law_504 : decode cL_law 504 = .ok (.iaload, 1) := by decide +kernel
theorem dL_law_505 : decode cL_law 505 = .ok (.invokevirtual 63, 3) := by decide +kernel
theorem dL_law_508 : decode cL_law 508 = .ok (.aload_n 2, 1) := by decide +kernel
theorem dL_law_509 : decode cL_law 509 = .ok (.aload_n 0, 1) := by decide +kernel
theorem dL_law_510 : decode cL_law 510 = .ok (.iload 4, 2) := by decide +kernel
theorem dL_law_512 : decode cL_law 512 = .ok (.iconst 1, 1) := by decide +kernel
theorem dL_law_513 : decode cL_law 513 = .ok (.iadd, 1) := by decide +kernel
theorem dL_law_514 : decode cL_law 514 = .ok (.iaload, 1) := by decide +kernel
theorem dL_law_515 : decode cL_law 515 = .ok (.invokevirtual 66, 3) := by decide +kernel
theorem dL_law_518 : decode cL_law 518 = .ok (.if_icmp .eq 705, 3) := by decide +kernel
theorem dL_law_521 : decode cL_law 521 = .ok (.iconst 0, 1) := by decide +kernel
theorem dL_law_522 : decode cL_law 522 = .ok (.ireturn, 1) := by decide +kernel
theorem dL_law_523 : decode cL_law 523 = .ok (.aload_n 1, 1) := by decide +kernel
theorem dL_law_524 : decode cL_law 524 = .ok (.invokevirtual 67, 3) := by decide +kernel
theorem dL_law_527 : decode cL_law 527 = .ok (.aload_n 2, 1) := by decide +kernel
theorem dL_law_528 : decode cL_law 528 = .ok (.invokevirtual 71, 3) := by decide +kernel
theorem dL_law_531 : decode cL_law 531 = .ok (.if_icmp .eq 692, 3) := by decide +kernel
theorem dL_law_534 : decode cL_law 534 = .ok (.iconst 0, 1) := by decide +kernel
theorem dL_law_535 : decode cL_law 535 = .ok (.ireturn, 1) := by decide +kernel
theorem dL_law_536 : decode cL_law 536 = .ok (.aload_n 1, 1) := by decide +kernel
theorem dL_law_537 : decode cL_law 537 = .ok (.invokevirtual 72, 3) := by decide +kernel
theorem dL_law_540 : decode cL_law 540 = .ok (.aload_n 2, 1) := by decide +kernel
theorem dL_law_541 : decode cL_law 541 = .ok (.invokevirtual 75, 3) := by decide +kernel
theorem dL_law_544 : decode cL_law 544 = .ok (.if_icmp .eq 679, 3) := by decide +kernel
theorem dL_law_547 : decode cL_law 547 = .ok (.iconst 0, 1) := by decide +kernel
theorem dL_law_548 : decode cL_law 548 = .ok (.ireturn, 1) := by decide +kernel
theorem dL_law_549 : decode cL_law 549 = .ok (.aload_n 1, 1) := by decide +kernel
theorem dL_law_550 : decode cL_law 550 = .ok (.aload_n 0, 1) := by decide +kernel
theorem dL_law_551 : decode cL_law 551 = .ok (.iload 4, 2) := by decide +kernel
theorem dL_law_553 : decode cL_law 553 = .ok (.iconst 1, 1) := by decide +kernel
theorem dL_law_554 : decode cL_law 554 = .ok (.iadd, 1) := by decide +kernel
theorem dL_law_555 : decode cL_law 555 = .ok (.iaload, 1) := by decide +kernel
theorem dL_law_556 : decode cL_law 556 = .ok (.invokevirtual 76, 3) := by decide +kernel
theorem dL_law_559 : decode cL_law 559 = .ok (.aload_n 2, 1) := by decide +kernel
theorem dL_law_560 : decode cL_law 560 = .ok (.aload_n 0, 1) := by decide +kernel
theorem dL_law_561 : decode cL_law 561 = .ok (.iload 4, 2) := by decide +kernel
theorem dL_law_563 : decode cL_law 563 = .ok (.iconst 1, 1) := by decide +kernel
theorem dL_law_564 : decode cL_law 564 = .ok (.iadd, 1) := by decide +kernel
theorem dL_law_565 : decode cL_law 565 = .ok (.iaload, 1) := by decide +kernel
theorem dL_law_566 : decode cL_law 566 = .ok (.invokevirtual 79, 3) := by decide +kernel
theorem dL_law_569 : decode cL_law 569 = .ok (.if_icmp .eq 654, 3) := by decide +kernel
theorem dL_law_572 : decode cL_law 572 = .ok (.iconst 0, 1) := by decide +kernel
theorem dL_law_573 : decode cL_law 573 = .ok (.ireturn, 1) := by decide +kernel
theorem dL_law_574 : decode cL_law 574 = .ok (.aload_n 1, 1) := by decide +kernel
theorem dL_law_575 : decode cL_law 575 = .ok (.aload_n 0, 1) := by decide +kernel
theorem dL_law_576 : decode cL_law 576 = .ok (.iload 4, 2) := by decide +kernel
theorem dL_law_578 : decode cL_law 578 = .ok (.iconst 1, 1) := by decide +kernel
theorem dL_law_579 : decode cL_law 579 = .ok (.iadd, 1) := by decide +kernel
theorem dL_law_580 : decode cL_law 580 = .ok (.iaload, 1) := by decide +kernel
theorem dL_law_581 : decode cL_law 581 = .ok (.invokevirtual 80, 3) := by decide +kernel
theorem dL_law_584 : decode cL_law 584 = .ok (.aload_n 2, 1) := by decide +kernel
theorem dL_law_585 : decode cL_law 585 = .ok (.aload_n 0, 1) := by decide +kernel
theorem dL_law_586 : decode cL_law 586 = .ok (.iload 4, 2) := by decide +kernel
theorem dL_law_588 : decode cL_law 588 = .ok (.iconst 1, 1) := by decide +kernel
theorem dL_law_589 : decode cL_law 589 = .ok (.iadd, 1) := by decide +kernel
theorem dL_law_590 : decode cL_law 590 = .ok (.iaload, 1) := by decide +kernel
theorem dL_law_591 : decode cL_law 591 = .ok (.invokevirtual 83, 3) := by decide +kernel
theorem dL_law_594 : decode cL_law 594 = .ok (.if_icmp .eq 629, 3) := by decide +kernel
theorem dL_law_597 : decode cL_law 597 = .ok (.iconst 0, 1) := by decide +kernel
theorem dL_law_598 : decode cL_law 598 = .ok (.ireturn, 1) := by decide +kernel
theorem dL_law_599 : decode cL_law 599 = .ok (.aload_n 1, 1) := by decide +kernel
theorem dL_law_600 : decode cL_law 600 = .ok (.aload_n 0, 1) := by decide +kernel
theorem dL_law_601 : decode cL_law 601 = .ok (.iload 4, 2) := by decide +kernel
theorem dL_law_603 : decode cL_law 603 = .ok (.iconst 1, 1) := by decide +kernel
theorem dL_law_604 : decode cL_law 604 = .ok (.iadd, 1) := by decide +kernel
theorem dL_law_605 : decode cL_law 605 = .ok (.iaload, 1) := by decide +kernel
theorem dL_law_606 : decode cL_law 606 = .ok (.invokevirtual 84, 3) := by decide +kernel
theorem dL_law_609 : decode cL_law 609 = .ok (.aload_n 2, 1) := by decide +kernel
theorem dL_law_610 : decode cL_law 610 = .ok (.aload_n 0, 1) := by decide +kernel
theorem dL_law_611 : decode cL_law 611 = .ok (.iload 4, 2) := by decide +kernel
theorem dL_law_613 : decode cL_law 613 = .ok (.iconst 1, 1) := by decide +kernel
theorem dL_law_614 : decode cL_law 614 = .ok (.iadd, 1) := by decide +kernel
theorem dL_law_615 : decode cL_law 615 = .ok (.iaload, 1) := by decide +kernel
theorem dL_law_616 : decode cL_law 616 = .ok (.invokevirtual 87, 3) := by decide +kernel
theorem dL_law_619 : decode cL_law 619 = .ok (.if_icmp .eq 604, 3) := by decide +kernel
theorem dL_law_622 : decode cL_law 622 = .ok (.iconst 0, 1) := by decide +kernel
theorem dL_law_623 : decode cL_law 623 = .ok (.ireturn, 1) := by decide +kernel
theorem dL_law_624 : decode cL_law 624 = .ok (.aload_n 1, 1) := by decide +kernel
theorem dL_law_625 : decode cL_law 625 = .ok (.invokevirtual 88, 3) := by decide +kernel
theorem dL_law_628 : decode cL_law 628 = .ok (.aload_n 2, 1) := by decide +kernel
theorem dL_law_629 : decode cL_law 629 = .ok (.invokevirtual 91, 3) := by decide +kernel
theorem dL_law_632 : decode cL_law 632 = .ok (.if_icmp .eq 591, 3) := by decide +kernel
theorem dL_law_635 : decode cL_law 635 = .ok (.iconst 0, 1) := by decide +kernel
theorem dL_law_636 : decode cL_law 636 = .ok (.ireturn, 1) := by decide +kernel
theorem dL_law_637 : decode cL_law 637 = .ok (.aload_n 1, 1) := by decide +kernel
theorem dL_law_638 : decode cL_law 638 = .ok (.aload_n 0, 1) := by decide +kernel
theorem dL_law_639 : decode cL_law 639 = .ok (.iload 4, 2) := by decide +kernel
theorem dL_law_641 : decode cL_law 641 = .ok (.iconst 1, 1) := by decide +kernel
theorem dL_law_642 : decode cL_law 642 = .ok (.iadd, 1) := by decide +kernel
theorem dL_law_643 : decode cL_law 643 = .ok (.iaload, 1) := by decide +kernel
theorem dL_law_644 : decode cL_law 644 = .ok (.invokevirtual 92, 3) := by decide +kernel
theorem dL_law_647 : decode cL_law 647 = .ok (.aload_n 2, 1) := by decide +kernel
theorem dL_law_648 : decode cL_law 648 = .ok (.aload_n 0, 1) := by decide +kernel
theorem dL_law_649 : decode cL_law 649 = .ok (.iload 4, 2) := by decide +kernel
theorem dL_law_651 : decode cL_law 651 = .ok (.iconst 1, 1) := by decide +kernel
theorem dL_law_652 : decode cL_law 652 = .ok (.iadd, 1) := by decide +kernel
theorem dL_law_653 : decode cL_law 653 = .ok (.iaload, 1) := by decide +kernel
theorem dL_law_654 : decode cL_law 654 = .ok (.invokevirtual 95, 3) := by decide +kernel
theorem dL_law_657 : decode cL_law 657 = .ok (.if_icmp .eq 566, 3) := by decide +kernel
theorem dL_law_660 : decode cL_law 660 = .ok (.iconst 0, 1) := by decide +kernel
theorem dL_law_661 : decode cL_law 661 = .ok (.ireturn, 1) := by decide +kernel
theorem dL_law_662 : decode cL_law 662 = .ok (.aload_n 1, 1) := by decide +kernel
theorem dL_law_663 : decode cL_law 663 = .ok (.aload_n 0, 1) := by decide +kernel
theorem dL_law_664 : decode cL_law 664 = .ok (.iload 4, 2) := by decide +kernel
theorem dL_law_666 : decode cL_law 666 = .ok (.iconst 1, 1) := by decide +kernel
theorem dL_law_667 : decode cL_law 667 = .ok (.iadd, 1) := by decide +kernel
theorem dL_law_668 : decode cL_law 668 = .ok (.iaload, 1) := by decide +kernel
theorem dL_law_669 : decode cL_law 669 = .ok (.aload_n 0, 1) := by decide +kernel
theorem dL_law_670 : decode cL_law 670 = .ok (.iload 4, 2) := by decide +kernel
theorem dL_law_672 : decode cL_law 672 = .ok (.iconst 2, 1) := by decide +kernel
theorem dL_law_673 : decode cL_law 673 = .ok (.iadd, 1) := by decide +kernel
theorem dL_law_674 : decode cL_law 674 = .ok (.iaload, 1) := by decide +kernel
theorem dL_law_675 : decode cL_law 675 = .ok (.invokevirtual 96, 3) := by decide +kernel
theorem dL_law_678 : decode cL_law 678 = .ok (.aload_n 2, 1) := by decide +kernel
theorem dL_law_679 : decode cL_law 679 = .ok (.aload_n 0, 1) := by decide +kernel
theorem dL_law_680 : decode cL_law 680 = .ok (.iload 4, 2) := by decide +kernel
theorem dL_law_682 : decode cL_law 682 = .ok (.iconst 1, 1) := by decide +kernel
theorem dL_law_683 : decode cL_law 683 = .ok (.iadd, 1) := by decide +kernel
theorem dL_law_684 : decode cL_law 684 = .ok (.iaload, 1) := by decide +kernel
theorem dL_law_685 : decode cL_law 685 = .ok (.aload_n 0, 1) := by decide +kernel
theorem dL_law_686 : decode cL_law 686 = .ok (.iload 4, 2) := by decide +kernel
theorem dL_law_688 : decode cL_law 688 = .ok (.iconst 2, 1) := by decide +kernel
theorem dL_law_689 : decode cL_law 689 = .ok (.iadd, 1) := by decide +kernel
theorem dL_law_690 : decode cL_law 690 = .ok (.iaload, 1) := by decide +kernel
theorem dL_law_691 : decode cL_law 691 = .ok (.invokevirtual 99, 3) := by decide +kernel
theorem dL_law_694 : decode cL_law 694 = .ok (.if_icmp .eq 529, 3) := by decide +kernel
theorem dL_law_697 : decode cL_law 697 = .ok (.iconst 0, 1) := by decide +kernel
theorem dL_law_698 : decode cL_law 698 = .ok (.ireturn, 1) := by decide +kernel
theorem dL_law_699 : decode cL_law 699 = .ok (.aload_n 1, 1) := by decide +kernel
theorem dL_law_700 : decode cL_law 700 = .ok (.aload_n 0, 1) := by decide +kernel
theorem dL_law_701 : decode cL_law 701 = .ok (.iload 4, 2) := by decide +kernel
theorem dL_law_703 : decode cL_law 703 = .ok (.iconst 1, 1) := by decide +kernel
theorem dL_law_704 : decode cL_law 704 = .ok (.iadd, 1) := by decide +kernel
theorem dL_law_705 : decode cL_law 705 = .ok (.iaload, 1) := by decide +kernel
theorem dL_law_706 : decode cL_law 706 = .ok (.invokevirtual 100, 3) := by decide +kernel
theorem dL_law_709 : decode cL_law 709 = .ok (.aload_n 2, 1) := by decide +kernel
theorem dL_law_710 : decode cL_law 710 = .ok (.aload_n 0, 1) := by decide +kernel
theorem dL_law_711 : decode cL_law 711 = .ok (.iload 4, 2) := by decide +kernel
theorem dL_law_713 : decode cL_law 713 = .ok (.iconst 1, 1) := by decide +kernel
theorem dL_law_714 : decode cL_law 714 = .ok (.iadd, 1) := by decide +kernel
theorem dL_law_715 : decode cL_law 715 = .ok (.iaload, 1) := by decide +kernel
theorem dL_law_716 : decode cL_law 716 = .ok (.invokevirtual 103, 3) := by decide +kernel
theorem dL_law_719 : decode cL_law 719 = .ok (.if_icmp .eq 504, 3) := by decide +kernel
theorem dL_law_722 : decode cL_law 722 = .ok (.iconst 0, 1) := by decide +kernel
theorem dL_law_723 : decode cL_law 723 = .ok (.ireturn, 1) := by decide +kernel
theorem dL_law_724 : decode cL_law 724 = .ok (.aload_n 1, 1) := by decide +kernel
theorem dL_law_725 : decode cL_law 725 = .ok (.aload_n 0, 1) := by decide +kernel
theorem dL_law_726 : decode cL_law 726 = .ok (.iload 4, 2) := by decide +kernel
theorem dL_law_728 : decode cL_law 728 = .ok (.iconst 1, 1) := by decide +kernel
theorem dL_law_729 : decode cL_law 729 = .ok (.iadd, 1) := by decide +kernel
theorem dL_law_730 : decode cL_law 730 = .ok (.iaload, 1) := by decide +kernel
theorem dL_law_731 : decode cL_law 731 = .ok (.aload_n 0, 1) := by decide +kernel
theorem dL_law_732 : decode cL_law 732 = .ok (.iload 4, 2) := by decide +kernel
theorem dL_law_734 : decode cL_law 734 = .ok (.iconst 2, 1) := by decide +kernel
theorem dL_law_735 : decode cL_law 735 = .ok (.iadd, 1) := by decide +kernel
theorem dL_law_736 : decode cL_law 736 = .ok (.iaload, 1) := by decide +kernel
theorem dL_law_737 : decode cL_law 737 = .ok (.invokevirtual 104, 3) := by decide +kernel
theorem dL_law_740 : decode cL_law 740 = .ok (.aload_n 2, 1) := by decide +kernel
theorem dL_law_741 : decode cL_law 741 = .ok (.aload_n 0, 1) := by decide +kernel
theorem dL_law_742 : decode cL_law 742 = .ok (.iload 4, 2) := by decide +kernel
theorem dL_law_744 : decode cL_law 744 = .ok (.iconst 1, 1) := by decide +kernel
theorem dL_law_745 : decode cL_law 745 = .ok (.iadd, 1) := by decide +kernel
theorem dL_law_746 : decode cL_law 746 = .ok (.iaload, 1) := by decide +kernel
theorem dL_law_747 : decode cL_law 747 = .ok (.aload_n 0, 1) := by decide +kernel
theorem dL_law_748 : decode cL_law 748 = .ok (.iload 4, 2) := by decide +kernel
theorem dL_law_750 : decode cL_law 750 = .ok (.iconst 2, 1) := by decide +kernel
theorem dL_law_751 : decode cL_law 751 = .ok (.iadd, 1) := by decide +kernel
theorem dL_law_752 : decode cL_law 752 = .ok (.iaload, 1) := by decide +kernel
theorem dL_law_753 : decode cL_law 753 = .ok (.invokevirtual 107, 3) := by decide +kernel
theorem dL_law_756 : decode cL_law 756 = .ok (.if_icmp .eq 467, 3) := by decide +kernel
theorem dL_law_759 : decode cL_law 759 = .ok (.iconst 0, 1) := by decide +kernel
theorem dL_law_760 : decode cL_law 760 = .ok (.ireturn, 1) := by decide +kernel
theorem dL_law_761 : decode cL_law 761 = .ok (.aload_n 1, 1) := by decide +kernel
theorem dL_law_762 : decode cL_law 762 = .ok (.aload_n 0, 1) := by decide +kernel
theorem dL_law_763 : decode cL_law 763 = .ok (.iload 4, 2) := by decide +kernel
theorem dL_law_765 : decode cL_law 765 = .ok (.iconst 1, 1) := by decide +kernel
theorem dL_law_766 : decode cL_law 766 = .ok (.iadd, 1) := by decide +kernel
theorem dL_law_767 : decode cL_law 767 = .ok (.iaload, 1) := by decide +kernel
theorem dL_law_768 : decode cL_law 768 = .ok (.aload_n 0, 1) := by decide +kernel
theorem dL_law_769 : decode cL_law 769 = .ok (.iload 4, 2) := by decide +kernel
theorem dL_law_771 : decode cL_law 771 = .ok (.iconst 2, 1) := by decide +kernel
theorem dL_law_772 : decode cL_law 772 = .ok (.iadd, 1) := by decide +kernel
theorem dL_law_773 : decode cL_law 773 = .ok (.iaload, 1) := by decide +kernel
theorem dL_law_774 : decode cL_law 774 = .ok (.invokevirtual 108, 3) := by decide +kernel
theorem dL_law_777 : decode cL_law 777 = .ok (.aload_n 2, 1) := by decide +kernel
theorem dL_law_778 : decode cL_law 778 = .ok (.aload_n 0, 1) := by decide +kernel
theorem dL_law_779 : decode cL_law 779 = .ok (.iload 4, 2) := by decide +kernel
theorem dL_law_781 : decode cL_law 781 = .ok (.iconst 1, 1) := by decide +kernel
theorem dL_law_782 : decode cL_law 782 = .ok (.iadd, 1) := by decide +kernel
theorem dL_law_783 : decode cL_law 783 = .ok (.iaload, 1) := by decide +kernel
theorem dL_law_784 : decode cL_law 784 = .ok (.aload_n 0, 1) := by decide +kernel
theorem dL_law_785 : decode cL_law 785 = .ok (.iload 4, 2) := by decide +kernel
theorem dL_law_787 : decode cL_law 787 = .ok (.iconst 2, 1) := by decide +kernel
theorem dL_law_788 : decode cL_law 788 = .ok (.iadd, 1) := by decide +kernel
theorem dL_law_789 : decode cL_law 789 = .ok (.iaload, 1) := by decide +kernel
theorem dL_law_790 : decode cL_law 790 = .ok (.invokevirtual 111, 3) := by decide +kernel
theorem dL_law_793 : decode cL_law 793 = .ok (.if_icmp .eq 430, 3) := by decide +kernel
theorem dL_law_796 : decode cL_law 796 = .ok (.iconst 0, 1) := by decide +kernel
theorem dL_law_797 : decode cL_law 797 = .ok (.ireturn, 1) := by decide +kernel
theorem dL_law_798 : decode cL_law 798 = .ok (.aload_n 1, 1) := by decide +kernel
theorem dL_law_799 : decode cL_law 799 = .ok (.aload_n 0, 1) := by decide +kernel
theorem dL_law_800 : decode cL_law 800 = .ok (.iload 4, 2) := by decide +kernel
theorem dL_law_802 : decode cL_law 802 = .ok (.iconst 1, 1) := by decide +kernel
theorem dL_law_803 : decode cL_law 803 = .ok (.iadd, 1) := by decide +kernel
theorem dL_law_804 : decode cL_law 804 = .ok (.iaload, 1) := by decide +kernel
theorem dL_law_805 : decode cL_law 805 = .ok (.invokevirtual 112, 3) := by decide +kernel
theorem dL_law_808 : decode cL_law 808 = .ok (.aload_n 2, 1) := by decide +kernel
theorem dL_law_809 : decode cL_law 809 = .ok (.aload_n 0, 1) := by decide +kernel
theorem dL_law_810 : decode cL_law 810 = .ok (.iload 4, 2) := by decide +kernel
theorem dL_law_812 : decode cL_law 812 = .ok (.iconst 1, 1) := by decide +kernel
theorem dL_law_813 : decode cL_law 813 = .ok (.iadd, 1) := by decide +kernel
theorem dL_law_814 : decode cL_law 814 = .ok (.iaload, 1) := by decide +kernel
theorem dL_law_815 : decode cL_law 815 = .ok (.invokevirtual 115, 3) := by decide +kernel
theorem dL_law_818 : decode cL_law 818 = .ok (.if_icmp .eq 405, 3) := by decide +kernel
theorem dL_law_821 : decode cL_law 821 = .ok (.iconst 0, 1) := by decide +kernel
theorem dL_law_822 : decode cL_law 822 = .ok (.ireturn, 1) := by decide +kernel
theorem dL_law_823 : decode cL_law 823 = .ok (.aload_n 1, 1) := by decide +kernel
theorem dL_law_824 : decode cL_law 824 = .ok (.invokevirtual 116, 3) := by decide +kernel
theorem dL_law_827 : decode cL_law 827 = .ok (.aload_n 2, 1) := by decide +kernel
theorem dL_law_828 : decode cL_law 828 = .ok (.invokevirtual 119, 3) := by decide +kernel
theorem dL_law_831 : decode cL_law 831 = .ok (.if_icmp .eq 392, 3) := by decide +kernel
theorem dL_law_834 : decode cL_law 834 = .ok (.iconst 0, 1) := by decide +kernel
theorem dL_law_835 : decode cL_law 835 = .ok (.ireturn, 1) := by decide +kernel
theorem dL_law_836 : decode cL_law 836 = .ok (.aload_n 1, 1) := by decide +kernel
theorem dL_law_837 : decode cL_law 837 = .ok (.invokevirtual 120, 3) := by decide +kernel
theorem dL_law_840 : decode cL_law 840 = .ok (.aload_n 2, 1) := by decide +kernel
theorem dL_law_841 : decode cL_law 841 = .ok (.invokevirtual 123, 3) := by decide +kernel
theorem dL_law_844 : decode cL_law 844 = .ok (.if_icmp .eq 379, 3) := by decide +kernel
theorem dL_law_847 : decode cL_law 847 = .ok (.iconst 0, 1) := by decide +kernel
theorem dL_law_848 : decode cL_law 848 = .ok (.ireturn, 1) := by decide +kernel
theorem dL_law_849 : decode cL_law 849 = .ok (.aload_n 1, 1) := by decide +kernel
theorem dL_law_850 : decode cL_law 850 = .ok (.aload_n 0, 1) := by decide +kernel
theorem dL_law_851 : decode cL_law 851 = .ok (.iload 4, 2) := by decide +kernel
theorem dL_law_853 : decode cL_law 853 = .ok (.iconst 1, 1) := by decide +kernel
theorem dL_law_854 : decode cL_law 854 = .ok (.iadd, 1) := by decide +kernel
theorem dL_law_855 : decode cL_law 855 = .ok (.iaload, 1) := by decide +kernel
theorem dL_law_856 : decode cL_law 856 = .ok (.invokevirtual 124, 3) := by decide +kernel
theorem dL_law_859 : decode cL_law 859 = .ok (.aload_n 2, 1) := by decide +kernel
theorem dL_law_860 : decode cL_law 860 = .ok (.aload_n 0, 1) := by decide +kernel
theorem dL_law_861 : decode cL_law 861 = .ok (.iload 4, 2) := by decide +kernel
theorem dL_law_863 : decode cL_law 863 = .ok (.iconst 1, 1) := by decide +kernel
theorem dL_law_864 : decode cL_law 864 = .ok (.iadd, 1) := by decide +kernel
theorem dL_law_865 : decode cL_law 865 = .ok (.iaload, 1) := by decide +kernel
theorem dL_law_866 : decode cL_law 866 = .ok (.invokevirtual 127, 3) := by decide +kernel
theorem dL_law_869 : decode cL_law 869 = .ok (.if_icmp .eq 354, 3) := by decide +kernel
theorem dL_law_872 : decode cL_law 872 = .ok (.iconst 0, 1) := by decide +kernel
theorem dL_law_873 : decode cL_law 873 = .ok (.ireturn, 1) := by decide +kernel
theorem dL_law_874 : decode cL_law 874 = .ok (.aload_n 1, 1) := by decide +kernel
theorem dL_law_875 : decode cL_law 875 = .ok (.aload_n 0, 1) := by decide +kernel
theorem dL_law_876 : decode cL_law 876 = .ok (.iload 4, 2) := by decide +kernel
theorem dL_law_878 : decode cL_law 878 = .ok (.iconst 1, 1) := by decide +kernel
theorem dL_law_879 : decode cL_law 879 = .ok (.iadd, 1) := by decide +kernel
theorem dL_law_880 : decode cL_law 880 = .ok (.iaload, 1) := by decide +kernel
theorem dL_law_881 : decode cL_law 881 = .ok (.aload_n 0, 1) := by decide +kernel
theorem dL_law_882 : decode cL_law 882 = .ok (.iload 4, 2) := by decide +kernel
theorem dL_law_884 : decode cL_law 884 = .ok (.iconst 2, 1) := by decide +kernel
theorem dL_law_885 : decode cL_law 885 = .ok (.iadd, 1) := by decide +kernel
theorem dL_law_886 : decode cL_law 886 = .ok (.iaload, 1) := by decide +kernel
theorem dL_law_887 : decode cL_law 887 = .ok (.aload_n 0, 1) := by decide +kernel
theorem dL_law_888 : decode cL_law 888 = .ok (.iload 4, 2) := by decide +kernel
theorem dL_law_890 : decode cL_law 890 = .ok (.iconst 3, 1) := by decide +kernel
theorem dL_law_891 : decode cL_law 891 = .ok (.iadd, 1) := by decide +kernel
theorem dL_law_892 : decode cL_law 892 = .ok (.iaload, 1) := by decide +kernel
theorem dL_law_893 : decode cL_law 893 = .ok (.aload_n 0, 1) := by decide +kernel
theorem dL_law_894 : decode cL_law 894 = .ok (.iload 4, 2) := by decide +kernel
theorem dL_law_896 : decode cL_law 896 = .ok (.iconst 4, 1) := by decide +kernel
theorem dL_law_897 : decode cL_law 897 = .ok (.iadd, 1) := by decide +kernel
theorem dL_law_898 : decode cL_law 898 = .ok (.iaload, 1) := by decide +kernel
theorem dL_law_899 : decode cL_law 899 = .ok (.invokevirtual 128, 3) := by decide +kernel
theorem dL_law_902 : decode cL_law 902 = .ok (.aload_n 2, 1) := by decide +kernel
theorem dL_law_903 : decode cL_law 903 = .ok (.aload_n 0, 1) := by decide +kernel
theorem dL_law_904 : decode cL_law 904 = .ok (.iload 4, 2) := by decide +kernel
theorem dL_law_906 : decode cL_law 906 = .ok (.iconst 1, 1) := by decide +kernel
theorem dL_law_907 : decode cL_law 907 = .ok (.iadd, 1) := by decide +kernel
theorem dL_law_908 : decode cL_law 908 = .ok (.iaload, 1) := by decide +kernel
theorem dL_law_909 : decode cL_law 909 = .ok (.aload_n 0, 1) := by decide +kernel
theorem dL_law_910 : decode cL_law 910 = .ok (.iload 4, 2) := by decide +kernel
theorem dL_law_912 : decode cL_law 912 = .ok (.iconst 2, 1) := by decide +kernel
theorem dL_law_913 : decode cL_law 913 = .ok (.iadd, 1) := by decide +kernel
theorem dL_law_914 : decode cL_law 914 = .ok (.iaload, 1) := by decide +kernel
theorem dL_law_915 : decode cL_law 915 = .ok (.aload_n 0, 1) := by decide +kernel
theorem dL_law_916 : decode cL_law 916 = .ok (.iload 4, 2) := by decide +kernel
theorem dL_law_918 : decode cL_law 918 = .ok (.iconst 3, 1) := by decide +kernel
theorem dL_law_919 : decode cL_law 919 = .ok (.iadd, 1) := by decide +kernel
theorem dL_law_920 : decode cL_law 920 = .ok (.iaload, 1) := by decide +kernel
theorem dL_law_921 : decode cL_law 921 = .ok (.aload_n 0, 1) := by decide +kernel
theorem dL_law_922 : decode cL_law 922 = .ok (.iload 4, 2) := by decide +kernel
theorem dL_law_924 : decode cL_law 924 = .ok (.iconst 4, 1) := by decide +kernel
theorem dL_law_925 : decode cL_law 925 = .ok (.iadd, 1) := by decide +kernel
theorem dL_law_926 : decode cL_law 926 = .ok (.iaload, 1) := by decide +kernel
theorem dL_law_927 : decode cL_law 927 = .ok (.invokevirtual 132, 3) := by decide +kernel
theorem dL_law_930 : decode cL_law 930 = .ok (.if_icmp .eq 293, 3) := by decide +kernel
theorem dL_law_933 : decode cL_law 933 = .ok (.iconst 0, 1) := by decide +kernel
theorem dL_law_934 : decode cL_law 934 = .ok (.ireturn, 1) := by decide +kernel
theorem dL_law_935 : decode cL_law 935 = .ok (.aload_n 1, 1) := by decide +kernel
theorem dL_law_936 : decode cL_law 936 = .ok (.aload_n 0, 1) := by decide +kernel
theorem dL_law_937 : decode cL_law 937 = .ok (.iload 4, 2) := by decide +kernel
theorem dL_law_939 : decode cL_law 939 = .ok (.iconst 1, 1) := by decide +kernel
theorem dL_law_940 : decode cL_law 940 = .ok (.iadd, 1) := by decide +kernel
theorem dL_law_941 : decode cL_law 941 = .ok (.iaload, 1) := by decide +kernel
theorem dL_law_942 : decode cL_law 942 = .ok (.aload_n 0, 1) := by decide +kernel
theorem dL_law_943 : decode cL_law 943 = .ok (.iload 4, 2) := by decide +kernel
theorem dL_law_945 : decode cL_law 945 = .ok (.iconst 2, 1) := by decide +kernel
theorem dL_law_946 : decode cL_law 946 = .ok (.iadd, 1) := by decide +kernel
theorem dL_law_947 : decode cL_law 947 = .ok (.iaload, 1) := by decide +kernel
theorem dL_law_948 : decode cL_law 948 = .ok (.aload_n 0, 1) := by decide +kernel
theorem dL_law_949 : decode cL_law 949 = .ok (.iload 4, 2) := by decide +kernel
theorem dL_law_951 : decode cL_law 951 = .ok (.iconst 3, 1) := by decide +kernel
theorem dL_law_952 : decode cL_law 952 = .ok (.iadd, 1) := by decide +kernel
theorem dL_law_953 : decode cL_law 953 = .ok (.iaload, 1) := by decide +kernel
theorem dL_law_954 : decode cL_law 954 = .ok (.invokevirtual 133, 3) := by decide +kernel
theorem dL_law_957 : decode cL_law 957 = .ok (.aload_n 2, 1) := by decide +kernel
theorem dL_law_958 : decode cL_law 958 = .ok (.aload_n 0, 1) := by decide +kernel
theorem dL_law_959 : decode cL_law 959 = .ok (.iload 4, 2) := by decide +kernel
theorem dL_law_961 : decode cL_law 961 = .ok (.iconst 1, 1) := by decide +kernel
theorem dL_law_962 : decode cL_law 962 = .ok (.iadd, 1) := by decide +kernel
theorem dL_law_963 : decode cL_law 963 = .ok (.iaload, 1) := by decide +kernel
theorem dL_law_964 : decode cL_law 964 = .ok (.aload_n 0, 1) := by decide +kernel
theorem dL_law_965 : decode cL_law 965 = .ok (.iload 4, 2) := by decide +kernel
theorem dL_law_967 : decode cL_law 967 = .ok (.iconst 2, 1) := by decide +kernel
theorem dL_law_968 : decode cL_law 968 = .ok (.iadd, 1) := by decide +kernel
theorem dL_law_969 : decode cL_law 969 = .ok (.iaload, 1) := by decide +kernel
theorem dL_law_970 : decode cL_law 970 = .ok (.aload_n 0, 1) := by decide +kernel
theorem dL_law_971 : decode cL_law 971 = .ok (.iload 4, 2) := by decide +kernel
theorem dL_law_973 : decode cL_law 973 = .ok (.iconst 3, 1) := by decide +kernel
theorem dL_law_974 : decode cL_law 974 = .ok (.iadd, 1) := by decide +kernel
theorem dL_law_975 : decode cL_law 975 = .ok (.iaload, 1) := by decide +kernel
theorem dL_law_976 : decode cL_law 976 = .ok (.invokevirtual 137, 3) := by decide +kernel
theorem dL_law_979 : decode cL_law 979 = .ok (.if_icmp .eq 244, 3) := by decide +kernel
theorem dL_law_982 : decode cL_law 982 = .ok (.iconst 0, 1) := by decide +kernel
theorem dL_law_983 : decode cL_law 983 = .ok (.ireturn, 1) := by decide +kernel
theorem dL_law_984 : decode cL_law 984 = .ok (.aload_n 1, 1) := by decide +kernel
theorem dL_law_985 : decode cL_law 985 = .ok (.aload_n 0, 1) := by decide +kernel
theorem dL_law_986 : decode cL_law 986 = .ok (.iload 4, 2) := by decide +kernel
theorem dL_law_988 : decode cL_law 988 = .ok (.iconst 1, 1) := by decide +kernel
theorem dL_law_989 : decode cL_law 989 = .ok (.iadd, 1) := by decide +kernel
theorem dL_law_990 : decode cL_law 990 = .ok (.iaload, 1) := by decide +kernel
theorem dL_law_991 : decode cL_law 991 = .ok (.aload_n 0, 1) := by decide +kernel
theorem dL_law_992 : decode cL_law 992 = .ok (.iload 4, 2) := by decide +kernel
theorem dL_law_994 : decode cL_law 994 = .ok (.iconst 2, 1) := by decide +kernel
theorem dL_law_995 : decode cL_law 995 = .ok (.iadd, 1) := by decide +kernel
theorem dL_law_996 : decode cL_law 996 = .ok (.iaload, 1) := by decide +kernel
theorem dL_law_997 : decode cL_law 997 = .ok (.aload_n 0, 1) := by decide +kernel
theorem dL_law_998 : decode cL_law 998 = .ok (.iload 4, 2) := by decide +kernel
theorem dL_law_1000 : decode cL_law 1000 = .ok (.iconst 3, 1) := by decide +kernel
theorem dL_law_1001 : decode cL_law 1001 = .ok (.iadd, 1) := by decide +kernel
theorem dL_law_1002 : decode cL_law 1002 = .ok (.iaload, 1) := by decide +kernel
theorem dL_law_1003 : decode cL_law 1003 = .ok (.invokevirtual 138, 3) := by decide +kernel
theorem dL_law_1006 : decode cL_law 1006 = .ok (.aload_n 2, 1) := by decide +kernel
theorem dL_law_1007 : decode cL_law 1007 = .ok (.aload_n 0, 1) := by decide +kernel
theorem dL_law_1008 : decode cL_law 1008 = .ok (.iload 4, 2) := by decide +kernel
theorem dL_law_1010 : decode cL_law 1010 = .ok (.iconst 1, 1) := by decide +kernel
theorem dL_law_1011 : decode cL_law 1011 = .ok (.iadd, 1) := by decide +kernel
theorem dL_law_1012 : decode cL_law 1012 = .ok (.iaload, 1) := by decide +kernel
theorem dL_law_1013 : decode cL_law 1013 = .ok (.aload_n 0, 1) := by decide +kernel
theorem dL_law_1014 : decode cL_law 1014 = .ok (.iload 4, 2) := by decide +kernel
theorem dL_law_1016 : decode cL_law 1016 = .ok (.iconst 2, 1) := by decide +kernel
theorem dL_law_1017 : decode cL_law 1017 = .ok (.iadd, 1) := by decide +kernel
theorem dL_law_1018 : decode cL_law 1018 = .ok (.iaload, 1) := by decide +kernel
theorem dL_law_1019 : decode cL_law 1019 = .ok (.aload_n 0, 1) := by decide +kernel
theorem dL_law_1020 : decode cL_law 1020 = .ok (.iload 4, 2) := by decide +kernel
theorem dL_law_1022 : decode cL_law 1022 = .ok (.iconst 3, 1) := by decide +kernel
theorem dL_law_1023 : decode cL_law 1023 = .ok (.iadd, 1) := by decide +kernel
theorem dL_law_1024 : decode cL_law 1024 = .ok (.iaload, 1) := by decide +kernel
theorem dL_law_1025 : decode cL_law 1025 = .ok (.invokevirtual 141, 3) := by decide +kernel
theorem dL_law_1028 : decode cL_law 1028 = .ok (.if_icmp .eq 195, 3) := by decide +kernel
theorem dL_law_1031 : decode cL_law 1031 = .ok (.iconst 0, 1) := by decide +kernel
theorem dL_law_1032 : decode cL_law 1032 = .ok (.ireturn, 1) := by decide +kernel
theorem dL_law_1033 : decode cL_law 1033 = .ok (.aload_n 1, 1) := by decide +kernel
theorem dL_law_1034 : decode cL_law 1034 = .ok (.aload_n 0, 1) := by decide +kernel
theorem dL_law_1035 : decode cL_law 1035 = .ok (.iload 4, 2) := by decide +kernel
theorem dL_law_1037 : decode cL_law 1037 = .ok (.iconst 1, 1) := by decide +kernel
theorem dL_law_1038 : decode cL_law 1038 = .ok (.iadd, 1) := by decide +kernel
theorem dL_law_1039 : decode cL_law 1039 = .ok (.iaload, 1) := by decide +kernel
theorem dL_law_1040 : decode cL_law 1040 = .ok (.aload_n 0, 1) := by decide +kernel
theorem dL_law_1041 : decode cL_law 1041 = .ok (.iload 4, 2) := by decide +kernel
theorem dL_law_1043 : decode cL_law 1043 = .ok (.iconst 2, 1) := by decide +kernel
theorem dL_law_1044 : decode cL_law 1044 = .ok (.iadd, 1) := by decide +kernel
theorem dL_law_1045 : decode cL_law 1045 = .ok (.iaload, 1) := by decide +kernel
theorem dL_law_1046 : decode cL_law 1046 = .ok (.aload_n 3, 1) := by decide +kernel
theorem dL_law_1047 : decode cL_law 1047 = .ok (.invokestatic 142, 3) := by decide +kernel
theorem dL_law_1050 : decode cL_law 1050 = .ok (.istore 5, 2) := by decide +kernel
theorem dL_law_1052 : decode cL_law 1052 = .ok (.aload_n 2, 1) := by decide +kernel
theorem dL_law_1053 : decode cL_law 1053 = .ok (.aload_n 0, 1) := by decide +kernel
theorem dL_law_1054 : decode cL_law 1054 = .ok (.iload 4, 2) := by decide +kernel
theorem dL_law_1056 : decode cL_law 1056 = .ok (.iconst 1, 1) := by decide +kernel
theorem dL_law_1057 : decode cL_law 1057 = .ok (.iadd, 1) := by decide +kernel
theorem dL_law_1058 : decode cL_law 1058 = .ok (.iaload, 1) := by decide +kernel
theorem dL_law_1059 : decode cL_law 1059 = .ok (.aload_n 0, 1) := by decide +kernel
theorem dL_law_1060 : decode cL_law 1060 = .ok (.iload 4, 2) := by decide +kernel
theorem dL_law_1062 : decode cL_law 1062 = .ok (.iconst 2, 1) := by decide +kernel
theorem dL_law_1063 : decode cL_law 1063 = .ok (.iadd, 1) := by decide +kernel
theorem dL_law_1064 : decode cL_law 1064 = .ok (.iaload, 1) := by decide +kernel
theorem dL_law_1065 : decode cL_law 1065 = .ok (.invokevirtual 147, 3) := by decide +kernel
theorem dL_law_1068 : decode cL_law 1068 = .ok (.lstore 6, 2) := by decide +kernel
theorem dL_law_1070 : decode cL_law 1070 = .ok (.aload_n 2, 1) := by decide +kernel
theorem dL_law_1071 : decode cL_law 1071 = .ok (.invokevirtual 148, 3) := by decide +kernel
theorem dL_law_1074 : decode cL_law 1074 = .ok (.iload 5, 2) := by decide +kernel
theorem dL_law_1076 : decode cL_law 1076 = .ok (.if_icmp .eq 5, 3) := by decide +kernel
theorem dL_law_1079 : decode cL_law 1079 = .ok (.iconst 0, 1) := by decide +kernel
theorem dL_law_1080 : decode cL_law 1080 = .ok (.ireturn, 1) := by decide +kernel
theorem dL_law_1081 : decode cL_law 1081 = .ok (.iload 5, 2) := by decide +kernel
theorem dL_law_1083 : decode cL_law 1083 = .ok (.ifCond .ne 14, 3) := by decide +kernel
theorem dL_law_1086 : decode cL_law 1086 = .ok (.aload_n 3, 1) := by decide +kernel
theorem dL_law_1087 : decode cL_law 1087 = .ok (.iconst 0, 1) := by decide +kernel
theorem dL_law_1088 : decode cL_law 1088 = .ok (.laload, 1) := by decide +kernel
theorem dL_law_1089 : decode cL_law 1089 = .ok (.lload 6, 2) := by decide +kernel
theorem dL_law_1091 : decode cL_law 1091 = .ok (.lcmp, 1) := by decide +kernel
theorem dL_law_1092 : decode cL_law 1092 = .ok (.ifCond .eq 5, 3) := by decide +kernel
theorem dL_law_1095 : decode cL_law 1095 = .ok (.iconst 0, 1) := by decide +kernel
theorem dL_law_1096 : decode cL_law 1096 = .ok (.ireturn, 1) := by decide +kernel
theorem dL_law_1097 : decode cL_law 1097 = .ok (.goto 126, 3) := by decide +kernel
theorem dL_law_1100 : decode cL_law 1100 = .ok (.aload_n 1, 1) := by decide +kernel
theorem dL_law_1101 : decode cL_law 1101 = .ok (.aload_n 0, 1) := by decide +kernel
theorem dL_law_1102 : decode cL_law 1102 = .ok (.iload 4, 2) := by decide +kernel
theorem dL_law_1104 : decode cL_law 1104 = .ok (.iconst 1, 1) := by decide +kernel
theorem dL_law_1105 : decode cL_law 1105 = .ok (.iadd, 1) := by decide +kernel
theorem dL_law_1106 : decode cL_law 1106 = .ok (.iaload, 1) := by decide +kernel
theorem dL_law_1107 : decode cL_law 1107 = .ok (.aload_n 0, 1) := by decide +kernel
theorem dL_law_1108 : decode cL_law 1108 = .ok (.iload 4, 2) := by decide +kernel
theorem dL_law_1110 : decode cL_law 1110 = .ok (.iconst 2, 1) := by decide +kernel
theorem dL_law_1111 : decode cL_law 1111 = .ok (.iadd, 1) := by decide +kernel
theorem dL_law_1112 : decode cL_law 1112 = .ok (.iaload, 1) := by decide +kernel
theorem dL_law_1113 : decode cL_law 1113 = .ok (.aload_n 0, 1) := by decide +kernel
theorem dL_law_1114 : decode cL_law 1114 = .ok (.iload 4, 2) := by decide +kernel
theorem dL_law_1116 : decode cL_law 1116 = .ok (.iconst 3, 1) := by decide +kernel
theorem dL_law_1117 : decode cL_law 1117 = .ok (.iadd, 1) := by decide +kernel
theorem dL_law_1118 : decode cL_law 1118 = .ok (.iaload, 1) := by decide +kernel
theorem dL_law_1119 : decode cL_law 1119 = .ok (.aload_n 0, 1) := by decide +kernel
theorem dL_law_1120 : decode cL_law 1120 = .ok (.iload 4, 2) := by decide +kernel
theorem dL_law_1122 : decode cL_law 1122 = .ok (.iconst 4, 1) := by decide +kernel
theorem dL_law_1123 : decode cL_law 1123 = .ok (.iadd, 1) := by decide +kernel
theorem dL_law_1124 : decode cL_law 1124 = .ok (.iaload, 1) := by decide +kernel
theorem dL_law_1125 : decode cL_law 1125 = .ok (.aload_n 0, 1) := by decide +kernel
theorem dL_law_1126 : decode cL_law 1126 = .ok (.iload 4, 2) := by decide +kernel
theorem dL_law_1128 : decode cL_law 1128 = .ok (.iconst 5, 1) := by decide +kernel
theorem dL_law_1129 : decode cL_law 1129 = .ok (.iadd, 1) := by decide +kernel
theorem dL_law_1130 : decode cL_law 1130 = .ok (.iaload, 1) := by decide +kernel
theorem dL_law_1131 : decode cL_law 1131 = .ok (.invokevirtual 151, 3) := by decide +kernel
theorem dL_law_1134 : decode cL_law 1134 = .ok (.aload_n 2, 1) := by decide +kernel
theorem dL_law_1135 : decode cL_law 1135 = .ok (.aload_n 0, 1) := by decide +kernel
theorem dL_law_1136 : decode cL_law 1136 = .ok (.iload 4, 2) := by decide +kernel
theorem dL_law_1138 : decode cL_law 1138 = .ok (.iconst 1, 1) := by decide +kernel
theorem dL_law_1139 : decode cL_law 1139 = .ok (.iadd, 1) := by decide +kernel
theorem dL_law_1140 : decode cL_law 1140 = .ok (.iaload, 1) := by decide +kernel
theorem dL_law_1141 : decode cL_law 1141 = .ok (.aload_n 0, 1) := by decide +kernel
theorem dL_law_1142 : decode cL_law 1142 = .ok (.iload 4, 2) := by decide +kernel
theorem dL_law_1144 : decode cL_law 1144 = .ok (.iconst 2, 1) := by decide +kernel
theorem dL_law_1145 : decode cL_law 1145 = .ok (.iadd, 1) := by decide +kernel
theorem dL_law_1146 : decode cL_law 1146 = .ok (.iaload, 1) := by decide +kernel
theorem dL_law_1147 : decode cL_law 1147 = .ok (.aload_n 0, 1) := by decide +kernel
theorem dL_law_1148 : decode cL_law 1148 = .ok (.iload 4, 2) := by decide +kernel
theorem dL_law_1150 : decode cL_law 1150 = .ok (.iconst 3, 1) := by decide +kernel
theorem dL_law_1151 : decode cL_law 1151 = .ok (.iadd, 1) := by decide +kernel
theorem dL_law_1152 : decode cL_law 1152 = .ok (.iaload, 1) := by decide +kernel
theorem dL_law_1153 : decode cL_law 1153 = .ok (.aload_n 0, 1) := by decide +kernel
theorem dL_law_1154 : decode cL_law 1154 = .ok (.iload 4, 2) := by decide +kernel
theorem dL_law_1156 : decode cL_law 1156 = .ok (.iconst 4, 1) := by decide +kernel
theorem dL_law_1157 : decode cL_law 1157 = .ok (.iadd, 1) := by decide +kernel
theorem dL_law_1158 : decode cL_law 1158 = .ok (.iaload, 1) := by decide +kernel
theorem dL_law_1159 : decode cL_law 1159 = .ok (.aload_n 0, 1) := by decide +kernel
theorem dL_law_1160 : decode cL_law 1160 = .ok (.iload 4, 2) := by decide +kernel
theorem dL_law_1162 : decode cL_law 1162 = .ok (.iconst 5, 1) := by decide +kernel
theorem dL_law_1163 : decode cL_law 1163 = .ok (.iadd, 1) := by decide +kernel
theorem dL_law_1164 : decode cL_law 1164 = .ok (.iaload, 1) := by decide +kernel
theorem dL_law_1165 : decode cL_law 1165 = .ok (.invokevirtual 155, 3) := by decide +kernel
theorem dL_law_1168 : decode cL_law 1168 = .ok (.if_icmp .eq 55, 3) := by decide +kernel
theorem dL_law_1171 : decode cL_law 1171 = .ok (.iconst 0, 1) := by decide +kernel
theorem dL_law_1172 : decode cL_law 1172 = .ok (.ireturn, 1) := by decide +kernel
theorem dL_law_1173 : decode cL_law 1173 = .ok (.aload_n 1, 1) := by decide +kernel
theorem dL_law_1174 : decode cL_law 1174 = .ok (.aload_n 0, 1) := by decide +kernel
theorem dL_law_1175 : decode cL_law 1175 = .ok (.iload 4, 2) := by decide +kernel
theorem dL_law_1177 : decode cL_law 1177 = .ok (.iconst 1, 1) := by decide +kernel
theorem dL_law_1178 : decode cL_law 1178 = .ok (.iadd, 1) := by decide +kernel
theorem dL_law_1179 : decode cL_law 1179 = .ok (.iaload, 1) := by decide +kernel
theorem dL_law_1180 : decode cL_law 1180 = .ok (.invokevirtual 156, 3) := by decide +kernel
theorem dL_law_1183 : decode cL_law 1183 = .ok (.aload_n 2, 1) := by decide +kernel
theorem dL_law_1184 : decode cL_law 1184 = .ok (.aload_n 0, 1) := by decide +kernel
theorem dL_law_1185 : decode cL_law 1185 = .ok (.iload 4, 2) := by decide +kernel
theorem dL_law_1187 : decode cL_law 1187 = .ok (.iconst 1, 1) := by decide +kernel
theorem dL_law_1188 : decode cL_law 1188 = .ok (.iadd, 1) := by decide +kernel
theorem dL_law_1189 : decode cL_law 1189 = .ok (.iaload, 1) := by decide +kernel
theorem dL_law_1190 : decode cL_law 1190 = .ok (.invokevirtual 159, 3) := by decide +kernel
theorem dL_law_1193 : decode cL_law 1193 = .ok (.if_icmp .eq 30, 3) := by decide +kernel
theorem dL_law_1196 : decode cL_law 1196 = .ok (.iconst 0, 1) := by decide +kernel
theorem dL_law_1197 : decode cL_law 1197 = .ok (.ireturn, 1) := by decide +kernel
theorem dL_law_1198 : decode cL_law 1198 = .ok (.aload_n 1, 1) := by decide +kernel
theorem dL_law_1199 : decode cL_law 1199 = .ok (.aload_n 0, 1) := by decide +kernel
theorem dL_law_1200 : decode cL_law 1200 = .ok (.iload 4, 2) := by decide +kernel
theorem dL_law_1202 : decode cL_law 1202 = .ok (.iconst 1, 1) := by decide +kernel
theorem dL_law_1203 : decode cL_law 1203 = .ok (.iadd, 1) := by decide +kernel
theorem dL_law_1204 : decode cL_law 1204 = .ok (.iaload, 1) := by decide +kernel
theorem dL_law_1205 : decode cL_law 1205 = .ok (.invokevirtual 160, 3) := by decide +kernel
theorem dL_law_1208 : decode cL_law 1208 = .ok (.aload_n 2, 1) := by decide +kernel
theorem dL_law_1209 : decode cL_law 1209 = .ok (.aload_n 0, 1) := by decide +kernel
theorem dL_law_1210 : decode cL_law 1210 = .ok (.iload 4, 2) := by decide +kernel
theorem dL_law_1212 : decode cL_law 1212 = .ok (.iconst 1, 1) := by decide +kernel
theorem dL_law_1213 : decode cL_law 1213 = .ok (.iadd, 1) := by decide +kernel
theorem dL_law_1214 : decode cL_law 1214 = .ok (.iaload, 1) := by decide +kernel
theorem dL_law_1215 : decode cL_law 1215 = .ok (.invokevirtual 163, 3) := by decide +kernel
theorem dL_law_1218 : decode cL_law 1218 = .ok (.if_icmp .eq 5, 3) := by decide +kernel
theorem dL_law_1221 : decode cL_law 1221 = .ok (.iconst 0, 1) := by decide +kernel
theorem dL_law_1222 : decode cL_law 1222 = .ok (.ireturn, 1) := by decide +kernel
theorem dL_law_1223 : decode cL_law 1223 = .ok (.iinc 4 6, 3) := by decide +kernel
theorem dL_law_1226 : decode cL_law 1226 = .ok (.goto (-1203), 3) := by decide +kernel
theorem dL_law_1229 : decode cL_law 1229 = .ok (.iconst 1, 1) := by decide +kernel
theorem dL_law_1230 : decode cL_law 1230 = .ok (.ireturn, 1) := by decide +kernel
