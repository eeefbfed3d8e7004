/-! words of the JDK's own code, by their places -/
set_option maxRecDepth 40000 in
theorem m_jw13 : (Cond.initialized "java/lang/String") ∈ m_tb := m_tb_t (i := 13) rfl rfl
set_option maxRecDepth 40000 in
theorem m_jw14 : (Cond.initialized "java/lang/StringLatin1") ∈ m_tb := m_tb_t (i := 14) rfl rfl
set_option maxRecDepth 40000 in
theorem m_jw15 : (Cond.initialized "jdk/internal/util/Preconditions") ∈ m_tb := m_tb_t (i := 15) rfl rfl
set_option maxRecDepth 40000 in
theorem m_jw17 : (Cond.initialized "java/lang/Math") ∈ m_tb := m_tb_t (i := 17) rfl rfl
set_option maxRecDepth 40000 in
theorem m_jw19 : (Cond.initialized "java/lang/System") ∈ m_tb := m_tb_t (i := 19) rfl rfl
set_option maxRecDepth 40000 in
theorem m_jw271 : (Cond.methodLink "GasContract$Tokens" 116 ⟨"java/lang/String", "length", "()I"⟩) ∈ m_tb := m_tb_t (i := 271) rfl rfl
set_option maxRecDepth 40000 in
theorem m_jw272 : (Cond.instanceMethod ⟨"java/lang/String", "length", "()I"⟩) ∈ m_tb := m_tb_t (i := 272) rfl rfl
set_option maxRecDepth 40000 in
theorem m_jw273 : (Cond.selects "java/lang/String" ⟨"java/lang/String", "length", "()I"⟩ ⟨"java/lang/String", "length", "()I"⟩) ∈ m_tb := m_tb_t (i := 273) rfl rfl
set_option maxRecDepth 40000 in
theorem m_jw274 : (Cond.code ⟨"java/lang/String", "length", "()I"⟩ prog_20_method_54_code 1 (some .int)) ∈ m_tb := m_tb_t (i := 274) rfl rfl
set_option maxRecDepth 40000 in
theorem m_jw275 : (Cond.methodLink "java/lang/String" 335 ⟨"java/lang/String", "coder", "()B"⟩) ∈ m_tb := m_tb_t (i := 275) rfl rfl
set_option maxRecDepth 40000 in
theorem m_jw276 : (Cond.instanceMethod ⟨"java/lang/String", "coder", "()B"⟩) ∈ m_tb := m_tb_t (i := 276) rfl rfl
set_option maxRecDepth 40000 in
theorem m_jw277 : (Cond.selects "java/lang/String" ⟨"java/lang/String", "coder", "()B"⟩ ⟨"java/lang/String", "coder", "()B"⟩) ∈ m_tb := m_tb_t (i := 277) rfl rfl
set_option maxRecDepth 40000 in
theorem m_jw278 : (Cond.code ⟨"java/lang/String", "coder", "()B"⟩ prog_20_method_152_code 1 (some .byte)) ∈ m_tb := m_tb_t (i := 278) rfl rfl
set_option maxRecDepth 40000 in
theorem m_jw279 : (Cond.fieldLink "java/lang/String" 38 "java/lang/String" "COMPACT_STRINGS" "Z") ∈ m_tb := m_tb_t (i := 279) rfl rfl
set_option maxRecDepth 40000 in
theorem m_jw281 : (Cond.methodLink "GasContract$Tokens" 121 ⟨"java/lang/String", "charAt", "(I)C"⟩) ∈ m_tb := m_tb_t (i := 281) rfl rfl
set_option maxRecDepth 40000 in
theorem m_jw282 : (Cond.instanceMethod ⟨"java/lang/String", "charAt", "(I)C"⟩) ∈ m_tb := m_tb_t (i := 282) rfl rfl
set_option maxRecDepth 40000 in
theorem m_jw283 : (Cond.selects "java/lang/String" ⟨"java/lang/String", "charAt", "(I)C"⟩ ⟨"java/lang/String", "charAt", "(I)C"⟩) ∈ m_tb := m_tb_t (i := 283) rfl rfl
set_option maxRecDepth 40000 in
theorem m_jw284 : (Cond.code ⟨"java/lang/String", "charAt", "(I)C"⟩ prog_20_method_56_code 2 (some .char)) ∈ m_tb := m_tb_t (i := 284) rfl rfl
set_option maxRecDepth 40000 in
theorem m_jw285 : (Cond.methodLink "java/lang/String" 492 ⟨"java/lang/String", "isLatin1", "()Z"⟩) ∈ m_tb := m_tb_t (i := 285) rfl rfl
set_option maxRecDepth 40000 in
theorem m_jw286 : (Cond.instanceMethod ⟨"java/lang/String", "isLatin1", "()Z"⟩) ∈ m_tb := m_tb_t (i := 286) rfl rfl
set_option maxRecDepth 40000 in
theorem m_jw287 : (Cond.selects "java/lang/String" ⟨"java/lang/String", "isLatin1", "()Z"⟩ ⟨"java/lang/String", "isLatin1", "()Z"⟩) ∈ m_tb := m_tb_t (i := 287) rfl rfl
set_option maxRecDepth 40000 in
theorem m_jw288 : (Cond.code ⟨"java/lang/String", "isLatin1", "()Z"⟩ prog_20_method_154_code 1 (some .boolean)) ∈ m_tb := m_tb_t (i := 288) rfl rfl
set_option maxRecDepth 40000 in
theorem m_jw289 : (Cond.methodLink "java/lang/String" 495 ⟨"java/lang/StringLatin1", "charAt", "([BI)C"⟩) ∈ m_tb := m_tb_t (i := 289) rfl rfl
set_option maxRecDepth 40000 in
theorem m_jw290 : (Cond.static ⟨"java/lang/StringLatin1", "charAt", "([BI)C"⟩) ∈ m_tb := m_tb_t (i := 290) rfl rfl
set_option maxRecDepth 40000 in
theorem m_jw291 : (Cond.code ⟨"java/lang/StringLatin1", "charAt", "([BI)C"⟩ prog_22_method_2_code 2 (some .char)) ∈ m_tb := m_tb_t (i := 291) rfl rfl
set_option maxRecDepth 40000 in
theorem m_jw292 : (Cond.methodLink "java/lang/StringLatin1" 9 ⟨"java/lang/String", "checkIndex", "(II)V"⟩) ∈ m_tb := m_tb_t (i := 292) rfl rfl
set_option maxRecDepth 40000 in
theorem m_jw293 : (Cond.static ⟨"java/lang/String", "checkIndex", "(II)V"⟩) ∈ m_tb := m_tb_t (i := 293) rfl rfl
set_option maxRecDepth 40000 in
theorem m_jw294 : (Cond.code ⟨"java/lang/String", "checkIndex", "(II)V"⟩ prog_20_method_155_code 2 none) ∈ m_tb := m_tb_t (i := 294) rfl rfl
set_option maxRecDepth 40000 in
theorem m_jw295 : (Cond.fieldLink "java/lang/String" 1053 "jdk/internal/util/Preconditions" "SIOOBE_FORMATTER" "Ljava/util/function/BiFunction;") ∈ m_tb := m_tb_t (i := 295) rfl rfl
set_option maxRecDepth 40000 in
theorem m_jw297 : (Cond.methodLink "java/lang/String" 1059 ⟨"jdk/internal/util/Preconditions", "checkIndex", "(IILjava/util/function/BiFunction;)I"⟩) ∈ m_tb := m_tb_t (i := 297) rfl rfl
set_option maxRecDepth 40000 in
theorem m_jw298 : (Cond.static ⟨"jdk/internal/util/Preconditions", "checkIndex", "(IILjava/util/function/BiFunction;)I"⟩) ∈ m_tb := m_tb_t (i := 298) rfl rfl
set_option maxRecDepth 40000 in
theorem m_jw299 : (Cond.code ⟨"jdk/internal/util/Preconditions", "checkIndex", "(IILjava/util/function/BiFunction;)I"⟩ prog_29_method_11_code 3 (some .int)) ∈ m_tb := m_tb_t (i := 299) rfl rfl
set_option maxRecDepth 40000 in
theorem m_jw335 : (Cond.methodLink "GasContract$Tokens" 84 ⟨"java/lang/Math", "min", "(JJ)J"⟩) ∈ m_tb := m_tb_t (i := 335) rfl rfl
set_option maxRecDepth 40000 in
theorem m_jw336 : (Cond.static ⟨"java/lang/Math", "min", "(JJ)J"⟩) ∈ m_tb := m_tb_t (i := 336) rfl rfl
set_option maxRecDepth 40000 in
theorem m_jw337 : (Cond.code ⟨"java/lang/Math", "min", "(JJ)J"⟩ prog_18_method_70_code 4 (some .long)) ∈ m_tb := m_tb_t (i := 337) rfl rfl
set_option maxRecDepth 40000 in
theorem m_jw580 : (Cond.methodLink "GasContract$Contract" 31 ⟨"java/lang/System", "arraycopy", "(Ljava/lang/Object;ILjava/lang/Object;II)V"⟩) ∈ m_tb := m_tb_t (i := 583) rfl rfl
set_option maxRecDepth 40000 in
theorem m_jw581 : (Cond.static ⟨"java/lang/System", "arraycopy", "(Ljava/lang/Object;ILjava/lang/Object;II)V"⟩) ∈ m_tb := m_tb_t (i := 584) rfl rfl
set_option maxRecDepth 40000 in
theorem m_jw582 : (Cond.native ⟨"java/lang/System", "arraycopy", "(Ljava/lang/Object;ILjava/lang/Object;II)V"⟩) ∈ m_tb := m_tb_t (i := 585) rfl rfl
set_option maxRecDepth 40000 in
theorem m_jw695 : (Cond.methodLink "GasContract$Store" 35 ⟨"java/lang/System", "arraycopy", "(Ljava/lang/Object;ILjava/lang/Object;II)V"⟩) ∈ m_tb := m_tb_t (i := 698) rfl rfl
set_option maxRecDepth 40000 in
theorem m_jw925 : (Cond.fieldLink "java/lang/String" 9 "java/lang/String" "value" "[B") ∈ m_tb := m_tb_t (i := 926) rfl rfl
set_option maxRecDepth 40000 in
theorem m_jw926 : (Cond.fieldLink "java/lang/String" 15 "java/lang/String" "coder" "B") ∈ m_tb := m_tb_t (i := 927) rfl rfl
set_option maxRecDepth 40000 in
theorem m_jw446 : (Cond.methodLink "GasContract$Tokens" 49 ⟨"java/lang/Math", "max", "(II)I"⟩) ∈ m_tb := m_tb_t (i := 446) rfl rfl
set_option maxRecDepth 40000 in
theorem m_jw447 : (Cond.static ⟨"java/lang/Math", "max", "(II)I"⟩) ∈ m_tb := m_tb_t (i := 447) rfl rfl
set_option maxRecDepth 40000 in
theorem m_jw448 : (Cond.code ⟨"java/lang/Math", "max", "(II)I"⟩ prog_18_method_65_code 2 (some .int)) ∈ m_tb := m_tb_t (i := 448) rfl rfl
