/-! the constructors: words, decoded rows -/
theorem kw_2 : (Cond.initialized RX0) ∈ m_tb := m_tb_t (i := 2) rfl rfl
theorem kw_3 : (Cond.initialized RX5) ∈ m_tb := m_tb_t (i := 3) rfl rfl
theorem kw_4 : (Cond.initialized RX1) ∈ m_tb := m_tb_t (i := 4) rfl rfl
theorem kw_5 : (Cond.initialized RX2) ∈ m_tb := m_tb_t (i := 5) rfl rfl
theorem kw_6 : (Cond.initialized RX4) ∈ m_tb := m_tb_t (i := 6) rfl rfl
theorem kw_32 : (Cond.methodLink "GasContract" 1 objectInit) ∈ m_tb := m_tb_t (i := 32) rfl rfl
theorem kw_33 : (Cond.instanceMethod objectInit) ∈ m_tb := m_tb_t (i := 33) rfl rfl
theorem kw_34 : (Cond.code objectInit ⟨#[0xb1]⟩ 1 none) ∈ m_tb := m_tb_t (i := 34) rfl rfl
theorem kw_35 : (Cond.classLink "GasContract" 17 RX0) ∈ m_tb := m_tb_t (i := 35) rfl rfl
theorem kw_36 : (Cond.instantiable RX0 8) ∈ m_tb := m_tb_t (i := 36) rfl rfl
theorem kw_38 : (Cond.instanceMethod ⟨"GasContract$Compiler", "<init>", "()V"⟩) ∈ m_tb := m_tb_t (i := 38) rfl rfl
theorem kw_39 : (Cond.code ⟨"GasContract$Compiler", "<init>", "()V"⟩ prog_2_method_1_code 1 none) ∈ m_tb := m_tb_t (i := 39) rfl rfl
theorem kw_40 : (Cond.methodLink "GasContract$Compiler" 3 objectInit) ∈ m_tb := m_tb_t (i := 40) rfl rfl
theorem kw_41 : (Cond.classLink "GasContract$Compiler" 9 RX5) ∈ m_tb := m_tb_t (i := 41) rfl rfl
theorem kw_42 : (Cond.instantiable RX5 9) ∈ m_tb := m_tb_t (i := 42) rfl rfl
theorem kw_44 : (Cond.instanceMethod ⟨"GasContract$Tokens", "<init>", "()V"⟩) ∈ m_tb := m_tb_t (i := 44) rfl rfl
theorem kw_45 : (Cond.code ⟨"GasContract$Tokens", "<init>", "()V"⟩ prog_7_method_1_code 1 none) ∈ m_tb := m_tb_t (i := 45) rfl rfl
theorem kw_46 : (Cond.methodLink "GasContract$Tokens" 3 objectInit) ∈ m_tb := m_tb_t (i := 46) rfl rfl
theorem kw_47 : (Cond.fieldLink RX5 9 "GasContract$Tokens" "marks" "[I") ∈ m_tb := m_tb_t (i := 47) rfl rfl
theorem kw_48 : (Cond.fieldLink RX5 15 "GasContract$Tokens" "places" "[I") ∈ m_tb := m_tb_t (i := 48) rfl rfl
theorem kw_49 : (Cond.fieldLink RX5 18 "GasContract$Tokens" "stops" "[I") ∈ m_tb := m_tb_t (i := 49) rfl rfl
theorem kw_50 : (Cond.fieldLink RX5 21 "GasContract$Tokens" "numbers" "[I") ∈ m_tb := m_tb_t (i := 50) rfl rfl
theorem kw_51 : (Cond.fieldLink RX5 24 "GasContract$Tokens" "size" "I") ∈ m_tb := m_tb_t (i := 51) rfl rfl
theorem kw_52 : (Cond.fieldLink RX5 28 "GasContract$Tokens" "signs" "[I") ∈ m_tb := m_tb_t (i := 52) rfl rfl
theorem kw_53 : (Cond.fieldLink RX5 31 "GasContract$Tokens" "length" "I") ∈ m_tb := m_tb_t (i := 53) rfl rfl
theorem kw_54 : (Cond.fieldLink RX5 34 "GasContract$Tokens" "stop" "I") ∈ m_tb := m_tb_t (i := 54) rfl rfl
theorem kw_55 : (Cond.fieldLink RX5 37 "GasContract$Tokens" "number" "I") ∈ m_tb := m_tb_t (i := 55) rfl rfl
theorem kw_75 : (Cond.arrayClass .int) ∈ m_tb := m_tb_t (i := 75) rfl rfl
theorem kw_76 : (Cond.classLink "GasContract$Compiler" 18 RX1) ∈ m_tb := m_tb_t (i := 76) rfl rfl
theorem kw_77 : (Cond.instantiable RX1 6) ∈ m_tb := m_tb_t (i := 77) rfl rfl
theorem kw_79 : (Cond.instanceMethod ⟨"GasContract$Contract", "<init>", "()V"⟩) ∈ m_tb := m_tb_t (i := 79) rfl rfl
theorem kw_80 : (Cond.code ⟨"GasContract$Contract", "<init>", "()V"⟩ prog_3_method_1_code 1 none) ∈ m_tb := m_tb_t (i := 80) rfl rfl
theorem kw_81 : (Cond.methodLink "GasContract$Contract" 3 objectInit) ∈ m_tb := m_tb_t (i := 81) rfl rfl
theorem kw_82 : (Cond.fieldLink RX1 9 "GasContract$Contract" "marks" "[I") ∈ m_tb := m_tb_t (i := 82) rfl rfl
theorem kw_83 : (Cond.fieldLink RX1 15 "GasContract$Contract" "arguments" "[I") ∈ m_tb := m_tb_t (i := 83) rfl rfl
theorem kw_84 : (Cond.fieldLink RX1 18 "GasContract$Contract" "size" "I") ∈ m_tb := m_tb_t (i := 84) rfl rfl
theorem kw_86 : (Cond.fieldLink RX1 22 "GasContract$Contract" "entries" "[I") ∈ m_tb := m_tb_t (i := 86) rfl rfl
theorem kw_87 : (Cond.fieldLink RX1 25 "GasContract$Contract" "parameters" "[I") ∈ m_tb := m_tb_t (i := 87) rfl rfl
theorem kw_88 : (Cond.fieldLink RX1 28 "GasContract$Contract" "functionCount" "I") ∈ m_tb := m_tb_t (i := 88) rfl rfl
theorem kw_104 : (Cond.fieldLink RX0 12 "GasContract$Compiler" "tokens" "LGasContract$Tokens;") ∈ m_tb := m_tb_t (i := 104) rfl rfl
theorem kw_105 : (Cond.fieldLink RX0 21 "GasContract$Compiler" "draft" "LGasContract$Contract;") ∈ m_tb := m_tb_t (i := 105) rfl rfl
theorem kw_107 : (Cond.fieldLink RX0 25 "GasContract$Compiler" "at" "I") ∈ m_tb := m_tb_t (i := 107) rfl rfl
theorem kw_108 : (Cond.fieldLink RX0 29 "GasContract$Compiler" "fault" "I") ∈ m_tb := m_tb_t (i := 108) rfl rfl
theorem kw_109 : (Cond.fieldLink RX0 32 "GasContract$Compiler" "functionNames" "[I") ∈ m_tb := m_tb_t (i := 109) rfl rfl
theorem kw_110 : (Cond.fieldLink RX0 36 "GasContract$Compiler" "variableNames" "[I") ∈ m_tb := m_tb_t (i := 110) rfl rfl
theorem kw_111 : (Cond.fieldLink RX0 39 "GasContract$Compiler" "variableTypes" "[I") ∈ m_tb := m_tb_t (i := 111) rfl rfl
theorem kw_112 : (Cond.fieldLink RX0 42 "GasContract$Compiler" "variableCount" "I") ∈ m_tb := m_tb_t (i := 112) rfl rfl
theorem kw_130 : (Cond.classLink "GasContract" 24 RX2) ∈ m_tb := m_tb_t (i := 130) rfl rfl
theorem kw_131 : (Cond.instantiable RX2 11) ∈ m_tb := m_tb_t (i := 131) rfl rfl
theorem kw_133 : (Cond.instanceMethod ⟨"GasContract$Machine", "<init>", "()V"⟩) ∈ m_tb := m_tb_t (i := 133) rfl rfl
theorem kw_134 : (Cond.code ⟨"GasContract$Machine", "<init>", "()V"⟩ prog_4_method_1_code 1 none) ∈ m_tb := m_tb_t (i := 134) rfl rfl
theorem kw_135 : (Cond.methodLink "GasContract$Machine" 3 objectInit) ∈ m_tb := m_tb_t (i := 135) rfl rfl
theorem kw_136 : (Cond.classLink "GasContract$Machine" 9 RX4) ∈ m_tb := m_tb_t (i := 136) rfl rfl
theorem kw_137 : (Cond.instantiable RX4 6) ∈ m_tb := m_tb_t (i := 137) rfl rfl
theorem kw_139 : (Cond.instanceMethod ⟨"GasContract$Store", "<init>", "()V"⟩) ∈ m_tb := m_tb_t (i := 139) rfl rfl
theorem kw_140 : (Cond.code ⟨"GasContract$Store", "<init>", "()V"⟩ prog_6_method_1_code 1 none) ∈ m_tb := m_tb_t (i := 140) rfl rfl
theorem kw_141 : (Cond.methodLink "GasContract$Store" 3 objectInit) ∈ m_tb := m_tb_t (i := 141) rfl rfl
theorem kw_142 : (Cond.fieldLink RX4 9 "GasContract$Store" "keys" "[I") ∈ m_tb := m_tb_t (i := 142) rfl rfl
theorem kw_143 : (Cond.fieldLink RX4 15 "GasContract$Store" "values" "[I") ∈ m_tb := m_tb_t (i := 143) rfl rfl
theorem kw_144 : (Cond.fieldLink RX4 18 "GasContract$Store" "size" "I") ∈ m_tb := m_tb_t (i := 144) rfl rfl
theorem kw_146 : (Cond.fieldLink RX4 22 "GasContract$Store" "keptKeys" "[I") ∈ m_tb := m_tb_t (i := 146) rfl rfl
theorem kw_147 : (Cond.fieldLink RX4 25 "GasContract$Store" "keptValues" "[I") ∈ m_tb := m_tb_t (i := 147) rfl rfl
theorem kw_148 : (Cond.fieldLink RX4 28 "GasContract$Store" "keptSize" "I") ∈ m_tb := m_tb_t (i := 148) rfl rfl
theorem kw_162 : (Cond.classLink "GasContract$Machine" 18 RX1) ∈ m_tb := m_tb_t (i := 162) rfl rfl
theorem kw_164 : (Cond.fieldLink RX2 12 "GasContract$Machine" "store" "LGasContract$Store;") ∈ m_tb := m_tb_t (i := 164) rfl rfl
theorem kw_166 : (Cond.fieldLink RX2 21 "GasContract$Machine" "contract" "LGasContract$Contract;") ∈ m_tb := m_tb_t (i := 166) rfl rfl
theorem kw_168 : (Cond.fieldLink RX2 25 "GasContract$Machine" "stack" "[I") ∈ m_tb := m_tb_t (i := 168) rfl rfl
theorem kw_169 : (Cond.fieldLink RX2 29 "GasContract$Machine" "top" "I") ∈ m_tb := m_tb_t (i := 169) rfl rfl
theorem kw_170 : (Cond.fieldLink RX2 33 "GasContract$Machine" "variables" "[I") ∈ m_tb := m_tb_t (i := 170) rfl rfl
theorem kw_171 : (Cond.fieldLink RX2 36 "GasContract$Machine" "returns" "[I") ∈ m_tb := m_tb_t (i := 171) rfl rfl
theorem kw_172 : (Cond.fieldLink RX2 39 "GasContract$Machine" "calls" "I") ∈ m_tb := m_tb_t (i := 172) rfl rfl
theorem kw_173 : (Cond.fieldLink RX2 42 "GasContract$Machine" "next" "I") ∈ m_tb := m_tb_t (i := 173) rfl rfl
theorem kw_174 : (Cond.fieldLink RX2 45 "GasContract$Machine" "outcome" "I") ∈ m_tb := m_tb_t (i := 174) rfl rfl
theorem kw_175 : (Cond.fieldLink RX2 48 "GasContract$Machine" "cost" "I") ∈ m_tb := m_tb_t (i := 175) rfl rfl
theorem kw_177 : (Cond.fieldLink RX2 51 "GasContract$Machine" "given" "I") ∈ m_tb := m_tb_t (i := 177) rfl rfl
theorem kw_202 : (Cond.fieldLink RX6 9 "GasContract" "text" "[I") ∈ m_tb := m_tb_t (i := 202) rfl rfl
theorem kw_203 : (Cond.fieldLink RX6 13 "GasContract" "length" "I") ∈ m_tb := m_tb_t (i := 203) rfl rfl
theorem kw_204 : (Cond.fieldLink RX6 20 "GasContract" "compiler" "LGasContract$Compiler;") ∈ m_tb := m_tb_t (i := 204) rfl rfl
theorem kw_205 : (Cond.fieldLink RX6 27 "GasContract" "machine" "LGasContract$Machine;") ∈ m_tb := m_tb_t (i := 205) rfl rfl
theorem kw_206 : (Cond.fieldLink RX6 31 "GasContract" "compiled" "Z") ∈ m_tb := m_tb_t (i := 206) rfl rfl
theorem kw_207 : (Cond.fieldLink RX6 35 "GasContract" "given" "I") ∈ m_tb := m_tb_t (i := 207) rfl rfl
theorem kw_208 : (Cond.fieldLink RX6 38 "GasContract" "charged" "I") ∈ m_tb := m_tb_t (i := 208) rfl rfl
theorem kw_209 : (Cond.fieldLink RX6 41 "GasContract" "transactions" "I") ∈ m_tb := m_tb_t (i := 209) rfl rfl
set_option maxRecDepth 40000 in
theorem kw_1029 : (Cond.methodLink "GasContractModel" 1 objectInit) ∈ m_tb := m_tb_t (i := 1029) rfl rfl
set_option maxRecDepth 40000 in
theorem kw_1031 : (Cond.fieldLink RX7 7 "GasContractModel" "signs" "[I") ∈ m_tb := m_tb_t (i := 1031) rfl rfl
set_option maxRecDepth 40000 in
theorem kw_1038 : (Cond.fieldLink RX7 13 "GasContractModel" "pile" "[I") ∈ m_tb := m_tb_t (i := 1038) rfl rfl
set_option maxRecDepth 40000 in
theorem kw_1040 : (Cond.fieldLink RX7 16 "GasContractModel" "notes" "[I") ∈ m_tb := m_tb_t (i := 1040) rfl rfl
set_option maxRecDepth 40000 in
theorem kw_1042 : (Cond.fieldLink RX7 19 "GasContractModel" "types" "[I") ∈ m_tb := m_tb_t (i := 1042) rfl rfl
set_option maxRecDepth 40000 in
theorem kw_1046 : (Cond.fieldLink RX7 22 "GasContractModel" "names" "[I") ∈ m_tb := m_tb_t (i := 1046) rfl rfl
set_option maxRecDepth 40000 in
theorem kw_1047 : (Cond.fieldLink RX7 25 "GasContractModel" "lengths" "[I") ∈ m_tb := m_tb_t (i := 1047) rfl rfl
set_option maxRecDepth 40000 in
theorem kw_1048 : (Cond.fieldLink RX7 28 "GasContractModel" "starts" "[I") ∈ m_tb := m_tb_t (i := 1048) rfl rfl
set_option maxRecDepth 40000 in
theorem kw_1049 : (Cond.fieldLink RX7 31 "GasContractModel" "parameters" "[I") ∈ m_tb := m_tb_t (i := 1049) rfl rfl
set_option maxRecDepth 40000 in
theorem kw_1051 : (Cond.fieldLink RX7 34 "GasContractModel" "variableNames" "[I") ∈ m_tb := m_tb_t (i := 1051) rfl rfl
set_option maxRecDepth 40000 in
theorem kw_1052 : (Cond.fieldLink RX7 37 "GasContractModel" "variableLengths" "[I") ∈ m_tb := m_tb_t (i := 1052) rfl rfl
set_option maxRecDepth 40000 in
theorem kw_1053 : (Cond.fieldLink RX7 40 "GasContractModel" "variableTypes" "[I") ∈ m_tb := m_tb_t (i := 1053) rfl rfl
set_option maxRecDepth 40000 in
theorem kw_1055 : (Cond.fieldLink RX7 43 "GasContractModel" "step" "[I") ∈ m_tb := m_tb_t (i := 1055) rfl rfl
set_option maxRecDepth 40000 in
theorem kw_1056 : (Cond.fieldLink RX7 46 "GasContractModel" "part" "[I") ∈ m_tb := m_tb_t (i := 1056) rfl rfl
set_option maxRecDepth 40000 in
theorem kw_1058 : (Cond.fieldLink RX7 49 "GasContractModel" "contractStarts" "[I") ∈ m_tb := m_tb_t (i := 1058) rfl rfl
set_option maxRecDepth 40000 in
theorem kw_1059 : (Cond.fieldLink RX7 52 "GasContractModel" "contractParameters" "[I") ∈ m_tb := m_tb_t (i := 1059) rfl rfl
set_option maxRecDepth 40000 in
theorem kw_1060 : (Cond.fieldLink RX7 55 "GasContractModel" "contractStep" "[I") ∈ m_tb := m_tb_t (i := 1060) rfl rfl
set_option maxRecDepth 40000 in
theorem kw_1061 : (Cond.fieldLink RX7 58 "GasContractModel" "contractPart" "[I") ∈ m_tb := m_tb_t (i := 1061) rfl rfl
set_option maxRecDepth 40000 in
theorem kw_1063 : (Cond.fieldLink RX7 61 "GasContractModel" "keys" "[I") ∈ m_tb := m_tb_t (i := 1063) rfl rfl
set_option maxRecDepth 40000 in
theorem kw_1064 : (Cond.fieldLink RX7 64 "GasContractModel" "values" "[I") ∈ m_tb := m_tb_t (i := 1064) rfl rfl
set_option maxRecDepth 40000 in
theorem kw_1066 : (Cond.fieldLink RX7 67 "GasContractModel" "wasKeys" "[I") ∈ m_tb := m_tb_t (i := 1066) rfl rfl
set_option maxRecDepth 40000 in
theorem kw_1067 : (Cond.fieldLink RX7 70 "GasContractModel" "wasValues" "[I") ∈ m_tb := m_tb_t (i := 1067) rfl rfl
set_option maxRecDepth 40000 in
theorem kw_1069 : (Cond.fieldLink RX7 73 "GasContractModel" "worth" "[I") ∈ m_tb := m_tb_t (i := 1069) rfl rfl
set_option maxRecDepth 40000 in
theorem kw_1072 : (Cond.fieldLink RX7 76 "GasContractModel" "back" "[I") ∈ m_tb := m_tb_t (i := 1072) rfl rfl
set_option maxRecDepth 40000 in
theorem kw_1073 : (Cond.fieldLink RX7 79 "GasContractModel" "locals" "[I") ∈ m_tb := m_tb_t (i := 1073) rfl rfl
theorem d4_0 : decode prog_6_method_1_code 0 = .ok (.aload_n 0, 1) := by decide +kernel
theorem d4_1 : decode prog_6_method_1_code 1 = .ok (.invokespecial 3, 3) := by decide +kernel
theorem d4_4 : decode prog_6_method_1_code 4 = .ok (.aload_n 0, 1) := by decide +kernel
theorem d4_5 : decode prog_6_method_1_code 5 = .ok (.bipush 32, 2) := by decide +kernel
theorem d4_7 : decode prog_6_method_1_code 7 = .ok (.newarray .int, 2) := by decide +kernel
theorem d4_9 : decode prog_6_method_1_code 9 = .ok (.putfield 9, 3) := by decide +kernel
theorem d4_12 : decode prog_6_method_1_code 12 = .ok (.aload_n 0, 1) := by decide +kernel
theorem d4_13 : decode prog_6_method_1_code 13 = .ok (.bipush 32, 2) := by decide +kernel
theorem d4_15 : decode prog_6_method_1_code 15 = .ok (.newarray .int, 2) := by decide +kernel
theorem d4_17 : decode prog_6_method_1_code 17 = .ok (.putfield 15, 3) := by decide +kernel
theorem d4_20 : decode prog_6_method_1_code 20 = .ok (.aload_n 0, 1) := by decide +kernel
theorem d4_21 : decode prog_6_method_1_code 21 = .ok (.iconst 0, 1) := by decide +kernel
theorem d4_22 : decode prog_6_method_1_code 22 = .ok (.putfield 18, 3) := by decide +kernel
theorem d4_25 : decode prog_6_method_1_code 25 = .ok (.aload_n 0, 1) := by decide +kernel
theorem d4_26 : decode prog_6_method_1_code 26 = .ok (.bipush 32, 2) := by decide +kernel
theorem d4_28 : decode prog_6_method_1_code 28 = .ok (.newarray .int, 2) := by decide +kernel
theorem d4_30 : decode prog_6_method_1_code 30 = .ok (.putfield 22, 3) := by decide +kernel
theorem d4_33 : decode prog_6_method_1_code 33 = .ok (.aload_n 0, 1) := by decide +kernel
theorem d4_34 : decode prog_6_method_1_code 34 = .ok (.bipush 32, 2) := by decide +kernel
theorem d4_36 : decode prog_6_method_1_code 36 = .ok (.newarray .int, 2) := by decide +kernel
theorem d4_38 : decode prog_6_method_1_code 38 = .ok (.putfield 25, 3) := by decide +kernel
theorem d4_41 : decode prog_6_method_1_code 41 = .ok (.aload_n 0, 1) := by decide +kernel
theorem d4_42 : decode prog_6_method_1_code 42 = .ok (.iconst 0, 1) := by decide +kernel
theorem d4_43 : decode prog_6_method_1_code 43 = .ok (.putfield 28, 3) := by decide +kernel
theorem d4_46 : decode prog_6_method_1_code 46 = .ok (.return_, 1) := by decide +kernel
theorem d1_0 : decode prog_3_method_1_code 0 = .ok (.aload_n 0, 1) := by decide +kernel
theorem d1_1 : decode prog_3_method_1_code 1 = .ok (.invokespecial 3, 3) := by decide +kernel
theorem d1_4 : decode prog_3_method_1_code 4 = .ok (.aload_n 0, 1) := by decide +kernel
theorem d1_5 : decode prog_3_method_1_code 5 = .ok (.sipush 600, 3) := by decide +kernel
theorem d1_8 : decode prog_3_method_1_code 8 = .ok (.newarray .int, 2) := by decide +kernel
theorem d1_10 : decode prog_3_method_1_code 10 = .ok (.putfield 9, 3) := by decide +kernel
theorem d1_13 : decode prog_3_method_1_code 13 = .ok (.aload_n 0, 1) := by decide +kernel
theorem d1_14 : decode prog_3_method_1_code 14 = .ok (.sipush 600, 3) := by decide +kernel
theorem d1_17 : decode prog_3_method_1_code 17 = .ok (.newarray .int, 2) := by decide +kernel
theorem d1_19 : decode prog_3_method_1_code 19 = .ok (.putfield 15, 3) := by decide +kernel
theorem d1_22 : decode prog_3_method_1_code 22 = .ok (.aload_n 0, 1) := by decide +kernel
theorem d1_23 : decode prog_3_method_1_code 23 = .ok (.iconst 0, 1) := by decide +kernel
theorem d1_24 : decode prog_3_method_1_code 24 = .ok (.putfield 18, 3) := by decide +kernel
theorem d1_27 : decode prog_3_method_1_code 27 = .ok (.aload_n 0, 1) := by decide +kernel
theorem d1_28 : decode prog_3_method_1_code 28 = .ok (.bipush 8, 2) := by decide +kernel
theorem d1_30 : decode prog_3_method_1_code 30 = .ok (.newarray .int, 2) := by decide +kernel
theorem d1_32 : decode prog_3_method_1_code 32 = .ok (.putfield 22, 3) := by decide +kernel
theorem d1_35 : decode prog_3_method_1_code 35 = .ok (.aload_n 0, 1) := by decide +kernel
theorem d1_36 : decode prog_3_method_1_code 36 = .ok (.bipush 8, 2) := by decide +kernel
theorem d1_38 : decode prog_3_method_1_code 38 = .ok (.newarray .int, 2) := by decide +kernel
theorem d1_40 : decode prog_3_method_1_code 40 = .ok (.putfield 25, 3) := by decide +kernel
theorem d1_43 : decode prog_3_method_1_code 43 = .ok (.aload_n 0, 1) := by decide +kernel
theorem d1_44 : decode prog_3_method_1_code 44 = .ok (.iconst 0, 1) := by decide +kernel
theorem d1_45 : decode prog_3_method_1_code 45 = .ok (.putfield 28, 3) := by decide +kernel
theorem d1_48 : decode prog_3_method_1_code 48 = .ok (.return_, 1) := by decide +kernel
theorem d5_0 : decode prog_7_method_1_code 0 = .ok (.aload_n 0, 1) := by decide +kernel
theorem d5_1 : decode prog_7_method_1_code 1 = .ok (.invokespecial 3, 3) := by decide +kernel
theorem d5_4 : decode prog_7_method_1_code 4 = .ok (.aload_n 0, 1) := by decide +kernel
theorem d5_5 : decode prog_7_method_1_code 5 = .ok (.sipush 601, 3) := by decide +kernel
theorem d5_8 : decode prog_7_method_1_code 8 = .ok (.newarray .int, 2) := by decide +kernel
theorem d5_10 : decode prog_7_method_1_code 10 = .ok (.putfield 9, 3) := by decide +kernel
theorem d5_13 : decode prog_7_method_1_code 13 = .ok (.aload_n 0, 1) := by decide +kernel
theorem d5_14 : decode prog_7_method_1_code 14 = .ok (.sipush 601, 3) := by decide +kernel
theorem d5_17 : decode prog_7_method_1_code 17 = .ok (.newarray .int, 2) := by decide +kernel
theorem d5_19 : decode prog_7_method_1_code 19 = .ok (.putfield 15, 3) := by decide +kernel
theorem d5_22 : decode prog_7_method_1_code 22 = .ok (.aload_n 0, 1) := by decide +kernel
theorem d5_23 : decode prog_7_method_1_code 23 = .ok (.sipush 601, 3) := by decide +kernel
theorem d5_26 : decode prog_7_method_1_code 26 = .ok (.newarray .int, 2) := by decide +kernel
theorem d5_28 : decode prog_7_method_1_code 28 = .ok (.putfield 18, 3) := by decide +kernel
theorem d5_31 : decode prog_7_method_1_code 31 = .ok (.aload_n 0, 1) := by decide +kernel
theorem d5_32 : decode prog_7_method_1_code 32 = .ok (.sipush 601, 3) := by decide +kernel
theorem d5_35 : decode prog_7_method_1_code 35 = .ok (.newarray .int, 2) := by decide +kernel
theorem d5_37 : decode prog_7_method_1_code 37 = .ok (.putfield 21, 3) := by decide +kernel
theorem d5_40 : decode prog_7_method_1_code 40 = .ok (.aload_n 0, 1) := by decide +kernel
theorem d5_41 : decode prog_7_method_1_code 41 = .ok (.iconst 0, 1) := by decide +kernel
theorem d5_42 : decode prog_7_method_1_code 42 = .ok (.putfield 24, 3) := by decide +kernel
theorem d5_45 : decode prog_7_method_1_code 45 = .ok (.aload_n 0, 1) := by decide +kernel
theorem d5_46 : decode prog_7_method_1_code 46 = .ok (.iconst 0, 1) := by decide +kernel
theorem d5_47 : decode prog_7_method_1_code 47 = .ok (.newarray .int, 2) := by decide +kernel
theorem d5_49 : decode prog_7_method_1_code 49 = .ok (.putfield 28, 3) := by decide +kernel
theorem d5_52 : decode prog_7_method_1_code 52 = .ok (.aload_n 0, 1) := by decide +kernel
theorem d5_53 : decode prog_7_method_1_code 53 = .ok (.iconst 0, 1) := by decide +kernel
theorem d5_54 : decode prog_7_method_1_code 54 = .ok (.putfield 31, 3) := by decide +kernel
theorem d5_57 : decode prog_7_method_1_code 57 = .ok (.aload_n 0, 1) := by decide +kernel
theorem d5_58 : decode prog_7_method_1_code 58 = .ok (.iconst 0, 1) := by decide +kernel
theorem d5_59 : decode prog_7_method_1_code 59 = .ok (.putfield 34, 3) := by decide +kernel
theorem d5_62 : decode prog_7_method_1_code 62 = .ok (.aload_n 0, 1) := by decide +kernel
theorem d5_63 : decode prog_7_method_1_code 63 = .ok (.iconst 0, 1) := by decide +kernel
theorem d5_64 : decode prog_7_method_1_code 64 = .ok (.putfield 37, 3) := by decide +kernel
theorem d5_67 : decode prog_7_method_1_code 67 = .ok (.return_, 1) := by decide +kernel
theorem d0_0 : decode prog_2_method_1_code 0 = .ok (.aload_n 0, 1) := by decide +kernel
theorem d0_1 : decode prog_2_method_1_code 1 = .ok (.invokespecial 3, 3) := by decide +kernel
theorem d0_4 : decode prog_2_method_1_code 4 = .ok (.aload_n 0, 1) := by decide +kernel
theorem d0_5 : decode prog_2_method_1_code 5 = .ok (.new 9, 3) := by decide +kernel
theorem d0_8 : decode prog_2_method_1_code 8 = .ok (.dup, 1) := by decide +kernel
theorem d0_9 : decode prog_2_method_1_code 9 = .ok (.invokespecial 11, 3) := by decide +kernel
theorem d0_12 : decode prog_2_method_1_code 12 = .ok (.putfield 12, 3) := by decide +kernel
theorem d0_15 : decode prog_2_method_1_code 15 = .ok (.aload_n 0, 1) := by decide +kernel
theorem d0_16 : decode prog_2_method_1_code 16 = .ok (.new 18, 3) := by decide +kernel
theorem d0_19 : decode prog_2_method_1_code 19 = .ok (.dup, 1) := by decide +kernel
theorem d0_20 : decode prog_2_method_1_code 20 = .ok (.invokespecial 20, 3) := by decide +kernel
theorem d0_23 : decode prog_2_method_1_code 23 = .ok (.putfield 21, 3) := by decide +kernel
theorem d0_26 : decode prog_2_method_1_code 26 = .ok (.aload_n 0, 1) := by decide +kernel
theorem d0_27 : decode prog_2_method_1_code 27 = .ok (.iconst 0, 1) := by decide +kernel
theorem d0_28 : decode prog_2_method_1_code 28 = .ok (.putfield 25, 3) := by decide +kernel
theorem d0_31 : decode prog_2_method_1_code 31 = .ok (.aload_n 0, 1) := by decide +kernel
theorem d0_32 : decode prog_2_method_1_code 32 = .ok (.iconst (-1), 1) := by decide +kernel
theorem d0_33 : decode prog_2_method_1_code 33 = .ok (.putfield 29, 3) := by decide +kernel
theorem d0_36 : decode prog_2_method_1_code 36 = .ok (.aload_n 0, 1) := by decide +kernel
theorem d0_37 : decode prog_2_method_1_code 37 = .ok (.bipush 8, 2) := by decide +kernel
theorem d0_39 : decode prog_2_method_1_code 39 = .ok (.newarray .int, 2) := by decide +kernel
theorem d0_41 : decode prog_2_method_1_code 41 = .ok (.putfield 32, 3) := by decide +kernel
theorem d0_44 : decode prog_2_method_1_code 44 = .ok (.aload_n 0, 1) := by decide +kernel
theorem d0_45 : decode prog_2_method_1_code 45 = .ok (.bipush 8, 2) := by decide +kernel
theorem d0_47 : decode prog_2_method_1_code 47 = .ok (.newarray .int, 2) := by decide +kernel
theorem d0_49 : decode prog_2_method_1_code 49 = .ok (.putfield 36, 3) := by decide +kernel
theorem d0_52 : decode prog_2_method_1_code 52 = .ok (.aload_n 0, 1) := by decide +kernel
theorem d0_53 : decode prog_2_method_1_code 53 = .ok (.bipush 8, 2) := by decide +kernel
theorem d0_55 : decode prog_2_method_1_code 55 = .ok (.newarray .int, 2) := by decide +kernel
theorem d0_57 : decode prog_2_method_1_code 57 = .ok (.putfield 39, 3) := by decide +kernel
theorem d0_60 : decode prog_2_method_1_code 60 = .ok (.aload_n 0, 1) := by decide +kernel
theorem d0_61 : decode prog_2_method_1_code 61 = .ok (.iconst 0, 1) := by decide +kernel
theorem d0_62 : decode prog_2_method_1_code 62 = .ok (.putfield 42, 3) := by decide +kernel
theorem d0_65 : decode prog_2_method_1_code 65 = .ok (.return_, 1) := by decide +kernel
theorem d2_0 : decode prog_4_method_1_code 0 = .ok (.aload_n 0, 1) := by decide +kernel
theorem d2_1 : decode prog_4_method_1_code 1 = .ok (.invokespecial 3, 3) := by decide +kernel
theorem d2_4 : decode prog_4_method_1_code 4 = .ok (.aload_n 0, 1) := by decide +kernel
theorem d2_5 : decode prog_4_method_1_code 5 = .ok (.new 9, 3) := by decide +kernel
theorem d2_8 : decode prog_4_method_1_code 8 = .ok (.dup, 1) := by decide +kernel
theorem d2_9 : decode prog_4_method_1_code 9 = .ok (.invokespecial 11, 3) := by decide +kernel
theorem d2_12 : decode prog_4_method_1_code 12 = .ok (.putfield 12, 3) := by decide +kernel
theorem d2_15 : decode prog_4_method_1_code 15 = .ok (.aload_n 0, 1) := by decide +kernel
theorem d2_16 : decode prog_4_method_1_code 16 = .ok (.new 18, 3) := by decide +kernel
theorem d2_19 : decode prog_4_method_1_code 19 = .ok (.dup, 1) := by decide +kernel
theorem d2_20 : decode prog_4_method_1_code 20 = .ok (.invokespecial 20, 3) := by decide +kernel
theorem d2_23 : decode prog_4_method_1_code 23 = .ok (.putfield 21, 3) := by decide +kernel
theorem d2_26 : decode prog_4_method_1_code 26 = .ok (.aload_n 0, 1) := by decide +kernel
theorem d2_27 : decode prog_4_method_1_code 27 = .ok (.sipush 1080, 3) := by decide +kernel
theorem d2_30 : decode prog_4_method_1_code 30 = .ok (.newarray .int, 2) := by decide +kernel
theorem d2_32 : decode prog_4_method_1_code 32 = .ok (.putfield 25, 3) := by decide +kernel
theorem d2_35 : decode prog_4_method_1_code 35 = .ok (.aload_n 0, 1) := by decide +kernel
theorem d2_36 : decode prog_4_method_1_code 36 = .ok (.iconst 0, 1) := by decide +kernel
theorem d2_37 : decode prog_4_method_1_code 37 = .ok (.putfield 29, 3) := by decide +kernel
theorem d2_40 : decode prog_4_method_1_code 40 = .ok (.aload_n 0, 1) := by decide +kernel
theorem d2_41 : decode prog_4_method_1_code 41 = .ok (.bipush 96, 2) := by decide +kernel
theorem d2_43 : decode prog_4_method_1_code 43 = .ok (.newarray .int, 2) := by decide +kernel
theorem d2_45 : decode prog_4_method_1_code 45 = .ok (.putfield 33, 3) := by decide +kernel
theorem d2_48 : decode prog_4_method_1_code 48 = .ok (.aload_n 0, 1) := by decide +kernel
theorem d2_49 : decode prog_4_method_1_code 49 = .ok (.bipush 12, 2) := by decide +kernel
theorem d2_51 : decode prog_4_method_1_code 51 = .ok (.newarray .int, 2) := by decide +kernel
theorem d2_53 : decode prog_4_method_1_code 53 = .ok (.putfield 36, 3) := by decide +kernel
theorem d2_56 : decode prog_4_method_1_code 56 = .ok (.aload_n 0, 1) := by decide +kernel
theorem d2_57 : decode prog_4_method_1_code 57 = .ok (.iconst 0, 1) := by decide +kernel
theorem d2_58 : decode prog_4_method_1_code 58 = .ok (.putfield 39, 3) := by decide +kernel
theorem d2_61 : decode prog_4_method_1_code 61 = .ok (.aload_n 0, 1) := by decide +kernel
theorem d2_62 : decode prog_4_method_1_code 62 = .ok (.iconst 0, 1) := by decide +kernel
theorem d2_63 : decode prog_4_method_1_code 63 = .ok (.putfield 42, 3) := by decide +kernel
theorem d2_66 : decode prog_4_method_1_code 66 = .ok (.aload_n 0, 1) := by decide +kernel
theorem d2_67 : decode prog_4_method_1_code 67 = .ok (.iconst 0, 1) := by decide +kernel
theorem d2_68 : decode prog_4_method_1_code 68 = .ok (.putfield 45, 3) := by decide +kernel
theorem d2_71 : decode prog_4_method_1_code 71 = .ok (.aload_n 0, 1) := by decide +kernel
theorem d2_72 : decode prog_4_method_1_code 72 = .ok (.iconst 0, 1) := by decide +kernel
theorem d2_73 : decode prog_4_method_1_code 73 = .ok (.putfield 48, 3) := by decide +kernel
theorem d2_76 : decode prog_4_method_1_code 76 = .ok (.aload_n 0, 1) := by decide +kernel
theorem d2_77 : decode prog_4_method_1_code 77 = .ok (.iconst 0, 1) := by decide +kernel
theorem d2_78 : decode prog_4_method_1_code 78 = .ok (.putfield 51, 3) := by decide +kernel
theorem d2_81 : decode prog_4_method_1_code 81 = .ok (.return_, 1) := by decide +kernel
theorem d6_0 : decode prog_1_method_1_code 0 = .ok (.aload_n 0, 1) := by decide +kernel
theorem d6_1 : decode prog_1_method_1_code 1 = .ok (.invokespecial 1, 3) := by decide +kernel
theorem d6_4 : decode prog_1_method_1_code 4 = .ok (.aload_n 0, 1) := by decide +kernel
theorem d6_5 : decode prog_1_method_1_code 5 = .ok (.sipush 600, 3) := by decide +kernel
theorem d6_8 : decode prog_1_method_1_code 8 = .ok (.newarray .int, 2) := by decide +kernel
theorem d6_10 : decode prog_1_method_1_code 10 = .ok (.putfield 9, 3) := by decide +kernel
theorem d6_13 : decode prog_1_method_1_code 13 = .ok (.aload_n 0, 1) := by decide +kernel
theorem d6_14 : decode prog_1_method_1_code 14 = .ok (.iconst 0, 1) := by decide +kernel
theorem d6_15 : decode prog_1_method_1_code 15 = .ok (.putfield 13, 3) := by decide +kernel
theorem d6_18 : decode prog_1_method_1_code 18 = .ok (.aload_n 0, 1) := by decide +kernel
theorem d6_19 : decode prog_1_method_1_code 19 = .ok (.new 17, 3) := by decide +kernel
theorem d6_22 : decode prog_1_method_1_code 22 = .ok (.dup, 1) := by decide +kernel
theorem d6_23 : decode prog_1_method_1_code 23 = .ok (.invokespecial 19, 3) := by decide +kernel
theorem d6_26 : decode prog_1_method_1_code 26 = .ok (.putfield 20, 3) := by decide +kernel
theorem d6_29 : decode prog_1_method_1_code 29 = .ok (.aload_n 0, 1) := by decide +kernel
theorem d6_30 : decode prog_1_method_1_code 30 = .ok (.new 24, 3) := by decide +kernel
theorem d6_33 : decode prog_1_method_1_code 33 = .ok (.dup, 1) := by decide +kernel
theorem d6_34 : decode prog_1_method_1_code 34 = .ok (.invokespecial 26, 3) := by decide +kernel
theorem d6_37 : decode prog_1_method_1_code 37 = .ok (.putfield 27, 3) := by decide +kernel
theorem d6_40 : decode prog_1_method_1_code 40 = .ok (.aload_n 0, 1) := by decide +kernel
theorem d6_41 : decode prog_1_method_1_code 41 = .ok (.iconst 0, 1) := by decide +kernel
theorem d6_42 : decode prog_1_method_1_code 42 = .ok (.putfield 31, 3) := by decide +kernel
theorem d6_45 : decode prog_1_method_1_code 45 = .ok (.aload_n 0, 1) := by decide +kernel
theorem d6_46 : decode prog_1_method_1_code 46 = .ok (.iconst 0, 1) := by decide +kernel
theorem d6_47 : decode prog_1_method_1_code 47 = .ok (.putfield 35, 3) := by decide +kernel
theorem d6_50 : decode prog_1_method_1_code 50 = .ok (.aload_n 0, 1) := by decide +kernel
theorem d6_51 : decode prog_1_method_1_code 51 = .ok (.iconst 0, 1) := by decide +kernel
theorem d6_52 : decode prog_1_method_1_code 52 = .ok (.putfield 38, 3) := by decide +kernel
theorem d6_55 : decode prog_1_method_1_code 55 = .ok (.aload_n 0, 1) := by decide +kernel
theorem d6_56 : decode prog_1_method_1_code 56 = .ok (.iconst 0, 1) := by decide +kernel
theorem d6_57 : decode prog_1_method_1_code 57 = .ok (.putfield 41, 3) := by decide +kernel
theorem d6_60 : decode prog_1_method_1_code 60 = .ok (.return_, 1) := by decide +kernel
theorem d7_0 : decode prog_9_method_1_code 0 = .ok (.aload_n 0, 1) := by decide +kernel
theorem d7_1 : decode prog_9_method_1_code 1 = .ok (.invokespecial 1, 3) := by decide +kernel
theorem d7_4 : decode prog_9_method_1_code 4 = .ok (.aload_n 0, 1) := by decide +kernel
theorem d7_5 : decode prog_9_method_1_code 5 = .ok (.sipush 600, 3) := by decide +kernel
theorem d7_8 : decode prog_9_method_1_code 8 = .ok (.newarray .int, 2) := by decide +kernel
theorem d7_10 : decode prog_9_method_1_code 10 = .ok (.putfield 7, 3) := by decide +kernel
theorem d7_13 : decode prog_9_method_1_code 13 = .ok (.aload_n 0, 1) := by decide +kernel
theorem d7_14 : decode prog_9_method_1_code 14 = .ok (.sipush 900, 3) := by decide +kernel
theorem d7_17 : decode prog_9_method_1_code 17 = .ok (.newarray .int, 2) := by decide +kernel
theorem d7_19 : decode prog_9_method_1_code 19 = .ok (.putfield 13, 3) := by decide +kernel
theorem d7_22 : decode prog_9_method_1_code 22 = .ok (.aload_n 0, 1) := by decide +kernel
theorem d7_23 : decode prog_9_method_1_code 23 = .ok (.sipush 600, 3) := by decide +kernel
theorem d7_26 : decode prog_9_method_1_code 26 = .ok (.newarray .int, 2) := by decide +kernel
theorem d7_28 : decode prog_9_method_1_code 28 = .ok (.putfield 16, 3) := by decide +kernel
theorem d7_31 : decode prog_9_method_1_code 31 = .ok (.aload_n 0, 1) := by decide +kernel
theorem d7_32 : decode prog_9_method_1_code 32 = .ok (.sipush 400, 3) := by decide +kernel
theorem d7_35 : decode prog_9_method_1_code 35 = .ok (.newarray .int, 2) := by decide +kernel
theorem d7_37 : decode prog_9_method_1_code 37 = .ok (.putfield 19, 3) := by decide +kernel
theorem d7_40 : decode prog_9_method_1_code 40 = .ok (.aload_n 0, 1) := by decide +kernel
theorem d7_41 : decode prog_9_method_1_code 41 = .ok (.bipush 9, 2) := by decide +kernel
theorem d7_43 : decode prog_9_method_1_code 43 = .ok (.newarray .int, 2) := by decide +kernel
theorem d7_45 : decode prog_9_method_1_code 45 = .ok (.putfield 22, 3) := by decide +kernel
theorem d7_48 : decode prog_9_method_1_code 48 = .ok (.aload_n 0, 1) := by decide +kernel
theorem d7_49 : decode prog_9_method_1_code 49 = .ok (.bipush 9, 2) := by decide +kernel
theorem d7_51 : decode prog_9_method_1_code 51 = .ok (.newarray .int, 2) := by decide +kernel
theorem d7_53 : decode prog_9_method_1_code 53 = .ok (.putfield 25, 3) := by decide +kernel
theorem d7_56 : decode prog_9_method_1_code 56 = .ok (.aload_n 0, 1) := by decide +kernel
theorem d7_57 : decode prog_9_method_1_code 57 = .ok (.bipush 9, 2) := by decide +kernel
theorem d7_59 : decode prog_9_method_1_code 59 = .ok (.newarray .int, 2) := by decide +kernel
theorem d7_61 : decode prog_9_method_1_code 61 = .ok (.putfield 28, 3) := by decide +kernel
theorem d7_64 : decode prog_9_method_1_code 64 = .ok (.aload_n 0, 1) := by decide +kernel
theorem d7_65 : decode prog_9_method_1_code 65 = .ok (.bipush 9, 2) := by decide +kernel
theorem d7_67 : decode prog_9_method_1_code 67 = .ok (.newarray .int, 2) := by decide +kernel
theorem d7_69 : decode prog_9_method_1_code 69 = .ok (.putfield 31, 3) := by decide +kernel
theorem d7_72 : decode prog_9_method_1_code 72 = .ok (.aload_n 0, 1) := by decide +kernel
theorem d7_73 : decode prog_9_method_1_code 73 = .ok (.bipush 8, 2) := by decide +kernel
theorem d7_75 : decode prog_9_method_1_code 75 = .ok (.newarray .int, 2) := by decide +kernel
theorem d7_77 : decode prog_9_method_1_code 77 = .ok (.putfield 34, 3) := by decide +kernel
theorem d7_80 : decode prog_9_method_1_code 80 = .ok (.aload_n 0, 1) := by decide +kernel
theorem d7_81 : decode prog_9_method_1_code 81 = .ok (.bipush 8, 2) := by decide +kernel
theorem d7_83 : decode prog_9_method_1_code 83 = .ok (.newarray .int, 2) := by decide +kernel
theorem d7_85 : decode prog_9_method_1_code 85 = .ok (.putfield 37, 3) := by decide +kernel
theorem d7_88 : decode prog_9_method_1_code 88 = .ok (.aload_n 0, 1) := by decide +kernel
theorem d7_89 : decode prog_9_method_1_code 89 = .ok (.bipush 8, 2) := by decide +kernel
theorem d7_91 : decode prog_9_method_1_code 91 = .ok (.newarray .int, 2) := by decide +kernel
theorem d7_93 : decode prog_9_method_1_code 93 = .ok (.putfield 40, 3) := by decide +kernel
theorem d7_96 : decode prog_9_method_1_code 96 = .ok (.aload_n 0, 1) := by decide +kernel
theorem d7_97 : decode prog_9_method_1_code 97 = .ok (.sipush 2400, 3) := by decide +kernel
theorem d7_100 : decode prog_9_method_1_code 100 = .ok (.newarray .int, 2) := by decide +kernel
theorem d7_102 : decode prog_9_method_1_code 102 = .ok (.putfield 43, 3) := by decide +kernel
theorem d7_105 : decode prog_9_method_1_code 105 = .ok (.aload_n 0, 1) := by decide +kernel
theorem d7_106 : decode prog_9_method_1_code 106 = .ok (.sipush 2400, 3) := by decide +kernel
theorem d7_109 : decode prog_9_method_1_code 109 = .ok (.newarray .int, 2) := by decide +kernel
theorem d7_111 : decode prog_9_method_1_code 111 = .ok (.putfield 46, 3) := by decide +kernel
theorem d7_114 : decode prog_9_method_1_code 114 = .ok (.aload_n 0, 1) := by decide +kernel
theorem d7_115 : decode prog_9_method_1_code 115 = .ok (.bipush 8, 2) := by decide +kernel
theorem d7_117 : decode prog_9_method_1_code 117 = .ok (.newarray .int, 2) := by decide +kernel
theorem d7_119 : decode prog_9_method_1_code 119 = .ok (.putfield 49, 3) := by decide +kernel
theorem d7_122 : decode prog_9_method_1_code 122 = .ok (.aload_n 0, 1) := by decide +kernel
theorem d7_123 : decode prog_9_method_1_code 123 = .ok (.bipush 8, 2) := by decide +kernel
theorem d7_125 : decode prog_9_method_1_code 125 = .ok (.newarray .int, 2) := by decide +kernel
theorem d7_127 : decode prog_9_method_1_code 127 = .ok (.putfield 52, 3) := by decide +kernel
theorem d7_130 : decode prog_9_method_1_code 130 = .ok (.aload_n 0, 1) := by decide +kernel
theorem d7_131 : decode prog_9_method_1_code 131 = .ok (.sipush 2400, 3) := by decide +kernel
theorem d7_134 : decode prog_9_method_1_code 134 = .ok (.newarray .int, 2) := by decide +kernel
theorem d7_136 : decode prog_9_method_1_code 136 = .ok (.putfield 55, 3) := by decide +kernel
theorem d7_139 : decode prog_9_method_1_code 139 = .ok (.aload_n 0, 1) := by decide +kernel
theorem d7_140 : decode prog_9_method_1_code 140 = .ok (.sipush 2400, 3) := by decide +kernel
theorem d7_143 : decode prog_9_method_1_code 143 = .ok (.newarray .int, 2) := by decide +kernel
theorem d7_145 : decode prog_9_method_1_code 145 = .ok (.putfield 58, 3) := by decide +kernel
theorem d7_148 : decode prog_9_method_1_code 148 = .ok (.aload_n 0, 1) := by decide +kernel
theorem d7_149 : decode prog_9_method_1_code 149 = .ok (.bipush 32, 2) := by decide +kernel
theorem d7_151 : decode prog_9_method_1_code 151 = .ok (.newarray .int, 2) := by decide +kernel
theorem d7_153 : decode prog_9_method_1_code 153 = .ok (.putfield 61, 3) := by decide +kernel
theorem d7_156 : decode prog_9_method_1_code 156 = .ok (.aload_n 0, 1) := by decide +kernel
theorem d7_157 : decode prog_9_method_1_code 157 = .ok (.bipush 32, 2) := by decide +kernel
theorem d7_159 : decode prog_9_method_1_code 159 = .ok (.newarray .int, 2) := by decide +kernel
theorem d7_161 : decode prog_9_method_1_code 161 = .ok (.putfield 64, 3) := by decide +kernel
theorem d7_164 : decode prog_9_method_1_code 164 = .ok (.aload_n 0, 1) := by decide +kernel
theorem d7_165 : decode prog_9_method_1_code 165 = .ok (.bipush 32, 2) := by decide +kernel
theorem d7_167 : decode prog_9_method_1_code 167 = .ok (.newarray .int, 2) := by decide +kernel
theorem d7_169 : decode prog_9_method_1_code 169 = .ok (.putfield 67, 3) := by decide +kernel
theorem d7_172 : decode prog_9_method_1_code 172 = .ok (.aload_n 0, 1) := by decide +kernel
theorem d7_173 : decode prog_9_method_1_code 173 = .ok (.bipush 32, 2) := by decide +kernel
theorem d7_175 : decode prog_9_method_1_code 175 = .ok (.newarray .int, 2) := by decide +kernel
theorem d7_177 : decode prog_9_method_1_code 177 = .ok (.putfield 70, 3) := by decide +kernel
theorem d7_180 : decode prog_9_method_1_code 180 = .ok (.aload_n 0, 1) := by decide +kernel
theorem d7_181 : decode prog_9_method_1_code 181 = .ok (.sipush 3000, 3) := by decide +kernel
theorem d7_184 : decode prog_9_method_1_code 184 = .ok (.newarray .int, 2) := by decide +kernel
theorem d7_186 : decode prog_9_method_1_code 186 = .ok (.putfield 73, 3) := by decide +kernel
theorem d7_189 : decode prog_9_method_1_code 189 = .ok (.aload_n 0, 1) := by decide +kernel
theorem d7_190 : decode prog_9_method_1_code 190 = .ok (.bipush 13, 2) := by decide +kernel
theorem d7_192 : decode prog_9_method_1_code 192 = .ok (.newarray .int, 2) := by decide +kernel
theorem d7_194 : decode prog_9_method_1_code 194 = .ok (.putfield 76, 3) := by decide +kernel
theorem d7_197 : decode prog_9_method_1_code 197 = .ok (.aload_n 0, 1) := by decide +kernel
theorem d7_198 : decode prog_9_method_1_code 198 = .ok (.bipush 104, 2) := by decide +kernel
theorem d7_200 : decode prog_9_method_1_code 200 = .ok (.newarray .int, 2) := by decide +kernel
theorem d7_202 : decode prog_9_method_1_code 202 = .ok (.putfield 79, 3) := by decide +kernel
theorem d7_205 : decode prog_9_method_1_code 205 = .ok (.return_, 1) := by decide +kernel
