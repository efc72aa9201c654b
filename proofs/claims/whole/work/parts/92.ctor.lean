/-! words and rows of the constructors -/
theorem zq_91 : Cond.methodLink RX11 3 objectInit ∈ zj_T := zj_mem (i := 91) (by decide +kernel) rfl
theorem zq_92 : Cond.instanceMethod objectInit ∈ zj_T := zj_mem (i := 92) (by decide +kernel) rfl
theorem zq_93 : Cond.code objectInit ⟨#[0xb1]⟩ 1 none ∈ zj_T := zj_mem (i := 93) (by decide +kernel) rfl
theorem zq_94 : Cond.classLink RX11 9 RX5 ∈ zj_T := zj_mem (i := 94) (by decide +kernel) rfl
theorem zq_95 : Cond.instantiable RX5 4 ∈ zj_T := zj_mem (i := 95) (by decide +kernel) rfl
theorem zq_96 : Cond.methodLink RX11 11 yX5_init ∈ zj_T := zj_mem (i := 96) (by decide +kernel) rfl
theorem zq_97 : Cond.instanceMethod yX5_init ∈ zj_T := zj_mem (i := 97) (by decide +kernel) rfl
theorem zq_98 : Cond.code yX5_init cX5_init 2 none ∈ zj_T := zj_mem (i := 98) (by decide +kernel) rfl
theorem zq_99 : Cond.methodLink RX5 1 objectInit ∈ zj_T := zj_mem (i := 99) (by decide +kernel) rfl
theorem zq_122 : Cond.arrayClass .int ∈ zj_T := zj_mem (i := 122) (by decide +kernel) rfl
theorem zq_123 : Cond.classLink RX11 16 RX9 ∈ zj_T := zj_mem (i := 123) (by decide +kernel) rfl
theorem zq_125 : Cond.instantiable RX9 1 ∈ zj_T := zj_mem (i := 125) (by decide +kernel) rfl
theorem zq_126 : Cond.methodLink RX11 18 yX9_init ∈ zj_T := zj_mem (i := 126) (by decide +kernel) rfl
theorem zq_127 : Cond.instanceMethod yX9_init ∈ zj_T := zj_mem (i := 127) (by decide +kernel) rfl
theorem zq_128 : Cond.code yX9_init cX9_init 2 none ∈ zj_T := zj_mem (i := 128) (by decide +kernel) rfl
theorem zq_129 : Cond.methodLink RX9 1 objectInit ∈ zj_T := zj_mem (i := 129) (by decide +kernel) rfl
theorem zq_135 : Cond.instantiable RX1 1 ∈ zj_T := zj_mem (i := 135) (by decide +kernel) rfl
theorem zq_136 : Cond.methodLink RX11 23 yX1_init ∈ zj_T := zj_mem (i := 136) (by decide +kernel) rfl
theorem zq_137 : Cond.instanceMethod yX1_init ∈ zj_T := zj_mem (i := 137) (by decide +kernel) rfl
theorem zq_138 : Cond.code yX1_init cX1_init 2 none ∈ zj_T := zj_mem (i := 138) (by decide +kernel) rfl
theorem zq_139 : Cond.methodLink RX1 1 yX9_init ∈ zj_T := zj_mem (i := 139) (by decide +kernel) rfl
theorem zq_143 : Cond.instantiable RX7 1 ∈ zj_T := zj_mem (i := 143) (by decide +kernel) rfl
theorem zq_144 : Cond.methodLink RX11 26 yX7_init ∈ zj_T := zj_mem (i := 144) (by decide +kernel) rfl
theorem zq_145 : Cond.instanceMethod yX7_init ∈ zj_T := zj_mem (i := 145) (by decide +kernel) rfl
theorem zq_146 : Cond.code yX7_init cX7_init 2 none ∈ zj_T := zj_mem (i := 146) (by decide +kernel) rfl
theorem zq_147 : Cond.methodLink RX7 1 yX9_init ∈ zj_T := zj_mem (i := 147) (by decide +kernel) rfl
theorem zq_151 : Cond.instantiable RX0 1 ∈ zj_T := zj_mem (i := 151) (by decide +kernel) rfl
theorem zq_152 : Cond.methodLink RX11 29 yX0_init ∈ zj_T := zj_mem (i := 152) (by decide +kernel) rfl
theorem zq_153 : Cond.instanceMethod yX0_init ∈ zj_T := zj_mem (i := 153) (by decide +kernel) rfl
theorem zq_154 : Cond.code yX0_init cX0_init 2 none ∈ zj_T := zj_mem (i := 154) (by decide +kernel) rfl
theorem zq_155 : Cond.methodLink RX0 1 yX9_init ∈ zj_T := zj_mem (i := 155) (by decide +kernel) rfl
theorem zq_159 : Cond.instantiable RX6 1 ∈ zj_T := zj_mem (i := 159) (by decide +kernel) rfl
theorem zq_160 : Cond.methodLink RX11 32 yX6_init ∈ zj_T := zj_mem (i := 160) (by decide +kernel) rfl
theorem zq_161 : Cond.instanceMethod yX6_init ∈ zj_T := zj_mem (i := 161) (by decide +kernel) rfl
theorem zq_162 : Cond.code yX6_init cX6_init 2 none ∈ zj_T := zj_mem (i := 162) (by decide +kernel) rfl
theorem zq_163 : Cond.methodLink RX6 1 yX1_init ∈ zj_T := zj_mem (i := 163) (by decide +kernel) rfl
theorem zq_167 : Cond.instantiable RX3 1 ∈ zj_T := zj_mem (i := 167) (by decide +kernel) rfl
theorem zq_168 : Cond.methodLink RX11 35 yX3_init ∈ zj_T := zj_mem (i := 168) (by decide +kernel) rfl
theorem zq_169 : Cond.instanceMethod yX3_init ∈ zj_T := zj_mem (i := 169) (by decide +kernel) rfl
theorem zq_170 : Cond.code yX3_init cX3_init 2 none ∈ zj_T := zj_mem (i := 170) (by decide +kernel) rfl
theorem zq_171 : Cond.methodLink RX3 1 yX7_init ∈ zj_T := zj_mem (i := 171) (by decide +kernel) rfl
theorem zq_175 : Cond.instantiable RX8 1 ∈ zj_T := zj_mem (i := 175) (by decide +kernel) rfl
theorem zq_176 : Cond.methodLink RX11 38 yX8_init ∈ zj_T := zj_mem (i := 176) (by decide +kernel) rfl
theorem zq_177 : Cond.instanceMethod yX8_init ∈ zj_T := zj_mem (i := 177) (by decide +kernel) rfl
theorem zq_178 : Cond.code yX8_init cX8_init 2 none ∈ zj_T := zj_mem (i := 178) (by decide +kernel) rfl
theorem zq_179 : Cond.methodLink RX8 1 yX0_init ∈ zj_T := zj_mem (i := 179) (by decide +kernel) rfl
theorem zq_182 : Cond.classLink RX11 39 RX2 ∈ zj_T := zj_mem (i := 182) (by decide +kernel) rfl
theorem zq_183 : Cond.instantiable RX2 11 ∈ zj_T := zj_mem (i := 183) (by decide +kernel) rfl
theorem zq_184 : Cond.methodLink RX11 41 yX2_init ∈ zj_T := zj_mem (i := 184) (by decide +kernel) rfl
theorem zq_185 : Cond.instanceMethod yX2_init ∈ zj_T := zj_mem (i := 185) (by decide +kernel) rfl
theorem zq_186 : Cond.code yX2_init cX2_init 2 none ∈ zj_T := zj_mem (i := 186) (by decide +kernel) rfl
theorem zq_187 : Cond.methodLink RX2 3 objectInit ∈ zj_T := zj_mem (i := 187) (by decide +kernel) rfl
theorem zq_226 : Cond.classLink RX11 56 RX10 ∈ zj_T := zj_mem (i := 226) (by decide +kernel) rfl
theorem zq_227 : Cond.instantiable RX10 7 ∈ zj_T := zj_mem (i := 227) (by decide +kernel) rfl
theorem zq_228 : Cond.methodLink RX11 58 yX10_init ∈ zj_T := zj_mem (i := 228) (by decide +kernel) rfl
theorem zq_229 : Cond.instanceMethod yX10_init ∈ zj_T := zj_mem (i := 229) (by decide +kernel) rfl
theorem zq_230 : Cond.code yX10_init cX10_init 3 none ∈ zj_T := zj_mem (i := 230) (by decide +kernel) rfl
theorem zq_231 : Cond.methodLink RX10 3 objectInit ∈ zj_T := zj_mem (i := 231) (by decide +kernel) rfl
theorem zq_232 : Cond.classLink RX10 9 RX5 ∈ zj_T := zj_mem (i := 232) (by decide +kernel) rfl
theorem zq_233 : Cond.methodLink RX10 13 yX5_init ∈ zj_T := zj_mem (i := 233) (by decide +kernel) rfl
theorem zq_234 : Cond.classLink RX10 35 RX4 ∈ zj_T := zj_mem (i := 234) (by decide +kernel) rfl
theorem zq_235 : Cond.instantiable RX4 18 ∈ zj_T := zj_mem (i := 235) (by decide +kernel) rfl
theorem zq_236 : Cond.methodLink RX10 37 yX4_init ∈ zj_T := zj_mem (i := 236) (by decide +kernel) rfl
theorem zq_237 : Cond.instanceMethod yX4_init ∈ zj_T := zj_mem (i := 237) (by decide +kernel) rfl
theorem zq_238 : Cond.code yX4_init cX4_init 4 none ∈ zj_T := zj_mem (i := 238) (by decide +kernel) rfl
theorem zq_239 : Cond.methodLink RX4 3 objectInit ∈ zj_T := zj_mem (i := 239) (by decide +kernel) rfl
theorem zq_338 : Cond.classLink RX11 68 RX4 ∈ zj_T := zj_mem (i := 338) (by decide +kernel) rfl
theorem zq_340 : Cond.methodLink RX11 71 yX4_init ∈ zj_T := zj_mem (i := 340) (by decide +kernel) rfl
theorem zq_980 : Cond.methodLink RX12 3 objectInit ∈ zj_T := zj_mem (i := 980) (by decide +kernel) rfl
theorem zq_1047 : Cond.arrayClass .boolean ∈ zj_T := zj_mem (i := 1047) (by decide +kernel) rfl
theorem dX9_init_0 : decode cX9_init 0 = .ok (.aload_n 0, 1) := by decide +kernel
theorem dX9_init_1 : decode cX9_init 1 = .ok (.invokespecial 1, 3) := by decide +kernel
theorem dX9_init_4 : decode cX9_init 4 = .ok (.aload_n 0, 1) := by decide +kernel
theorem dX9_init_5 : decode cX9_init 5 = .ok (.aload_n 1, 1) := by decide +kernel
theorem dX9_init_6 : decode cX9_init 6 = .ok (.putfield 7, 3) := by decide +kernel
theorem dX9_init_9 : decode cX9_init 9 = .ok (.return_, 1) := by decide +kernel
theorem dX1_init_0 : decode cX1_init 0 = .ok (.aload_n 0, 1) := by decide +kernel
theorem dX1_init_1 : decode cX1_init 1 = .ok (.aload_n 1, 1) := by decide +kernel
theorem dX1_init_2 : decode cX1_init 2 = .ok (.invokespecial 1, 3) := by decide +kernel
theorem dX1_init_5 : decode cX1_init 5 = .ok (.return_, 1) := by decide +kernel
theorem dX7_init_0 : decode cX7_init 0 = .ok (.aload_n 0, 1) := by decide +kernel
theorem dX7_init_1 : decode cX7_init 1 = .ok (.aload_n 1, 1) := by decide +kernel
theorem dX7_init_2 : decode cX7_init 2 = .ok (.invokespecial 1, 3) := by decide +kernel
theorem dX7_init_5 : decode cX7_init 5 = .ok (.return_, 1) := by decide +kernel
theorem dX0_init_0 : decode cX0_init 0 = .ok (.aload_n 0, 1) := by decide +kernel
theorem dX0_init_1 : decode cX0_init 1 = .ok (.aload_n 1, 1) := by decide +kernel
theorem dX0_init_2 : decode cX0_init 2 = .ok (.invokespecial 1, 3) := by decide +kernel
theorem dX0_init_5 : decode cX0_init 5 = .ok (.return_, 1) := by decide +kernel
theorem dX6_init_0 : decode cX6_init 0 = .ok (.aload_n 0, 1) := by decide +kernel
theorem dX6_init_1 : decode cX6_init 1 = .ok (.aload_n 1, 1) := by decide +kernel
theorem dX6_init_2 : decode cX6_init 2 = .ok (.invokespecial 1, 3) := by decide +kernel
theorem dX6_init_5 : decode cX6_init 5 = .ok (.return_, 1) := by decide +kernel
theorem dX3_init_0 : decode cX3_init 0 = .ok (.aload_n 0, 1) := by decide +kernel
theorem dX3_init_1 : decode cX3_init 1 = .ok (.aload_n 1, 1) := by decide +kernel
theorem dX3_init_2 : decode cX3_init 2 = .ok (.invokespecial 1, 3) := by decide +kernel
theorem dX3_init_5 : decode cX3_init 5 = .ok (.return_, 1) := by decide +kernel
theorem dX8_init_0 : decode cX8_init 0 = .ok (.aload_n 0, 1) := by decide +kernel
theorem dX8_init_1 : decode cX8_init 1 = .ok (.aload_n 1, 1) := by decide +kernel
theorem dX8_init_2 : decode cX8_init 2 = .ok (.invokespecial 1, 3) := by decide +kernel
theorem dX8_init_5 : decode cX8_init 5 = .ok (.return_, 1) := by decide +kernel
theorem dX5_init_0 : decode cX5_init 0 = .ok (.aload_n 0, 1) := by decide +kernel
theorem dX5_init_1 : decode cX5_init 1 = .ok (.invokespecial 1, 3) := by decide +kernel
theorem dX5_init_4 : decode cX5_init 4 = .ok (.aload_n 0, 1) := by decide +kernel
theorem dX5_init_5 : decode cX5_init 5 = .ok (.iload_n 1, 1) := by decide +kernel
theorem dX5_init_6 : decode cX5_init 6 = .ok (.newarray .int, 2) := by decide +kernel
theorem dX5_init_8 : decode cX5_init 8 = .ok (.putfield 7, 3) := by decide +kernel
theorem dX5_init_11 : decode cX5_init 11 = .ok (.aload_n 0, 1) := by decide +kernel
theorem dX5_init_12 : decode cX5_init 12 = .ok (.iload_n 1, 1) := by decide +kernel
theorem dX5_init_13 : decode cX5_init 13 = .ok (.newarray .int, 2) := by decide +kernel
theorem dX5_init_15 : decode cX5_init 15 = .ok (.putfield 13, 3) := by decide +kernel
theorem dX5_init_18 : decode cX5_init 18 = .ok (.aload_n 0, 1) := by decide +kernel
theorem dX5_init_19 : decode cX5_init 19 = .ok (.iload_n 1, 1) := by decide +kernel
theorem dX5_init_20 : decode cX5_init 20 = .ok (.newarray .int, 2) := by decide +kernel
theorem dX5_init_22 : decode cX5_init 22 = .ok (.putfield 16, 3) := by decide +kernel
theorem dX5_init_25 : decode cX5_init 25 = .ok (.return_, 1) := by decide +kernel
theorem dX2_init_0 : decode cX2_init 0 = .ok (.aload_n 0, 1) := by decide +kernel
theorem dX2_init_1 : decode cX2_init 1 = .ok (.invokespecial 3, 3) := by decide +kernel
theorem dX2_init_4 : decode cX2_init 4 = .ok (.aload_n 0, 1) := by decide +kernel
theorem dX2_init_5 : decode cX2_init 5 = .ok (.bipush 100, 2) := by decide +kernel
theorem dX2_init_7 : decode cX2_init 7 = .ok (.newarray .int, 2) := by decide +kernel
theorem dX2_init_9 : decode cX2_init 9 = .ok (.putfield 11, 3) := by decide +kernel
theorem dX2_init_12 : decode cX2_init 12 = .ok (.aload_n 0, 1) := by decide +kernel
theorem dX2_init_13 : decode cX2_init 13 = .ok (.bipush 100, 2) := by decide +kernel
theorem dX2_init_15 : decode cX2_init 15 = .ok (.newarray .int, 2) := by decide +kernel
theorem dX2_init_17 : decode cX2_init 17 = .ok (.putfield 15, 3) := by decide +kernel
theorem dX2_init_20 : decode cX2_init 20 = .ok (.aload_n 0, 1) := by decide +kernel
theorem dX2_init_21 : decode cX2_init 21 = .ok (.bipush 6, 2) := by decide +kernel
theorem dX2_init_23 : decode cX2_init 23 = .ok (.newarray .int, 2) := by decide +kernel
theorem dX2_init_25 : decode cX2_init 25 = .ok (.putfield 18, 3) := by decide +kernel
theorem dX2_init_28 : decode cX2_init 28 = .ok (.aload_n 0, 1) := by decide +kernel
theorem dX2_init_29 : decode cX2_init 29 = .ok (.aload_n 1, 1) := by decide +kernel
theorem dX2_init_30 : decode cX2_init 30 = .ok (.putfield 21, 3) := by decide +kernel
theorem dX2_init_33 : decode cX2_init 33 = .ok (.return_, 1) := by decide +kernel
theorem dX4_init_0 : decode cX4_init 0 = .ok (.aload_n 0, 1) := by decide +kernel
theorem dX4_init_1 : decode cX4_init 1 = .ok (.invokespecial 3, 3) := by decide +kernel
theorem dX4_init_4 : decode cX4_init 4 = .ok (.aload_n 0, 1) := by decide +kernel
theorem dX4_init_5 : decode cX4_init 5 = .ok (.iconst 4, 1) := by decide +kernel
theorem dX4_init_6 : decode cX4_init 6 = .ok (.newarray .int, 2) := by decide +kernel
theorem dX4_init_8 : decode cX4_init 8 = .ok (.putfield 9, 3) := by decide +kernel
theorem dX4_init_11 : decode cX4_init 11 = .ok (.aload_n 0, 1) := by decide +kernel
theorem dX4_init_12 : decode cX4_init 12 = .ok (.bipush 6, 2) := by decide +kernel
theorem dX4_init_14 : decode cX4_init 14 = .ok (.newarray .int, 2) := by decide +kernel
theorem dX4_init_16 : decode cX4_init 16 = .ok (.putfield 15, 3) := by decide +kernel
theorem dX4_init_19 : decode cX4_init 19 = .ok (.aload_n 0, 1) := by decide +kernel
theorem dX4_init_20 : decode cX4_init 20 = .ok (.bipush 6, 2) := by decide +kernel
theorem dX4_init_22 : decode cX4_init 22 = .ok (.newarray .int, 2) := by decide +kernel
theorem dX4_init_24 : decode cX4_init 24 = .ok (.putfield 18, 3) := by decide +kernel
theorem dX4_init_27 : decode cX4_init 27 = .ok (.aload_n 0, 1) := by decide +kernel
theorem dX4_init_28 : decode cX4_init 28 = .ok (.bipush 6, 2) := by decide +kernel
theorem dX4_init_30 : decode cX4_init 30 = .ok (.newarray .int, 2) := by decide +kernel
theorem dX4_init_32 : decode cX4_init 32 = .ok (.putfield 21, 3) := by decide +kernel
theorem dX4_init_35 : decode cX4_init 35 = .ok (.aload_n 0, 1) := by decide +kernel
theorem dX4_init_36 : decode cX4_init 36 = .ok (.bipush 6, 2) := by decide +kernel
theorem dX4_init_38 : decode cX4_init 38 = .ok (.newarray .int, 2) := by decide +kernel
theorem dX4_init_40 : decode cX4_init 40 = .ok (.putfield 24, 3) := by decide +kernel
theorem dX4_init_43 : decode cX4_init 43 = .ok (.aload_n 0, 1) := by decide +kernel
theorem dX4_init_44 : decode cX4_init 44 = .ok (.bipush 6, 2) := by decide +kernel
theorem dX4_init_46 : decode cX4_init 46 = .ok (.newarray .int, 2) := by decide +kernel
theorem dX4_init_48 : decode cX4_init 48 = .ok (.putfield 27, 3) := by decide +kernel
theorem dX4_init_51 : decode cX4_init 51 = .ok (.aload_n 0, 1) := by decide +kernel
theorem dX4_init_52 : decode cX4_init 52 = .ok (.bipush 24, 2) := by decide +kernel
theorem dX4_init_54 : decode cX4_init 54 = .ok (.newarray .int, 2) := by decide +kernel
theorem dX4_init_56 : decode cX4_init 56 = .ok (.putfield 30, 3) := by decide +kernel
theorem dX4_init_59 : decode cX4_init 59 = .ok (.aload_n 0, 1) := by decide +kernel
theorem dX4_init_60 : decode cX4_init 60 = .ok (.bipush 6, 2) := by decide +kernel
theorem dX4_init_62 : decode cX4_init 62 = .ok (.newarray .int, 2) := by decide +kernel
theorem dX4_init_64 : decode cX4_init 64 = .ok (.putfield 33, 3) := by decide +kernel
theorem dX4_init_67 : decode cX4_init 67 = .ok (.aload_n 0, 1) := by decide +kernel
theorem dX4_init_68 : decode cX4_init 68 = .ok (.bipush 6, 2) := by decide +kernel
theorem dX4_init_70 : decode cX4_init 70 = .ok (.newarray .int, 2) := by decide +kernel
theorem dX4_init_72 : decode cX4_init 72 = .ok (.putfield 36, 3) := by decide +kernel
theorem dX4_init_75 : decode cX4_init 75 = .ok (.aload_n 0, 1) := by decide +kernel
theorem dX4_init_76 : decode cX4_init 76 = .ok (.aload_n 1, 1) := by decide +kernel
theorem dX4_init_77 : decode cX4_init 77 = .ok (.putfield 39, 3) := by decide +kernel
theorem dX4_init_80 : decode cX4_init 80 = .ok (.aload_n 0, 1) := by decide +kernel
theorem dX4_init_81 : decode cX4_init 81 = .ok (.aload_n 2, 1) := by decide +kernel
theorem dX4_init_82 : decode cX4_init 82 = .ok (.putfield 43, 3) := by decide +kernel
theorem dX4_init_85 : decode cX4_init 85 = .ok (.aload_n 0, 1) := by decide +kernel
theorem dX4_init_86 : decode cX4_init 86 = .ok (.iload_n 3, 1) := by decide +kernel
theorem dX4_init_87 : decode cX4_init 87 = .ok (.putfield 47, 3) := by decide +kernel
theorem dX4_init_90 : decode cX4_init 90 = .ok (.return_, 1) := by decide +kernel
theorem dX10_init_0 : decode cX10_init 0 = .ok (.aload_n 0, 1) := by decide +kernel
theorem dX10_init_1 : decode cX10_init 1 = .ok (.invokespecial 3, 3) := by decide +kernel
theorem dX10_init_4 : decode cX10_init 4 = .ok (.aload_n 0, 1) := by decide +kernel
theorem dX10_init_5 : decode cX10_init 5 = .ok (.new 9, 3) := by decide +kernel
theorem dX10_init_8 : decode cX10_init 8 = .ok (.dup, 1) := by decide +kernel
theorem dX10_init_9 : decode cX10_init 9 = .ok (.bipush 100, 2) := by decide +kernel
theorem dX10_init_11 : decode cX10_init 11 = .ok (.invokespecial 13, 3) := by decide +kernel
theorem dX10_init_14 : decode cX10_init 14 = .ok (.putfield 16, 3) := by decide +kernel
theorem dX10_init_17 : decode cX10_init 17 = .ok (.aload_n 0, 1) := by decide +kernel
theorem dX10_init_18 : decode cX10_init 18 = .ok (.new 9, 3) := by decide +kernel
theorem dX10_init_21 : decode cX10_init 21 = .ok (.dup, 1) := by decide +kernel
theorem dX10_init_22 : decode cX10_init 22 = .ok (.bipush 6, 2) := by decide +kernel
theorem dX10_init_24 : decode cX10_init 24 = .ok (.invokespecial 13, 3) := by decide +kernel
theorem dX10_init_27 : decode cX10_init 27 = .ok (.putfield 22, 3) := by decide +kernel
theorem dX10_init_30 : decode cX10_init 30 = .ok (.aload_n 0, 1) := by decide +kernel
theorem dX10_init_31 : decode cX10_init 31 = .ok (.new 9, 3) := by decide +kernel
theorem dX10_init_34 : decode cX10_init 34 = .ok (.dup, 1) := by decide +kernel
theorem dX10_init_35 : decode cX10_init 35 = .ok (.bipush 8, 2) := by decide +kernel
theorem dX10_init_37 : decode cX10_init 37 = .ok (.invokespecial 13, 3) := by decide +kernel
theorem dX10_init_40 : decode cX10_init 40 = .ok (.putfield 25, 3) := by decide +kernel
theorem dX10_init_43 : decode cX10_init 43 = .ok (.aload_n 0, 1) := by decide +kernel
theorem dX10_init_44 : decode cX10_init 44 = .ok (.new 9, 3) := by decide +kernel
theorem dX10_init_47 : decode cX10_init 47 = .ok (.dup, 1) := by decide +kernel
theorem dX10_init_48 : decode cX10_init 48 = .ok (.bipush 8, 2) := by decide +kernel
theorem dX10_init_50 : decode cX10_init 50 = .ok (.invokespecial 13, 3) := by decide +kernel
theorem dX10_init_53 : decode cX10_init 53 = .ok (.putfield 28, 3) := by decide +kernel
theorem dX10_init_56 : decode cX10_init 56 = .ok (.aload_n 0, 1) := by decide +kernel
theorem dX10_init_57 : decode cX10_init 57 = .ok (.aload_n 1, 1) := by decide +kernel
theorem dX10_init_58 : decode cX10_init 58 = .ok (.putfield 31, 3) := by decide +kernel
theorem dX10_init_61 : decode cX10_init 61 = .ok (.aload_n 0, 1) := by decide +kernel
theorem dX10_init_62 : decode cX10_init 62 = .ok (.new 35, 3) := by decide +kernel
theorem dX10_init_65 : decode cX10_init 65 = .ok (.dup, 1) := by decide +kernel
theorem dX10_init_66 : decode cX10_init 66 = .ok (.aload_n 1, 1) := by decide +kernel
theorem dX10_init_67 : decode cX10_init 67 = .ok (.aload_n 2, 1) := by decide +kernel
theorem dX10_init_68 : decode cX10_init 68 = .ok (.sipush 9999, 3) := by decide +kernel
theorem dX10_init_71 : decode cX10_init 71 = .ok (.invokespecial 37, 3) := by decide +kernel
theorem dX10_init_74 : decode cX10_init 74 = .ok (.putfield 40, 3) := by decide +kernel
theorem dX10_init_77 : decode cX10_init 77 = .ok (.return_, 1) := by decide +kernel
/-! CONSTRUCTORS: rules over a world that grows -/
def zk_ai (cI : ClassId) (N : Nat) : va_E := .inl (cI, N, .inl (fun _ => 0))
def zk_t (cI cZ cQ : ClassId) : List (ClassId × FieldType) := [(cI, .int), (cZ, .boolean), (cQ, .object RX9)]
def zk_St (A : Nat → Prop) (D : va_G) (ws : va_W) (s : State) (H : Heap) (locs : List Loc) : Prop := va_P D vwCl ws H ∧ va_D A ws ∧ va_S A s.heap H locs
def zk_Xt (U : State) : Prop := va_AO RX9 U ∧ ∀ C ∈ [RX1, RX7, RX0, RX6, RX3, RX8], va_Nw (.castable C RX9) U
def zk_CX (p : Program) (s : State) (m : MethodId) (args : Array Value) (c : Code) (A : Nat → Prop) (D : va_G) (tys : List (ClassId × FieldType)) (cc : ByteArray) (nL : Nat) (own : String) : Prop :=
  p.tables.exec = Jvm.exec ∧ c.code = cc ∧ c.maxLocals = nL ∧ s.vm.findClass own = some m.cls ∧ (∀ w ∈ zj_T, w.before args s = true) ∧ va_K D vwCl tys s ∧ (∀ q : Nat, s.heap.size ≤ q → A q) ∧ zk_Xt s
def zk_rm (d mc ms : Nat) : Room := { frames := d, cells := mc, slots := ms, locals := 64 * d }
/-- a constructor: the object h0 comes with default fields, the world w1 comes of it; u: the new addresses -/
def zk_MC (y : MethodName) (cc : ByteArray) (nL d mc ms : Nat) (D : va_G) (tys : List (ClassId × FieldType)) (ci : Nat) (fs As : List Value) (w1 : Nat → List Nat → va_W) : Prop :=
  ∀ (l : Launch) (h0 sz : Nat), Met l y (.code y cc nL none :: zj_T) (zk_rm d mc ms) (va_Pc (.ref h0 :: As) (fun U => U.heap.size = sz ∧ va_P D vwCl [(h0, .inr (ci, fs))] U.heap ∧ va_K D vwCl tys U ∧ zk_Xt U)) (va_Qv (fun _ : List Nat => True) (fun u t => va_P D vwCl (w1 h0 u) t.heap ∧ va_D (va_A [(h0, .inr (ci, fs))] sz) (w1 h0 u)) (va_A [(h0, .inr (ci, fs))] sz)) mc ms (va_A [(h0, .inr (ci, fs))] sz)
def zk_Bd (y : MethodName) (cc : ByteArray) (nL d mc ms : Nat) (D : va_G) (tys : List (ClassId × FieldType)) (ci : Nat) (fs As : List Value) (w1 : Nat → List Nat → va_W) : Prop :=
  ∀ (l : Launch) (p : Program) (e : Env) (s : State) (m : MethodId) (args : Array Value) (below : List Frame) (meth : Method) (c : Code) (A : Nat → Prop) (h0 : Nat) (ls : Array Slot) (Q : State → Prop),
    zk_CX p s m args c A D tys cc nL y.cls → meth.name = "<init>" → zk_St A D [(h0, .inr (ci, fs))] s s.heap [] → lv_has ls nL (lv_args 0 (.ref h0 :: As)) →
    (∀ (u : List Nat) (H1 : Heap) (locs1 : List Loc) (pc : Nat) (ls1 : Array Slot) (k n : Nat), k ≤ mc → n ≤ ms → zk_St A D (w1 h0 u) s H1 locs1 → decode cc pc = .ok (.return_, 1) → W p l e (zk_rm d mc ms) s m args below meth c H1 locs1 k n Q (F0 m pc ls1 [])) →
    W p l e (zk_rm d mc ms) s m args below meth c s.heap [] 0 0 Q (F0 m 0 ls [])
theorem zk_one (h0 : Nat) (x : va_E) : va_D (fun _ => True) [(h0, x)] := ⟨fun i j p q h1 h2 _ => by
  have a := (List.getElem?_eq_some_iff.mp h1).1
  have b := (List.getElem?_eq_some_iff.mp h2).1
  simp only [List.length_cons, List.length_nil] at a b
  omega, fun _ _ _ => trivial⟩
theorem zk_met {y : MethodName} {cc : ByteArray} {nL d mc ms : Nat} {D : va_G} {tys : List (ClassId × FieldType)} {ci : Nat} {fs As : List Value} {w1 : Nat → List Nat → va_W} (hpn : plainName y.cls = true) (hname : y.name = "<init>") (hlen : ∀ h0, (lg_sl (.ref h0 :: As)).length ≤ nL) (hb : zk_Bd y cc nL d mc ms D tys ci fs As w1) : zk_MC y cc nL d mc ms D tys ci fs As w1 := by
  intro l h0 sz
  refine Met.ofW (cc := cc) (maxL := nL) (ret := none) hpn rfl ?_
  intro p e s m args below meth c s₁ B hml hv
  obtain ⟨rfl, hsz, hP, hK, hXt⟩ := hv
  have hts : ∀ w ∈ zj_T, w.before _ s = true := fun w hw => atoms_spec (ws := .code y cc nL none :: zj_T) B.pre w (List.mem_cons_of_mem _ hw)
  have hown : s.vm.findClass y.cls = some m.cls := findClass_of_methodNamed B.named
  have hlocks := B.notSynchronized
  have hin : meth.name = "<init>" := (name_of_methodNamed B.named B.method).1.trans hname
  subst hsz
  have hD := (zk_one h0 (.inr (ci, fs))).self (sz := s.heap.size)
  have hA : ∀ q : Nat, s.heap.size ≤ q → va_A [(h0, .inr (ci, fs))] s.heap.size q := fun q h => Or.inr h
  have hl := lv_entry (.ref h0 :: As) (n := nL) (hlen h0)
  rw [lg_entry_eq]
  refine hb l p e s m _ below meth c _ h0 _ _ ⟨B.exec, B.bytes, hml, hown, hts, hK, hA, hXt⟩ hin ⟨hP, hD, va_S.rf⟩ hl ?_
  intro u H1 locs1 pc ls1 k n hk hn St hd
  refine W.widen hk hn ?_
  exact W.vret B.exec B.bytes B.returns (fun t ht hW => ⟨⟨u, rfl, trivial, by rw [ht]; exact St.1, St.2.1⟩, St.2.2.F ht⟩) St.2.2.2.2 hd
theorem zk_nd : ∀ l : List Nat, l.Nodup → va_nd l = true
  | [], _ => rfl
  | a :: l, h => by
    rw [List.nodup_cons] at h
    rw [va_nd, zk_nd l h.2, decide_eq_true h.1]
    rfl
section ZK
variable {p : Program} {l : Launch} {e : Env} {R : Room} {s : State} {m : MethodId} {args : Array Value} {below : List Frame} {meth : Method} {c : Code} {H : Heap} {locs : List Loc} {cells slots : Nat} {Q : State → Prop}
variable {A : Nat → Prop} {D : va_G} {cI cZ cQ : ClassId} {cc : ByteArray} {nL : Nat} {own : String} {ws : va_W} {pc : Nat} {ls : Array Slot} {rest : List Value}
theorem zk_obj {i : Nat} {a : Nat} (C : zk_CX p s m args c A D (zk_t cI cZ cQ) cc nL own) (hl : Cond.methodLink own i objectInit ∈ zj_T) (hls : ls.size = nL) (hw : (rest.map fun v => v.category).sum ≤ 8) (hR : 1 ≤ R.frames ∧ 20 ≤ R.locals) (hdg : decode cc pc = .ok (.invokespecial i, 3)) (kk : W p l e R s m args below meth c H locs cells slots Q (F0 m (pc + 3) ls rest)) : W p l e R s m args below meth c H locs cells slots Q (F0 m pc ls (.ref a :: rest)) := by
  refine W.objInit C.1 C.2.1 C.2.2.2.1 (C.2.2.2.2.1 _ hl) (C.2.2.2.2.1 _ zq_92) (C.2.2.2.2.1 _ zq_93) rfl (hls.trans C.2.2.1.symm) rfl hdg hR.1 ?_ (W.eq (g2 := F0 m (pc + 3) ls rest) rfl kk)
  show 2 * 0 + _ + 12 ≤ _
  omega
theorem zk_newi {n : Int32} {N : Nat} (C : zk_CX p s m args c A D (zk_t cI cZ cQ) cc nL own) (St : zk_St A D ws s H locs) (hn : n = nI N) (hN : N < 100000) (hc : cells + 1 ≤ R.cells) (hs : slots + N ≤ R.slots) (hdg : decode cc pc = .ok (.newarray .int, 2)) (kk : ∀ (q : Nat) (H1 : Heap), zk_St A D (ws ++ [(q, zk_ai cI N)]) s H1 locs → W p l e R s m args below meth c H1 locs (cells + 1) (slots + N) Q (F0 m (pc + 2) ls (.ref q :: rest))) : W p l e R s m args below meth c H locs cells slots Q (F0 m pc ls (.int n :: rest)) := by
  subst hn
  refine va_newa (atype := .int) (ty := .int) (N' := N) (a0 := (N, .inl (fun _ => 0))) C.1 C.2.1 (C.2.2.2.2.1 _ zq_122) rfl C.2.2.2.2.2.1 St.1 St.2.1 St.2.2 C.2.2.2.2.2.2.1 (fun cA => rfl) (Int32.not_lt.mpr (nI_pos' (by omega))) (nI_clamp (by omega)) (by show N * 4 ≤ _; omega) hc hs hdg (fun q cA H1 hK hP hD hS => ?_)
  have h1 : s.vm.findClass ("[" ++ FieldType.int.toString) = some cI := (hK.2 0 (cI, .int) rfl).2
  have h2 : s.vm.findClass ("[" ++ FieldType.int.toString) = some cA := (hK.2 3 (cA, .int) rfl).2
  have e1 : cA = cI := Option.some.inj (h2.symm.trans h1)
  subst e1
  exact kk q H1 ⟨hP, hD, hS⟩
theorem zk_newz {n : Int32} {N : Nat} (C : zk_CX p s m args c A D (zk_t cI cZ cQ) cc nL own) (St : zk_St A D ws s H locs) (hn : n = nI N) (hN : N < 100000) (hc : cells + 1 ≤ R.cells) (hs : slots + N ≤ R.slots) (hdg : decode cc pc = .ok (.newarray .boolean, 2)) (kk : ∀ (q : Nat) (H1 : Heap), zk_St A D (ws ++ [(q, zk_ai cZ N)]) s H1 locs → W p l e R s m args below meth c H1 locs (cells + 1) (slots + N) Q (F0 m (pc + 2) ls (.ref q :: rest))) : W p l e R s m args below meth c H locs cells slots Q (F0 m pc ls (.int n :: rest)) := by
  subst hn
  refine va_newa (atype := .boolean) (ty := .boolean) (N' := N) (a0 := (N, .inl (fun _ => 0))) C.1 C.2.1 (C.2.2.2.2.1 _ zq_1047) rfl C.2.2.2.2.2.1 St.1 St.2.1 St.2.2 C.2.2.2.2.2.2.1 (fun cA => rfl) (Int32.not_lt.mpr (nI_pos' (by omega))) (nI_clamp (by omega)) (by show N * 1 ≤ _; omega) hc hs hdg (fun q cA H1 hK hP hD hS => ?_)
  have h1 : s.vm.findClass ("[" ++ FieldType.boolean.toString) = some cZ := (hK.2 1 (cZ, .boolean) rfl).2
  have h2 : s.vm.findClass ("[" ++ FieldType.boolean.toString) = some cA := (hK.2 3 (cA, .boolean) rfl).2
  have e1 : cA = cZ := Option.some.inj (h2.symm.trans h1)
  subst e1
  exact kk q H1 ⟨hP, hD, hS⟩
theorem zk_newq {n : Int32} {N i : Nat} (C : zk_CX p s m args c A D (zk_t cI cZ cQ) cc nL own) (St : zk_St A D ws s H locs) (hn : n = nI N) (hN : N < 100000) (hc : cells + 1 ≤ R.cells) (hs : slots + N ≤ R.slots) (hl : Cond.classLink own i RX9 ∈ zj_T) (hdg : decode cc pc = .ok (.anewarray i, 3)) (kk : ∀ (q : Nat) (H1 : Heap), zk_St A D (ws ++ [(q, .inl (cQ, N, .inr (.inr (.inr (.inr (fun _ => none))))))]) s H1 locs → W p l e R s m args below meth c H1 locs (cells + 1) (slots + N) Q (F0 m (pc + 3) ls (.ref q :: rest))) : W p l e R s m args below meth c H locs cells slots Q (F0 m pc ls (.int n :: rest)) := by
  subst hn
  refine va_newq (C := RX9) (N' := N) C.1 C.2.1 C.2.2.2.1 (C.2.2.2.2.1 _ hl) C.2.2.2.2.2.2.2.1 C.2.2.2.2.2.1 St.1 St.2.1 St.2.2 C.2.2.2.2.2.2.1 (Int32.not_lt.mpr (nI_pos' (by omega))) (nI_clamp (by omega)) (by omega) hc hs hdg (fun q cA H1 hK hP hD hS => ?_)
  obtain ⟨-, -, -, -, -, h1⟩ := (hK.2 2 (cQ, .object RX9) rfl).2
  obtain ⟨-, -, -, -, -, h2⟩ := (hK.2 3 (cA, .object RX9) rfl).2
  have e1 : cA = cQ := Option.some.inj (h2.symm.trans h1)
  subst e1
  exact kk q H1 ⟨hP, hD, hS⟩
theorem zk_newo {ci i N : Nat} {Cn : String} {T : u_T} {ty : Nat → FieldType} {fs : List Value} (C : zk_CX p s m args c A D (zk_t cI cZ cQ) cc nL own) (St : zk_St A D ws s H locs) (hcl : vwCl[ci]? = some (Cn, T, N)) (hin : ∀ w ∈ u_ws Cn T N, w ∈ zj_T) (hty : ∀ k, k < N → parseFieldDescriptor (T k).2.2.1 = some (ty k)) (hl : Cond.classLink own i Cn ∈ zj_T) (hinst : Cond.instantiable Cn N ∈ zj_T) (hini : Cond.initialized Cn ∈ zj_T) (hfs : ∀ j, j < N → defaultValue (ty j) = vp_V fs j) (hc : cells + 1 ≤ R.cells) (hs : slots + N ≤ R.slots) (hdg : decode cc pc = .ok (.new i, 3)) (kk : ∀ (q : Nat) (H1 : Heap), zk_St A D (ws ++ [(q, .inr (ci, fs))]) s H1 locs → W p l e R s m args below meth c H1 locs (cells + 1) (slots + N) Q (F0 m (pc + 3) ls (.ref q :: rest))) : W p l e R s m args below meth c H locs cells slots Q (F0 m pc ls rest) :=
  va_new C.1 C.2.1 C.2.2.2.2.1 hin ty hty C.2.2.2.1 (C.2.2.2.2.1 _ hl) (C.2.2.2.2.1 _ hinst) (C.2.2.2.2.1 _ hini) C.2.2.2.2.2.1 St.1 St.2.1 St.2.2 C.2.2.2.2.2.2.1 hcl hfs hc hs hdg (fun q H1 hP hD hS => kk q H1 ⟨hP, hD, hS⟩)
theorem zk_putF {a ci i N k : Nat} {Cn : String} {T : u_T} {ty0 : Nat → FieldType} {fs : List Value} {v : Value} {ty : FieldType} (C : zk_CX p s m args c A D (zk_t cI cZ cQ) cc nL own) (hname : meth.name = "<init>") (St : zk_St A D ws s H locs) (q0 : Nat) (he : ws[q0]? = some (a, .inr (ci, fs))) (hcl : vwCl[ci]? = some (Cn, T, N)) (hin : ∀ w ∈ u_ws Cn T N, w ∈ zj_T) (hty : ∀ k, k < N → parseFieldDescriptor (T k).2.2.1 = some (ty0 k)) (hnm : ∀ a, a < N → ∀ b, b < N → a ≠ b → (T a).2.1 ≠ (T b).2.1) (hk : k < N) (hl : Cond.fieldLink own i (T k).1 (T k).2.1 (T k).2.2.1 ∈ zj_T) (hfin : (T k).2.2.2 = true) (hdecl : (T k).1 = own) (hd : parseFieldDescriptor (T k).2.2.1 = some ty) (hn : narrow ty v = v) (hfit : fits ty v = true) (hlen : k < fs.length) (hdg : decode cc pc = .ok (.putfield i, 3)) (kk : ∀ (H1 : Heap) (locs1 : List Loc), zk_St A D (ws.set q0 (a, .inr (ci, fs.set k v))) s H1 locs1 → W p l e R s m args below meth c H1 locs1 cells slots Q (F0 m (pc + 3) ls rest)) : W p l e R s m args below meth c H locs cells slots Q (F0 m pc ls (v :: .ref a :: rest)) :=
  va_putF C.1 C.2.1 C.2.2.2.2.1 hin ty0 hty hnm C.2.2.2.1 C.2.2.2.2.2.1 St.1 St.2.1 St.2.2 q0 he hcl k hk (C.2.2.2.2.1 _ hl) (fun _ h9 => h9) hfin hname hdecl hd hn hfit hlen hdg (fun H1 locs1 hP hD hS => kk H1 locs1 ⟨hP, hD, hS⟩)
theorem zk_aast {q0 qk ci j n v a : Nat} {rc : vw_C} {vs : List Value} {f : Nat → Option Nat} (C : zk_CX p s m args c A D (zk_t cI cZ cQ) cc nL own) (St : zk_St A D ws s H locs) (ha : ws[q0]? = some (a, .inl (cQ, n, .inr (.inr (.inr (.inr f)))))) (hv : ws[qk]? = some (v, .inr (ci, vs))) (hcl : vwCl[ci]? = some rc) (hsub : rc.1 = RX9 ∨ rc.1 ∈ [RX1, RX7, RX0, RX6, RX3, RX8]) (hj : j < n) (hj2 : j < 1000) (hdg : decode cc pc = .ok (.aastore, 1)) (kk : ∀ (H1 : Heap) (locs1 : List Loc), zk_St A D (ws.set q0 (a, .inl (cQ, n, .inr (.inr (.inr (.inr (va_up f j (some v)))))))) s H1 locs1 → W p l e R s m args below meth c H1 locs1 cells slots Q (F0 m (pc + 1) ls rest)) : W p l e R s m args below meth c H locs cells slots Q (F0 m pc ls (.ref v :: .int (nI j) :: .ref a :: rest)) := by
  refine vb_astq (E := RX9) (C := rc.1) C.1 C.2.1 C.2.2.2.2.2.1 St.1 St.2.1 St.2.2 q0 2 ha rfl (va_recv C.2.2.2.2.2.1 St.1 hcl hv) (fun comp c0 h1 h2 => ?_) (i := nI j) (fun q => q.elim (fun z => absurd z (nI_pos (by omega))) (fun z => by rw [nI_clamp (by omega)] at z; omega)) hdg (fun H1 locs1 hP hD hS => ?_)
  · rcases hsub with h | h
    · rw [h] at h2
      exact vb_asgS comp c0 h1 h2
    · exact vb_asgC (C.2.2.2.2.2.2.2.2 _ h) comp c0 h1 h2
  · rw [nI_clamp (by omega)] at hP hD
    exact kk H1 locs1 ⟨hP, hD, hS⟩
theorem zk_call {ci n i d mc ms q maxL : Nat} {y : MethodName} {bytes : ByteArray} {fs As : List Value} {w1 : Nat → List Nat → va_W} (C : zk_CX p s m args c A D (zk_t cI cZ cQ) cc nL own) (hM : zk_MC y bytes maxL d mc ms D (zk_t cI cZ cQ) ci fs As w1) (St : zk_St A D (ws ++ [(q, .inr (ci, fs))]) s H locs) (hcode : Cond.code y bytes maxL none ∈ zj_T) (hini : Cond.initialized y.cls ∈ zj_T) (hl : Cond.methodLink own i y ∈ zj_T) (hi : Cond.instanceMethod y ∈ zj_T) (hy : y.name = "<init>") (hd : y.cls ≠ "java/lang/invoke/MethodHandle" ∧ y.cls ≠ "java/lang/invoke/VarHandle" ∧ (parseMethodDescriptor y.desc).map (fun d => d.parameters.length) = some n) (hn : As.length = n) (hR : d + 1 ≤ R.frames ∧ 8 + (maxL + 11) + 64 * d ≤ R.locals) (hls : ls.size = nL) (hw : (rest.map fun v => v.category).sum ≤ 8) (hf : cells + mc ≤ R.cells ∧ slots + ms ≤ R.slots) (hdg : decode cc pc = .ok (.invokespecial i, 3)) (kk : ∀ (u : List Nat) (H1 : Heap) (locs1 : List Loc), zk_St A D (ws ++ w1 q u) s H1 locs1 → W p l e R s m args below meth c H1 locs1 (cells + mc) (slots + ms) Q (F0 m (pc + 3) ls rest)) : W p l e R s m args below meth c H locs cells slots Q (F0 m pc ls (As.reverse ++ .ref q :: rest)) := by
  obtain ⟨hP, hD, hS⟩ := St
  obtain ⟨hx, hb, hml, hown, hts, hK, hA, hXt⟩ := C
  have hC : [ws.length].map (fun i => (ws ++ [(q, .inr (ci, fs))])[i]?) = ([(q, .inr (ci, fs))] : va_W).map some := by simp
  have hRr : (List.range ws.length).map (fun i => (ws ++ [(q, .inr (ci, fs))])[i]?) = ws.map some := by
    apply List.ext_getElem?
    intro k
    rw [List.getElem?_map, List.getElem?_map]
    by_cases hk : k < ws.length
    · rw [List.getElem?_range hk, Option.map_some, List.getElem?_append_left hk, List.getElem?_eq_getElem hk]
      rfl
    · rw [List.getElem?_eq_none (by simp; omega), List.getElem?_eq_none (by omega)]
      rfl
  have hPc : va_P D vwCl [(q, .inr (ci, fs))] H := fun k x hk => hP (ws.length + k) x (by rw [List.getElem?_append_right (by omega), Nat.add_sub_cancel_left]; exact hk)
  have hFc := va_free (wc := [(q, .inr (ci, fs))]) hD hS hA [ws.length] hC
  refine va_callv (va_runI (As := As) (rest := rest) ⟨hx, hb, hml, hown, hts⟩ (hM l q H.size) (cwI n hts (zj_good hcode) rfl rfl rfl (hts _ hini) (hts _ hl) (hts _ hi) hy hd hR) ⟨fun a U g mk z => by obtain ⟨q0, q1, qP, qK, qX⟩ := z; exact ⟨q0, q1, qP, va_K.moved (u := U) (U := U.calling g mk a) (Vm.Alike.refl U.vm) qK, va_AO.moved (u := U) (U := U.calling g mk a) (Vm.Alike.refl U.vm) qX.1, fun C hC => va_Nw.same (u := U) (U := U.calling g mk a) rfl rfl (qX.2 C hC)⟩, fun U hU hW => ⟨rfl, by rw [hU], by rw [hU]; exact hPc, va_K.moved hW.alike hK, va_AO.moved hW.alike hXt.1, fun C hC => va_Nw.warmC hW (hXt.2 C hC)⟩⟩ rfl hn hls rfl (lv_room hw) hdg hf) hS (fun q _ h => hFc q h) hFc (fun u t H1 locs1 ht hvm hw hB hz1 hk1 hS1 => ?_)
  obtain ⟨hP1, hD1⟩ := hB
  rw [ht] at hP1
  obtain ⟨hP2, hD2⟩ := va_join (wr := ws) (w1 := w1 q u) hP hD [ws.length] (List.range ws.length) hC hRr (zk_nd _ List.nodup_range) (fun i hi z => by
    rw [List.mem_range] at hi
    rw [List.mem_singleton] at z
    omega) hk1 hFc hP1 hD1
  exact kk u H1 locs1 ⟨hP2, hD2, hS1⟩
end ZK
def zk_gRows (cI : ClassId) (h N a b c : Nat) : va_W := [(h, .inr (5, [.ref a, .ref b, .ref c, .int 0])), (a, zk_ai cI N), (b, zk_ai cI N), (c, zk_ai cI N)]
def zk_gPark (cI : ClassId) (h a b c sm : Nat) : va_W := [(h, .inr (2, [.int 0, .int 0, .int 0, .ref a, .ref b, .ref c, .ref sm, .int 0, .null, .int 0, .int 0])), (a, zk_ai cI 100), (b, zk_ai cI 100), (c, zk_ai cI 6)]
def zk_gRing (cI : ClassId) (h : Nat) (u : List Nat) (pk kd : Nat) (mm : Int32) : va_W := [(h, .inr (4, [.ref (u.getD 0 0), .ref (u.getD 1 0), .ref (u.getD 2 0), .ref (u.getD 3 0), .ref (u.getD 4 0), .ref (u.getD 5 0), .ref (u.getD 6 0), .int 0, .int 0, .int 0, .int 0, .ref pk, .ref kd, .int mm, .ref (u.getD 7 0), .ref (u.getD 8 0), .int 0, .int 0])), (u.getD 0 0, zk_ai cI 4), (u.getD 1 0, zk_ai cI 6), (u.getD 2 0, zk_ai cI 6), (u.getD 3 0, zk_ai cI 6), (u.getD 4 0, zk_ai cI 6), (u.getD 5 0, zk_ai cI 6), (u.getD 6 0, zk_ai cI 24), (u.getD 7 0, zk_ai cI 6), (u.getD 8 0, zk_ai cI 6)]
/-- u: tape, seen, plan, book (four each), ring and its nine -/
def zk_gWhole (cI : ClassId) (h : Nat) (u : List Nat) (pk kd : Nat) : va_W := ((((([(h, .inr (10, [.ref pk, .ref (u.getD 16 0), .ref (u.getD 0 0), .ref (u.getD 4 0), .ref (u.getD 8 0), .ref (u.getD 12 0), .int 0]))] ++ zk_gRows cI (u.getD 0 0) 100 (u.getD 1 0) (u.getD 2 0) (u.getD 3 0)) ++ zk_gRows cI (u.getD 4 0) 6 (u.getD 5 0) (u.getD 6 0) (u.getD 7 0)) ++ zk_gRows cI (u.getD 8 0) 8 (u.getD 9 0) (u.getD 10 0) (u.getD 11 0)) ++ zk_gRows cI (u.getD 12 0) 8 (u.getD 13 0) (u.getD 14 0) (u.getD 15 0)) ++ zk_gRing cI (u.getD 16 0) [u.getD 17 0, u.getD 18 0, u.getD 19 0, u.getD 20 0, u.getD 21 0, u.getD 22 0, u.getD 23 0, u.getD 24 0, u.getD 25 0] pk kd 9999)
section ZC
variable {D : va_G} {cI cZ cQ : ClassId}
set_option maxHeartbeats 4000000 in
set_option maxRecDepth 100000 in
theorem zk_Walker {ci : Nat} {Cn : String} {T : u_T} {ty0 : Nat → FieldType} (hcl : vwCl[ci]? = some (Cn, T, 1)) (hin : ∀ w ∈ u_ws Cn T 1, w ∈ zj_T) (hty : ∀ k, k < 1 → parseFieldDescriptor (T k).2.2.1 = some (ty0 k)) (hnm : ∀ a, a < 1 → ∀ b, b < 1 → a ≠ b → (T a).2.1 ≠ (T b).2.1) (hT : T 0 = (RX9, "ran", "LRoadForMood$Rows;", true)) (r : Nat) : zk_MC yX9_init cX9_init 2 1 0 0 D (zk_t cI cZ cQ) ci [.null] [.ref r] (fun h0 u => [(h0, .inr (ci, [.ref r]))]) := zk_met (by decide +kernel) rfl (fun _ => Nat.le_of_ble_eq_true rfl) fun l p e s m args below meth c A h0 ls Q C hname St hl fin => by
  generalize hH : s.heap = H at St ⊢
  generalize hlo : ([] : List Loc) = locs at St ⊢
  have hl : lv_has ls 2 [(0, .ref h0), (1, .ref r)] := hl
  refine lv_aload_n C.1 C.2.1 dX9_init_0 rfl (lv_at hl 0 rfl) ?_
  refine zk_obj C zq_129 hl.1 (Nat.le_of_ble_eq_true rfl) ⟨Nat.le_of_ble_eq_true rfl, Nat.le_of_ble_eq_true rfl⟩ dX9_init_1 ?_
  refine lv_aload_n C.1 C.2.1 dX9_init_4 rfl (lv_at hl 0 rfl) ?_
  refine lv_aload_n C.1 C.2.1 dX9_init_5 rfl (lv_at hl 1 rfl) ?_
  refine zk_putF (k := 0) (ty := .object "RoadForMood$Rows") C hname St 0 rfl hcl hin hty hnm (by decide) (by rw [hT]; exact zq_130) (by rw [hT]) (by rw [hT]; rfl) (by rw [hT]; decide +kernel) rfl rfl (by decide) dX9_init_6 (fun H locs St => ?_)
  exact fin [] H locs 9 ls 0 0 (by decide) (by decide) St dX9_init_9
set_option maxHeartbeats 4000000 in
set_option maxRecDepth 100000 in
theorem zk_Lover {ci : Nat} {Cn : String} {T : u_T} {ty0 : Nat → FieldType} (hcl : vwCl[ci]? = some (Cn, T, 1)) (hin : ∀ w ∈ u_ws Cn T 1, w ∈ zj_T) (hty : ∀ k, k < 1 → parseFieldDescriptor (T k).2.2.1 = some (ty0 k)) (hnm : ∀ a, a < 1 → ∀ b, b < 1 → a ≠ b → (T a).2.1 ≠ (T b).2.1) (hT : T 0 = (RX9, "ran", "LRoadForMood$Rows;", true)) (r : Nat) : zk_MC yX1_init cX1_init 2 2 0 0 D (zk_t cI cZ cQ) ci [.null] [.ref r] (fun h0 u => [(h0, .inr (ci, [.ref r]))]) := zk_met (by decide +kernel) rfl (fun _ => Nat.le_of_ble_eq_true rfl) fun l p e s m args below meth c A h0 ls Q C hname St hl fin => by
  generalize hH : s.heap = H at St ⊢
  generalize hlo : ([] : List Loc) = locs at St ⊢
  have hl : lv_has ls 2 [(0, .ref h0), (1, .ref r)] := hl
  refine lv_aload_n C.1 C.2.1 dX1_init_0 rfl (lv_at hl 0 rfl) ?_
  refine lv_aload_n C.1 C.2.1 dX1_init_1 rfl (lv_at hl 1 rfl) ?_
  refine zk_call (ws := []) (q := h0) (As := [.ref r]) (rest := []) (n := 1) C (zk_Walker hcl hin hty hnm hT r) St zq_128 zq_67 zq_139 zq_127 rfl ⟨by decide, by decide, by decide +kernel⟩ rfl ⟨Nat.le_of_ble_eq_true rfl, Nat.le_of_ble_eq_true rfl⟩ hl.1 (Nat.le_of_ble_eq_true rfl) ⟨Nat.le_of_ble_eq_true rfl, Nat.le_of_ble_eq_true rfl⟩ dX1_init_2 (fun u H locs St => ?_)
  exact fin [] H locs 5 ls 0 0 (by decide) (by decide) St dX1_init_5
set_option maxHeartbeats 4000000 in
set_option maxRecDepth 100000 in
theorem zk_Stout {ci : Nat} {Cn : String} {T : u_T} {ty0 : Nat → FieldType} (hcl : vwCl[ci]? = some (Cn, T, 1)) (hin : ∀ w ∈ u_ws Cn T 1, w ∈ zj_T) (hty : ∀ k, k < 1 → parseFieldDescriptor (T k).2.2.1 = some (ty0 k)) (hnm : ∀ a, a < 1 → ∀ b, b < 1 → a ≠ b → (T a).2.1 ≠ (T b).2.1) (hT : T 0 = (RX9, "ran", "LRoadForMood$Rows;", true)) (r : Nat) : zk_MC yX7_init cX7_init 2 2 0 0 D (zk_t cI cZ cQ) ci [.null] [.ref r] (fun h0 u => [(h0, .inr (ci, [.ref r]))]) := zk_met (by decide +kernel) rfl (fun _ => Nat.le_of_ble_eq_true rfl) fun l p e s m args below meth c A h0 ls Q C hname St hl fin => by
  generalize hH : s.heap = H at St ⊢
  generalize hlo : ([] : List Loc) = locs at St ⊢
  have hl : lv_has ls 2 [(0, .ref h0), (1, .ref r)] := hl
  refine lv_aload_n C.1 C.2.1 dX7_init_0 rfl (lv_at hl 0 rfl) ?_
  refine lv_aload_n C.1 C.2.1 dX7_init_1 rfl (lv_at hl 1 rfl) ?_
  refine zk_call (ws := []) (q := h0) (As := [.ref r]) (rest := []) (n := 1) C (zk_Walker hcl hin hty hnm hT r) St zq_128 zq_67 zq_147 zq_127 rfl ⟨by decide, by decide, by decide +kernel⟩ rfl ⟨Nat.le_of_ble_eq_true rfl, Nat.le_of_ble_eq_true rfl⟩ hl.1 (Nat.le_of_ble_eq_true rfl) ⟨Nat.le_of_ble_eq_true rfl, Nat.le_of_ble_eq_true rfl⟩ dX7_init_2 (fun u H locs St => ?_)
  exact fin [] H locs 5 ls 0 0 (by decide) (by decide) St dX7_init_5
set_option maxHeartbeats 4000000 in
set_option maxRecDepth 100000 in
theorem zk_Drunk {ci : Nat} {Cn : String} {T : u_T} {ty0 : Nat → FieldType} (hcl : vwCl[ci]? = some (Cn, T, 1)) (hin : ∀ w ∈ u_ws Cn T 1, w ∈ zj_T) (hty : ∀ k, k < 1 → parseFieldDescriptor (T k).2.2.1 = some (ty0 k)) (hnm : ∀ a, a < 1 → ∀ b, b < 1 → a ≠ b → (T a).2.1 ≠ (T b).2.1) (hT : T 0 = (RX9, "ran", "LRoadForMood$Rows;", true)) (r : Nat) : zk_MC yX0_init cX0_init 2 2 0 0 D (zk_t cI cZ cQ) ci [.null] [.ref r] (fun h0 u => [(h0, .inr (ci, [.ref r]))]) := zk_met (by decide +kernel) rfl (fun _ => Nat.le_of_ble_eq_true rfl) fun l p e s m args below meth c A h0 ls Q C hname St hl fin => by
  generalize hH : s.heap = H at St ⊢
  generalize hlo : ([] : List Loc) = locs at St ⊢
  have hl : lv_has ls 2 [(0, .ref h0), (1, .ref r)] := hl
  refine lv_aload_n C.1 C.2.1 dX0_init_0 rfl (lv_at hl 0 rfl) ?_
  refine lv_aload_n C.1 C.2.1 dX0_init_1 rfl (lv_at hl 1 rfl) ?_
  refine zk_call (ws := []) (q := h0) (As := [.ref r]) (rest := []) (n := 1) C (zk_Walker hcl hin hty hnm hT r) St zq_128 zq_67 zq_155 zq_127 rfl ⟨by decide, by decide, by decide +kernel⟩ rfl ⟨Nat.le_of_ble_eq_true rfl, Nat.le_of_ble_eq_true rfl⟩ hl.1 (Nat.le_of_ble_eq_true rfl) ⟨Nat.le_of_ble_eq_true rfl, Nat.le_of_ble_eq_true rfl⟩ dX0_init_2 (fun u H locs St => ?_)
  exact fin [] H locs 5 ls 0 0 (by decide) (by decide) St dX0_init_5
set_option maxHeartbeats 4000000 in
set_option maxRecDepth 100000 in
theorem zk_Shy {ci : Nat} {Cn : String} {T : u_T} {ty0 : Nat → FieldType} (hcl : vwCl[ci]? = some (Cn, T, 1)) (hin : ∀ w ∈ u_ws Cn T 1, w ∈ zj_T) (hty : ∀ k, k < 1 → parseFieldDescriptor (T k).2.2.1 = some (ty0 k)) (hnm : ∀ a, a < 1 → ∀ b, b < 1 → a ≠ b → (T a).2.1 ≠ (T b).2.1) (hT : T 0 = (RX9, "ran", "LRoadForMood$Rows;", true)) (r : Nat) : zk_MC yX6_init cX6_init 2 3 0 0 D (zk_t cI cZ cQ) ci [.null] [.ref r] (fun h0 u => [(h0, .inr (ci, [.ref r]))]) := zk_met (by decide +kernel) rfl (fun _ => Nat.le_of_ble_eq_true rfl) fun l p e s m args below meth c A h0 ls Q C hname St hl fin => by
  generalize hH : s.heap = H at St ⊢
  generalize hlo : ([] : List Loc) = locs at St ⊢
  have hl : lv_has ls 2 [(0, .ref h0), (1, .ref r)] := hl
  refine lv_aload_n C.1 C.2.1 dX6_init_0 rfl (lv_at hl 0 rfl) ?_
  refine lv_aload_n C.1 C.2.1 dX6_init_1 rfl (lv_at hl 1 rfl) ?_
  refine zk_call (ws := []) (q := h0) (As := [.ref r]) (rest := []) (n := 1) C (zk_Lover hcl hin hty hnm hT r) St zq_138 zq_68 zq_163 zq_137 rfl ⟨by decide, by decide, by decide +kernel⟩ rfl ⟨Nat.le_of_ble_eq_true rfl, Nat.le_of_ble_eq_true rfl⟩ hl.1 (Nat.le_of_ble_eq_true rfl) ⟨Nat.le_of_ble_eq_true rfl, Nat.le_of_ble_eq_true rfl⟩ dX6_init_2 (fun u H locs St => ?_)
  exact fin [] H locs 5 ls 0 0 (by decide) (by decide) St dX6_init_5
set_option maxHeartbeats 4000000 in
set_option maxRecDepth 100000 in
theorem zk_Proud {ci : Nat} {Cn : String} {T : u_T} {ty0 : Nat → FieldType} (hcl : vwCl[ci]? = some (Cn, T, 1)) (hin : ∀ w ∈ u_ws Cn T 1, w ∈ zj_T) (hty : ∀ k, k < 1 → parseFieldDescriptor (T k).2.2.1 = some (ty0 k)) (hnm : ∀ a, a < 1 → ∀ b, b < 1 → a ≠ b → (T a).2.1 ≠ (T b).2.1) (hT : T 0 = (RX9, "ran", "LRoadForMood$Rows;", true)) (r : Nat) : zk_MC yX3_init cX3_init 2 3 0 0 D (zk_t cI cZ cQ) ci [.null] [.ref r] (fun h0 u => [(h0, .inr (ci, [.ref r]))]) := zk_met (by decide +kernel) rfl (fun _ => Nat.le_of_ble_eq_true rfl) fun l p e s m args below meth c A h0 ls Q C hname St hl fin => by
  generalize hH : s.heap = H at St ⊢
  generalize hlo : ([] : List Loc) = locs at St ⊢
  have hl : lv_has ls 2 [(0, .ref h0), (1, .ref r)] := hl
  refine lv_aload_n C.1 C.2.1 dX3_init_0 rfl (lv_at hl 0 rfl) ?_
  refine lv_aload_n C.1 C.2.1 dX3_init_1 rfl (lv_at hl 1 rfl) ?_
  refine zk_call (ws := []) (q := h0) (As := [.ref r]) (rest := []) (n := 1) C (zk_Stout hcl hin hty hnm hT r) St zq_146 zq_69 zq_171 zq_145 rfl ⟨by decide, by decide, by decide +kernel⟩ rfl ⟨Nat.le_of_ble_eq_true rfl, Nat.le_of_ble_eq_true rfl⟩ hl.1 (Nat.le_of_ble_eq_true rfl) ⟨Nat.le_of_ble_eq_true rfl, Nat.le_of_ble_eq_true rfl⟩ dX3_init_2 (fun u H locs St => ?_)
  exact fin [] H locs 5 ls 0 0 (by decide) (by decide) St dX3_init_5
set_option maxHeartbeats 4000000 in
set_option maxRecDepth 100000 in
theorem zk_Told {ci : Nat} {Cn : String} {T : u_T} {ty0 : Nat → FieldType} (hcl : vwCl[ci]? = some (Cn, T, 1)) (hin : ∀ w ∈ u_ws Cn T 1, w ∈ zj_T) (hty : ∀ k, k < 1 → parseFieldDescriptor (T k).2.2.1 = some (ty0 k)) (hnm : ∀ a, a < 1 → ∀ b, b < 1 → a ≠ b → (T a).2.1 ≠ (T b).2.1) (hT : T 0 = (RX9, "ran", "LRoadForMood$Rows;", true)) (r : Nat) : zk_MC yX8_init cX8_init 2 3 0 0 D (zk_t cI cZ cQ) ci [.null] [.ref r] (fun h0 u => [(h0, .inr (ci, [.ref r]))]) := zk_met (by decide +kernel) rfl (fun _ => Nat.le_of_ble_eq_true rfl) fun l p e s m args below meth c A h0 ls Q C hname St hl fin => by
  generalize hH : s.heap = H at St ⊢
  generalize hlo : ([] : List Loc) = locs at St ⊢
  have hl : lv_has ls 2 [(0, .ref h0), (1, .ref r)] := hl
  refine lv_aload_n C.1 C.2.1 dX8_init_0 rfl (lv_at hl 0 rfl) ?_
  refine lv_aload_n C.1 C.2.1 dX8_init_1 rfl (lv_at hl 1 rfl) ?_
  refine zk_call (ws := []) (q := h0) (As := [.ref r]) (rest := []) (n := 1) C (zk_Drunk hcl hin hty hnm hT r) St zq_154 zq_70 zq_179 zq_153 rfl ⟨by decide, by decide, by decide +kernel⟩ rfl ⟨Nat.le_of_ble_eq_true rfl, Nat.le_of_ble_eq_true rfl⟩ hl.1 (Nat.le_of_ble_eq_true rfl) ⟨Nat.le_of_ble_eq_true rfl, Nat.le_of_ble_eq_true rfl⟩ dX8_init_2 (fun u H locs St => ?_)
  exact fin [] H locs 5 ls 0 0 (by decide) (by decide) St dX8_init_5
set_option maxHeartbeats 4000000 in
set_option maxRecDepth 100000 in
theorem zk_Rows (N : Nat) (hN : N < 1000) : zk_MC yX5_init cX5_init 2 1 3 (0 + N + N + N) D (zk_t cI cZ cQ) 5 [.null, .null, .null, .int 0] [.int (nI N)] (fun h0 u => zk_gRows cI h0 N (u.getD 0 0) (u.getD 1 0) (u.getD 2 0)) := zk_met (by decide +kernel) rfl (fun _ => Nat.le_of_ble_eq_true rfl) fun l p e s m args below meth c A h0 ls Q C hname St hl fin => by
  generalize hH : s.heap = H at St ⊢
  generalize hlo : ([] : List Loc) = locs at St ⊢
  have hl : lv_has ls 2 [(0, .ref h0), (1, .int (nI N))] := hl
  refine lv_aload_n C.1 C.2.1 dX5_init_0 rfl (lv_at hl 0 rfl) ?_
  refine zk_obj C zq_99 hl.1 (Nat.le_of_ble_eq_true rfl) ⟨Nat.le_of_ble_eq_true rfl, Nat.le_of_ble_eq_true rfl⟩ dX5_init_1 ?_
  refine lv_aload_n C.1 C.2.1 dX5_init_4 rfl (lv_at hl 0 rfl) ?_
  refine lv_iload_n C.1 C.2.1 dX5_init_5 rfl (lv_at hl 1 rfl) ?_
  refine zk_newi (N := N) C St rfl (by first | decide | omega) (by first | exact Nat.le_of_ble_eq_true rfl | (simp only [zk_rm]; omega)) (by first | exact Nat.le_of_ble_eq_true rfl | (simp only [zk_rm]; omega)) dX5_init_6 (fun q6 H St => ?_)
  have St : zk_St A D ([(h0, .inr (5, [.null, .null, .null, .int 0]))] ++ [(q6, zk_ai cI N)]) s H locs := St
  refine W.widen (k := 1) (n := 0 + N) (by first | decide | omega) (by first | decide | omega) ?_
  refine zk_putF (k := 0) (ty := .array .int) C hname St 0 rfl rfl zw_5 tyX5_ok nmX5 (by decide) zq_100 rfl rfl (by decide +kernel) rfl rfl (Nat.le_of_ble_eq_true rfl) dX5_init_8 (fun H locs St => ?_)
  have St : zk_St A D ([(h0, .inr (5, [.ref q6, .null, .null, .int 0]))] ++ [(q6, zk_ai cI N)]) s H locs := St
  refine lv_aload_n C.1 C.2.1 dX5_init_11 rfl (lv_at hl 0 rfl) ?_
  refine lv_iload_n C.1 C.2.1 dX5_init_12 rfl (lv_at hl 1 rfl) ?_
  refine zk_newi (N := N) C St rfl (by first | decide | omega) (by first | exact Nat.le_of_ble_eq_true rfl | (simp only [zk_rm]; omega)) (by first | exact Nat.le_of_ble_eq_true rfl | (simp only [zk_rm]; omega)) dX5_init_13 (fun q13 H St => ?_)
  have St : zk_St A D (([(h0, .inr (5, [.ref q6, .null, .null, .int 0]))] ++ [(q6, zk_ai cI N)]) ++ [(q13, zk_ai cI N)]) s H locs := St
  refine W.widen (k := 2) (n := 0 + N + N) (by first | decide | omega) (by first | decide | omega) ?_
  refine zk_putF (k := 1) (ty := .array .int) C hname St 0 rfl rfl zw_5 tyX5_ok nmX5 (by decide) zq_104 rfl rfl (by decide +kernel) rfl rfl (Nat.le_of_ble_eq_true rfl) dX5_init_15 (fun H locs St => ?_)
  have St : zk_St A D (([(h0, .inr (5, [.ref q6, .ref q13, .null, .int 0]))] ++ [(q6, zk_ai cI N)]) ++ [(q13, zk_ai cI N)]) s H locs := St
  refine lv_aload_n C.1 C.2.1 dX5_init_18 rfl (lv_at hl 0 rfl) ?_
  refine lv_iload_n C.1 C.2.1 dX5_init_19 rfl (lv_at hl 1 rfl) ?_
  refine zk_newi (N := N) C St rfl (by first | decide | omega) (by first | exact Nat.le_of_ble_eq_true rfl | (simp only [zk_rm]; omega)) (by first | exact Nat.le_of_ble_eq_true rfl | (simp only [zk_rm]; omega)) dX5_init_20 (fun q20 H St => ?_)
  have St : zk_St A D ((([(h0, .inr (5, [.ref q6, .ref q13, .null, .int 0]))] ++ [(q6, zk_ai cI N)]) ++ [(q13, zk_ai cI N)]) ++ [(q20, zk_ai cI N)]) s H locs := St
  refine W.widen (k := 3) (n := 0 + N + N + N) (by first | decide | omega) (by first | decide | omega) ?_
  refine zk_putF (k := 2) (ty := .array .int) C hname St 0 rfl rfl zw_5 tyX5_ok nmX5 (by decide) zq_107 rfl rfl (by decide +kernel) rfl rfl (Nat.le_of_ble_eq_true rfl) dX5_init_22 (fun H locs St => ?_)
  have St : zk_St A D ((([(h0, .inr (5, [.ref q6, .ref q13, .ref q20, .int 0]))] ++ [(q6, zk_ai cI N)]) ++ [(q13, zk_ai cI N)]) ++ [(q20, zk_ai cI N)]) s H locs := St
  exact fin [q6, q13, q20] H locs 25 ls 3 (0 + N + N + N) (by omega) (by omega) St dX5_init_25
set_option maxHeartbeats 4000000 in
set_option maxRecDepth 100000 in
theorem zk_Park (sm : Nat) : zk_MC yX2_init cX2_init 2 1 3 206 D (zk_t cI cZ cQ) 2 [.int 0, .int 0, .int 0, .null, .null, .null, .null, .int 0, .null, .int 0, .int 0] [.ref sm] (fun h0 u => zk_gPark cI h0 (u.getD 0 0) (u.getD 1 0) (u.getD 2 0) sm) := zk_met (by decide +kernel) rfl (fun _ => Nat.le_of_ble_eq_true rfl) fun l p e s m args below meth c A h0 ls Q C hname St hl fin => by
  generalize hH : s.heap = H at St ⊢
  generalize hlo : ([] : List Loc) = locs at St ⊢
  have hl : lv_has ls 2 [(0, .ref h0), (1, .ref sm)] := hl
  refine lv_aload_n C.1 C.2.1 dX2_init_0 rfl (lv_at hl 0 rfl) ?_
  refine zk_obj C zq_187 hl.1 (Nat.le_of_ble_eq_true rfl) ⟨Nat.le_of_ble_eq_true rfl, Nat.le_of_ble_eq_true rfl⟩ dX2_init_1 ?_
  refine lv_aload_n C.1 C.2.1 dX2_init_4 rfl (lv_at hl 0 rfl) ?_
  refine lv_bipush (v := (nI 100)) C.1 C.2.1 dX2_init_5 (by decide) ?_
  refine zk_newi (N := 100) C St rfl (by first | decide | omega) (by first | exact Nat.le_of_ble_eq_true rfl | (simp only [zk_rm]; omega)) (by first | exact Nat.le_of_ble_eq_true rfl | (simp only [zk_rm]; omega)) dX2_init_7 (fun q7 H St => ?_)
  have St : zk_St A D ([(h0, .inr (2, [.int 0, .int 0, .int 0, .null, .null, .null, .null, .int 0, .null, .int 0, .int 0]))] ++ [(q7, zk_ai cI 100)]) s H locs := St
  refine W.widen (k := 1) (n := 100) (by first | decide | omega) (by first | decide | omega) ?_
  refine zk_putF (k := 3) (ty := .array .int) C hname St 0 rfl rfl zw_2 tyX2_ok nmX2 (by decide) zq_195 rfl rfl (by decide +kernel) rfl rfl (Nat.le_of_ble_eq_true rfl) dX2_init_9 (fun H locs St => ?_)
  have St : zk_St A D ([(h0, .inr (2, [.int 0, .int 0, .int 0, .ref q7, .null, .null, .null, .int 0, .null, .int 0, .int 0]))] ++ [(q7, zk_ai cI 100)]) s H locs := St
  refine lv_aload_n C.1 C.2.1 dX2_init_12 rfl (lv_at hl 0 rfl) ?_
  refine lv_bipush (v := (nI 100)) C.1 C.2.1 dX2_init_13 (by decide) ?_
  refine zk_newi (N := 100) C St rfl (by first | decide | omega) (by first | exact Nat.le_of_ble_eq_true rfl | (simp only [zk_rm]; omega)) (by first | exact Nat.le_of_ble_eq_true rfl | (simp only [zk_rm]; omega)) dX2_init_15 (fun q15 H St => ?_)
  have St : zk_St A D (([(h0, .inr (2, [.int 0, .int 0, .int 0, .ref q7, .null, .null, .null, .int 0, .null, .int 0, .int 0]))] ++ [(q7, zk_ai cI 100)]) ++ [(q15, zk_ai cI 100)]) s H locs := St
  refine W.widen (k := 2) (n := 200) (by first | decide | omega) (by first | decide | omega) ?_
  refine zk_putF (k := 4) (ty := .array .int) C hname St 0 rfl rfl zw_2 tyX2_ok nmX2 (by decide) zq_196 rfl rfl (by decide +kernel) rfl rfl (Nat.le_of_ble_eq_true rfl) dX2_init_17 (fun H locs St => ?_)
  have St : zk_St A D (([(h0, .inr (2, [.int 0, .int 0, .int 0, .ref q7, .ref q15, .null, .null, .int 0, .null, .int 0, .int 0]))] ++ [(q7, zk_ai cI 100)]) ++ [(q15, zk_ai cI 100)]) s H locs := St
  refine lv_aload_n C.1 C.2.1 dX2_init_20 rfl (lv_at hl 0 rfl) ?_
  refine lv_bipush (v := (nI 6)) C.1 C.2.1 dX2_init_21 (by decide) ?_
  refine zk_newi (N := 6) C St rfl (by first | decide | omega) (by first | exact Nat.le_of_ble_eq_true rfl | (simp only [zk_rm]; omega)) (by first | exact Nat.le_of_ble_eq_true rfl | (simp only [zk_rm]; omega)) dX2_init_23 (fun q23 H St => ?_)
  have St : zk_St A D ((([(h0, .inr (2, [.int 0, .int 0, .int 0, .ref q7, .ref q15, .null, .null, .int 0, .null, .int 0, .int 0]))] ++ [(q7, zk_ai cI 100)]) ++ [(q15, zk_ai cI 100)]) ++ [(q23, zk_ai cI 6)]) s H locs := St
  refine W.widen (k := 3) (n := 206) (by first | decide | omega) (by first | decide | omega) ?_
  refine zk_putF (k := 5) (ty := .array .int) C hname St 0 rfl rfl zw_2 tyX2_ok nmX2 (by decide) zq_197 rfl rfl (by decide +kernel) rfl rfl (Nat.le_of_ble_eq_true rfl) dX2_init_25 (fun H locs St => ?_)
  have St : zk_St A D ((([(h0, .inr (2, [.int 0, .int 0, .int 0, .ref q7, .ref q15, .ref q23, .null, .int 0, .null, .int 0, .int 0]))] ++ [(q7, zk_ai cI 100)]) ++ [(q15, zk_ai cI 100)]) ++ [(q23, zk_ai cI 6)]) s H locs := St
  refine lv_aload_n C.1 C.2.1 dX2_init_28 rfl (lv_at hl 0 rfl) ?_
  refine lv_aload_n C.1 C.2.1 dX2_init_29 rfl (lv_at hl 1 rfl) ?_
  refine zk_putF (k := 6) (ty := .array .int) C hname St 0 rfl rfl zw_2 tyX2_ok nmX2 (by decide) zq_198 rfl rfl (by decide +kernel) rfl rfl (Nat.le_of_ble_eq_true rfl) dX2_init_30 (fun H locs St => ?_)
  have St : zk_St A D ((([(h0, .inr (2, [.int 0, .int 0, .int 0, .ref q7, .ref q15, .ref q23, .ref sm, .int 0, .null, .int 0, .int 0]))] ++ [(q7, zk_ai cI 100)]) ++ [(q15, zk_ai cI 100)]) ++ [(q23, zk_ai cI 6)]) s H locs := St
  exact fin [q7, q15, q23] H locs 33 ls 3 206 (by decide) (by decide) St dX2_init_33
set_option maxHeartbeats 4000000 in
set_option maxRecDepth 100000 in
theorem zk_Ring (pk kd : Nat) (mm : Int32) : zk_MC yX4_init cX4_init 4 1 9 70 D (zk_t cI cZ cQ) 4 [.null, .null, .null, .null, .null, .null, .null, .int 0, .int 0, .int 0, .int 0, .null, .null, .int 0, .null, .null, .int 0, .int 0] [.ref pk, .ref kd, .int mm] (fun h0 u => zk_gRing cI h0 u pk kd mm) := zk_met (by decide +kernel) rfl (fun _ => Nat.le_of_ble_eq_true rfl) fun l p e s m args below meth c A h0 ls Q C hname St hl fin => by
  generalize hH : s.heap = H at St ⊢
  generalize hlo : ([] : List Loc) = locs at St ⊢
  have hl : lv_has ls 4 [(0, .ref h0), (1, .ref pk), (2, .ref kd), (3, .int mm)] := hl
  refine lv_aload_n C.1 C.2.1 dX4_init_0 rfl (lv_at hl 0 rfl) ?_
  refine zk_obj C zq_239 hl.1 (Nat.le_of_ble_eq_true rfl) ⟨Nat.le_of_ble_eq_true rfl, Nat.le_of_ble_eq_true rfl⟩ dX4_init_1 ?_
  refine lv_aload_n C.1 C.2.1 dX4_init_4 rfl (lv_at hl 0 rfl) ?_
  refine lv_iconst (v := (nI 4)) C.1 C.2.1 dX4_init_5 (by decide) ?_
  refine zk_newi (N := 4) C St rfl (by first | decide | omega) (by first | exact Nat.le_of_ble_eq_true rfl | (simp only [zk_rm]; omega)) (by first | exact Nat.le_of_ble_eq_true rfl | (simp only [zk_rm]; omega)) dX4_init_6 (fun q6 H St => ?_)
  have St : zk_St A D ([(h0, .inr (4, [.null, .null, .null, .null, .null, .null, .null, .int 0, .int 0, .int 0, .int 0, .null, .null, .int 0, .null, .null, .int 0, .int 0]))] ++ [(q6, zk_ai cI 4)]) s H locs := St
  refine W.widen (k := 1) (n := 4) (by first | decide | omega) (by first | decide | omega) ?_
  refine zk_putF (k := 0) (ty := .array .int) C hname St 0 rfl rfl zw_4 tyX4_ok nmX4 (by decide) zq_240 rfl rfl (by decide +kernel) rfl rfl (Nat.le_of_ble_eq_true rfl) dX4_init_8 (fun H locs St => ?_)
  have St : zk_St A D ([(h0, .inr (4, [.ref q6, .null, .null, .null, .null, .null, .null, .int 0, .int 0, .int 0, .int 0, .null, .null, .int 0, .null, .null, .int 0, .int 0]))] ++ [(q6, zk_ai cI 4)]) s H locs := St
  refine lv_aload_n C.1 C.2.1 dX4_init_11 rfl (lv_at hl 0 rfl) ?_
  refine lv_bipush (v := (nI 6)) C.1 C.2.1 dX4_init_12 (by decide) ?_
  refine zk_newi (N := 6) C St rfl (by first | decide | omega) (by first | exact Nat.le_of_ble_eq_true rfl | (simp only [zk_rm]; omega)) (by first | exact Nat.le_of_ble_eq_true rfl | (simp only [zk_rm]; omega)) dX4_init_14 (fun q14 H St => ?_)
  have St : zk_St A D (([(h0, .inr (4, [.ref q6, .null, .null, .null, .null, .null, .null, .int 0, .int 0, .int 0, .int 0, .null, .null, .int 0, .null, .null, .int 0, .int 0]))] ++ [(q6, zk_ai cI 4)]) ++ [(q14, zk_ai cI 6)]) s H locs := St
  refine W.widen (k := 2) (n := 10) (by first | decide | omega) (by first | decide | omega) ?_
  refine zk_putF (k := 1) (ty := .array .int) C hname St 0 rfl rfl zw_4 tyX4_ok nmX4 (by decide) zq_242 rfl rfl (by decide +kernel) rfl rfl (Nat.le_of_ble_eq_true rfl) dX4_init_16 (fun H locs St => ?_)
  have St : zk_St A D (([(h0, .inr (4, [.ref q6, .ref q14, .null, .null, .null, .null, .null, .int 0, .int 0, .int 0, .int 0, .null, .null, .int 0, .null, .null, .int 0, .int 0]))] ++ [(q6, zk_ai cI 4)]) ++ [(q14, zk_ai cI 6)]) s H locs := St
  refine lv_aload_n C.1 C.2.1 dX4_init_19 rfl (lv_at hl 0 rfl) ?_
  refine lv_bipush (v := (nI 6)) C.1 C.2.1 dX4_init_20 (by decide) ?_
  refine zk_newi (N := 6) C St rfl (by first | decide | omega) (by first | exact Nat.le_of_ble_eq_true rfl | (simp only [zk_rm]; omega)) (by first | exact Nat.le_of_ble_eq_true rfl | (simp only [zk_rm]; omega)) dX4_init_22 (fun q22 H St => ?_)
  have St : zk_St A D ((([(h0, .inr (4, [.ref q6, .ref q14, .null, .null, .null, .null, .null, .int 0, .int 0, .int 0, .int 0, .null, .null, .int 0, .null, .null, .int 0, .int 0]))] ++ [(q6, zk_ai cI 4)]) ++ [(q14, zk_ai cI 6)]) ++ [(q22, zk_ai cI 6)]) s H locs := St
  refine W.widen (k := 3) (n := 16) (by first | decide | omega) (by first | decide | omega) ?_
  refine zk_putF (k := 2) (ty := .array .int) C hname St 0 rfl rfl zw_4 tyX4_ok nmX4 (by decide) zq_244 rfl rfl (by decide +kernel) rfl rfl (Nat.le_of_ble_eq_true rfl) dX4_init_24 (fun H locs St => ?_)
  have St : zk_St A D ((([(h0, .inr (4, [.ref q6, .ref q14, .ref q22, .null, .null, .null, .null, .int 0, .int 0, .int 0, .int 0, .null, .null, .int 0, .null, .null, .int 0, .int 0]))] ++ [(q6, zk_ai cI 4)]) ++ [(q14, zk_ai cI 6)]) ++ [(q22, zk_ai cI 6)]) s H locs := St
  refine lv_aload_n C.1 C.2.1 dX4_init_27 rfl (lv_at hl 0 rfl) ?_
  refine lv_bipush (v := (nI 6)) C.1 C.2.1 dX4_init_28 (by decide) ?_
  refine zk_newi (N := 6) C St rfl (by first | decide | omega) (by first | exact Nat.le_of_ble_eq_true rfl | (simp only [zk_rm]; omega)) (by first | exact Nat.le_of_ble_eq_true rfl | (simp only [zk_rm]; omega)) dX4_init_30 (fun q30 H St => ?_)
  have St : zk_St A D (((([(h0, .inr (4, [.ref q6, .ref q14, .ref q22, .null, .null, .null, .null, .int 0, .int 0, .int 0, .int 0, .null, .null, .int 0, .null, .null, .int 0, .int 0]))] ++ [(q6, zk_ai cI 4)]) ++ [(q14, zk_ai cI 6)]) ++ [(q22, zk_ai cI 6)]) ++ [(q30, zk_ai cI 6)]) s H locs := St
  refine W.widen (k := 4) (n := 22) (by first | decide | omega) (by first | decide | omega) ?_
  refine zk_putF (k := 3) (ty := .array .int) C hname St 0 rfl rfl zw_4 tyX4_ok nmX4 (by decide) zq_247 rfl rfl (by decide +kernel) rfl rfl (Nat.le_of_ble_eq_true rfl) dX4_init_32 (fun H locs St => ?_)
  have St : zk_St A D (((([(h0, .inr (4, [.ref q6, .ref q14, .ref q22, .ref q30, .null, .null, .null, .int 0, .int 0, .int 0, .int 0, .null, .null, .int 0, .null, .null, .int 0, .int 0]))] ++ [(q6, zk_ai cI 4)]) ++ [(q14, zk_ai cI 6)]) ++ [(q22, zk_ai cI 6)]) ++ [(q30, zk_ai cI 6)]) s H locs := St
  refine lv_aload_n C.1 C.2.1 dX4_init_35 rfl (lv_at hl 0 rfl) ?_
  refine lv_bipush (v := (nI 6)) C.1 C.2.1 dX4_init_36 (by decide) ?_
  refine zk_newi (N := 6) C St rfl (by first | decide | omega) (by first | exact Nat.le_of_ble_eq_true rfl | (simp only [zk_rm]; omega)) (by first | exact Nat.le_of_ble_eq_true rfl | (simp only [zk_rm]; omega)) dX4_init_38 (fun q38 H St => ?_)
  have St : zk_St A D ((((([(h0, .inr (4, [.ref q6, .ref q14, .ref q22, .ref q30, .null, .null, .null, .int 0, .int 0, .int 0, .int 0, .null, .null, .int 0, .null, .null, .int 0, .int 0]))] ++ [(q6, zk_ai cI 4)]) ++ [(q14, zk_ai cI 6)]) ++ [(q22, zk_ai cI 6)]) ++ [(q30, zk_ai cI 6)]) ++ [(q38, zk_ai cI 6)]) s H locs := St
  refine W.widen (k := 5) (n := 28) (by first | decide | omega) (by first | decide | omega) ?_
  refine zk_putF (k := 4) (ty := .array .int) C hname St 0 rfl rfl zw_4 tyX4_ok nmX4 (by decide) zq_249 rfl rfl (by decide +kernel) rfl rfl (Nat.le_of_ble_eq_true rfl) dX4_init_40 (fun H locs St => ?_)
  have St : zk_St A D ((((([(h0, .inr (4, [.ref q6, .ref q14, .ref q22, .ref q30, .ref q38, .null, .null, .int 0, .int 0, .int 0, .int 0, .null, .null, .int 0, .null, .null, .int 0, .int 0]))] ++ [(q6, zk_ai cI 4)]) ++ [(q14, zk_ai cI 6)]) ++ [(q22, zk_ai cI 6)]) ++ [(q30, zk_ai cI 6)]) ++ [(q38, zk_ai cI 6)]) s H locs := St
  refine lv_aload_n C.1 C.2.1 dX4_init_43 rfl (lv_at hl 0 rfl) ?_
  refine lv_bipush (v := (nI 6)) C.1 C.2.1 dX4_init_44 (by decide) ?_
  refine zk_newi (N := 6) C St rfl (by first | decide | omega) (by first | exact Nat.le_of_ble_eq_true rfl | (simp only [zk_rm]; omega)) (by first | exact Nat.le_of_ble_eq_true rfl | (simp only [zk_rm]; omega)) dX4_init_46 (fun q46 H St => ?_)
  have St : zk_St A D (((((([(h0, .inr (4, [.ref q6, .ref q14, .ref q22, .ref q30, .ref q38, .null, .null, .int 0, .int 0, .int 0, .int 0, .null, .null, .int 0, .null, .null, .int 0, .int 0]))] ++ [(q6, zk_ai cI 4)]) ++ [(q14, zk_ai cI 6)]) ++ [(q22, zk_ai cI 6)]) ++ [(q30, zk_ai cI 6)]) ++ [(q38, zk_ai cI 6)]) ++ [(q46, zk_ai cI 6)]) s H locs := St
  refine W.widen (k := 6) (n := 34) (by first | decide | omega) (by first | decide | omega) ?_
  refine zk_putF (k := 5) (ty := .array .int) C hname St 0 rfl rfl zw_4 tyX4_ok nmX4 (by decide) zq_251 rfl rfl (by decide +kernel) rfl rfl (Nat.le_of_ble_eq_true rfl) dX4_init_48 (fun H locs St => ?_)
  have St : zk_St A D (((((([(h0, .inr (4, [.ref q6, .ref q14, .ref q22, .ref q30, .ref q38, .ref q46, .null, .int 0, .int 0, .int 0, .int 0, .null, .null, .int 0, .null, .null, .int 0, .int 0]))] ++ [(q6, zk_ai cI 4)]) ++ [(q14, zk_ai cI 6)]) ++ [(q22, zk_ai cI 6)]) ++ [(q30, zk_ai cI 6)]) ++ [(q38, zk_ai cI 6)]) ++ [(q46, zk_ai cI 6)]) s H locs := St
  refine lv_aload_n C.1 C.2.1 dX4_init_51 rfl (lv_at hl 0 rfl) ?_
  refine lv_bipush (v := (nI 24)) C.1 C.2.1 dX4_init_52 (by decide) ?_
  refine zk_newi (N := 24) C St rfl (by first | decide | omega) (by first | exact Nat.le_of_ble_eq_true rfl | (simp only [zk_rm]; omega)) (by first | exact Nat.le_of_ble_eq_true rfl | (simp only [zk_rm]; omega)) dX4_init_54 (fun q54 H St => ?_)
  have St : zk_St A D ((((((([(h0, .inr (4, [.ref q6, .ref q14, .ref q22, .ref q30, .ref q38, .ref q46, .null, .int 0, .int 0, .int 0, .int 0, .null, .null, .int 0, .null, .null, .int 0, .int 0]))] ++ [(q6, zk_ai cI 4)]) ++ [(q14, zk_ai cI 6)]) ++ [(q22, zk_ai cI 6)]) ++ [(q30, zk_ai cI 6)]) ++ [(q38, zk_ai cI 6)]) ++ [(q46, zk_ai cI 6)]) ++ [(q54, zk_ai cI 24)]) s H locs := St
  refine W.widen (k := 7) (n := 58) (by first | decide | omega) (by first | decide | omega) ?_
  refine zk_putF (k := 6) (ty := .array .int) C hname St 0 rfl rfl zw_4 tyX4_ok nmX4 (by decide) zq_253 rfl rfl (by decide +kernel) rfl rfl (Nat.le_of_ble_eq_true rfl) dX4_init_56 (fun H locs St => ?_)
  have St : zk_St A D ((((((([(h0, .inr (4, [.ref q6, .ref q14, .ref q22, .ref q30, .ref q38, .ref q46, .ref q54, .int 0, .int 0, .int 0, .int 0, .null, .null, .int 0, .null, .null, .int 0, .int 0]))] ++ [(q6, zk_ai cI 4)]) ++ [(q14, zk_ai cI 6)]) ++ [(q22, zk_ai cI 6)]) ++ [(q30, zk_ai cI 6)]) ++ [(q38, zk_ai cI 6)]) ++ [(q46, zk_ai cI 6)]) ++ [(q54, zk_ai cI 24)]) s H locs := St
  refine lv_aload_n C.1 C.2.1 dX4_init_59 rfl (lv_at hl 0 rfl) ?_
  refine lv_bipush (v := (nI 6)) C.1 C.2.1 dX4_init_60 (by decide) ?_
  refine zk_newi (N := 6) C St rfl (by first | decide | omega) (by first | exact Nat.le_of_ble_eq_true rfl | (simp only [zk_rm]; omega)) (by first | exact Nat.le_of_ble_eq_true rfl | (simp only [zk_rm]; omega)) dX4_init_62 (fun q62 H St => ?_)
  have St : zk_St A D (((((((([(h0, .inr (4, [.ref q6, .ref q14, .ref q22, .ref q30, .ref q38, .ref q46, .ref q54, .int 0, .int 0, .int 0, .int 0, .null, .null, .int 0, .null, .null, .int 0, .int 0]))] ++ [(q6, zk_ai cI 4)]) ++ [(q14, zk_ai cI 6)]) ++ [(q22, zk_ai cI 6)]) ++ [(q30, zk_ai cI 6)]) ++ [(q38, zk_ai cI 6)]) ++ [(q46, zk_ai cI 6)]) ++ [(q54, zk_ai cI 24)]) ++ [(q62, zk_ai cI 6)]) s H locs := St
  refine W.widen (k := 8) (n := 64) (by first | decide | omega) (by first | decide | omega) ?_
  refine zk_putF (k := 14) (ty := .array .int) C hname St 0 rfl rfl zw_4 tyX4_ok nmX4 (by decide) zq_268 rfl rfl (by decide +kernel) rfl rfl (Nat.le_of_ble_eq_true rfl) dX4_init_64 (fun H locs St => ?_)
  have St : zk_St A D (((((((([(h0, .inr (4, [.ref q6, .ref q14, .ref q22, .ref q30, .ref q38, .ref q46, .ref q54, .int 0, .int 0, .int 0, .int 0, .null, .null, .int 0, .ref q62, .null, .int 0, .int 0]))] ++ [(q6, zk_ai cI 4)]) ++ [(q14, zk_ai cI 6)]) ++ [(q22, zk_ai cI 6)]) ++ [(q30, zk_ai cI 6)]) ++ [(q38, zk_ai cI 6)]) ++ [(q46, zk_ai cI 6)]) ++ [(q54, zk_ai cI 24)]) ++ [(q62, zk_ai cI 6)]) s H locs := St
  refine lv_aload_n C.1 C.2.1 dX4_init_67 rfl (lv_at hl 0 rfl) ?_
  refine lv_bipush (v := (nI 6)) C.1 C.2.1 dX4_init_68 (by decide) ?_
  refine zk_newi (N := 6) C St rfl (by first | decide | omega) (by first | exact Nat.le_of_ble_eq_true rfl | (simp only [zk_rm]; omega)) (by first | exact Nat.le_of_ble_eq_true rfl | (simp only [zk_rm]; omega)) dX4_init_70 (fun q70 H St => ?_)
  have St : zk_St A D ((((((((([(h0, .inr (4, [.ref q6, .ref q14, .ref q22, .ref q30, .ref q38, .ref q46, .ref q54, .int 0, .int 0, .int 0, .int 0, .null, .null, .int 0, .ref q62, .null, .int 0, .int 0]))] ++ [(q6, zk_ai cI 4)]) ++ [(q14, zk_ai cI 6)]) ++ [(q22, zk_ai cI 6)]) ++ [(q30, zk_ai cI 6)]) ++ [(q38, zk_ai cI 6)]) ++ [(q46, zk_ai cI 6)]) ++ [(q54, zk_ai cI 24)]) ++ [(q62, zk_ai cI 6)]) ++ [(q70, zk_ai cI 6)]) s H locs := St
  refine W.widen (k := 9) (n := 70) (by first | decide | omega) (by first | decide | omega) ?_
  refine zk_putF (k := 15) (ty := .array .int) C hname St 0 rfl rfl zw_4 tyX4_ok nmX4 (by decide) zq_269 rfl rfl (by decide +kernel) rfl rfl (Nat.le_of_ble_eq_true rfl) dX4_init_72 (fun H locs St => ?_)
  have St : zk_St A D ((((((((([(h0, .inr (4, [.ref q6, .ref q14, .ref q22, .ref q30, .ref q38, .ref q46, .ref q54, .int 0, .int 0, .int 0, .int 0, .null, .null, .int 0, .ref q62, .ref q70, .int 0, .int 0]))] ++ [(q6, zk_ai cI 4)]) ++ [(q14, zk_ai cI 6)]) ++ [(q22, zk_ai cI 6)]) ++ [(q30, zk_ai cI 6)]) ++ [(q38, zk_ai cI 6)]) ++ [(q46, zk_ai cI 6)]) ++ [(q54, zk_ai cI 24)]) ++ [(q62, zk_ai cI 6)]) ++ [(q70, zk_ai cI 6)]) s H locs := St
  refine lv_aload_n C.1 C.2.1 dX4_init_75 rfl (lv_at hl 0 rfl) ?_
  refine lv_aload_n C.1 C.2.1 dX4_init_76 rfl (lv_at hl 1 rfl) ?_
  refine zk_putF (k := 11) (ty := .object "RoadForMood$Park") C hname St 0 rfl rfl zw_4 tyX4_ok nmX4 (by decide) zq_265 rfl rfl (by decide +kernel) rfl rfl (Nat.le_of_ble_eq_true rfl) dX4_init_77 (fun H locs St => ?_)
  have St : zk_St A D ((((((((([(h0, .inr (4, [.ref q6, .ref q14, .ref q22, .ref q30, .ref q38, .ref q46, .ref q54, .int 0, .int 0, .int 0, .int 0, .ref pk, .null, .int 0, .ref q62, .ref q70, .int 0, .int 0]))] ++ [(q6, zk_ai cI 4)]) ++ [(q14, zk_ai cI 6)]) ++ [(q22, zk_ai cI 6)]) ++ [(q30, zk_ai cI 6)]) ++ [(q38, zk_ai cI 6)]) ++ [(q46, zk_ai cI 6)]) ++ [(q54, zk_ai cI 24)]) ++ [(q62, zk_ai cI 6)]) ++ [(q70, zk_ai cI 6)]) s H locs := St
  refine lv_aload_n C.1 C.2.1 dX4_init_80 rfl (lv_at hl 0 rfl) ?_
  refine lv_aload_n C.1 C.2.1 dX4_init_81 rfl (lv_at hl 2 rfl) ?_
  refine zk_putF (k := 12) (ty := .array (.object "RoadForMood$Walker")) C hname St 0 rfl rfl zw_4 tyX4_ok nmX4 (by decide) zq_266 rfl rfl (by decide +kernel) rfl rfl (Nat.le_of_ble_eq_true rfl) dX4_init_82 (fun H locs St => ?_)
  have St : zk_St A D ((((((((([(h0, .inr (4, [.ref q6, .ref q14, .ref q22, .ref q30, .ref q38, .ref q46, .ref q54, .int 0, .int 0, .int 0, .int 0, .ref pk, .ref kd, .int 0, .ref q62, .ref q70, .int 0, .int 0]))] ++ [(q6, zk_ai cI 4)]) ++ [(q14, zk_ai cI 6)]) ++ [(q22, zk_ai cI 6)]) ++ [(q30, zk_ai cI 6)]) ++ [(q38, zk_ai cI 6)]) ++ [(q46, zk_ai cI 6)]) ++ [(q54, zk_ai cI 24)]) ++ [(q62, zk_ai cI 6)]) ++ [(q70, zk_ai cI 6)]) s H locs := St
  refine lv_aload_n C.1 C.2.1 dX4_init_85 rfl (lv_at hl 0 rfl) ?_
  refine lv_iload_n C.1 C.2.1 dX4_init_86 rfl (lv_at hl 3 rfl) ?_
  refine zk_putF (k := 13) (ty := .int) C hname St 0 rfl rfl zw_4 tyX4_ok nmX4 (by decide) zq_267 rfl rfl (by decide +kernel) rfl rfl (Nat.le_of_ble_eq_true rfl) dX4_init_87 (fun H locs St => ?_)
  have St : zk_St A D ((((((((([(h0, .inr (4, [.ref q6, .ref q14, .ref q22, .ref q30, .ref q38, .ref q46, .ref q54, .int 0, .int 0, .int 0, .int 0, .ref pk, .ref kd, .int mm, .ref q62, .ref q70, .int 0, .int 0]))] ++ [(q6, zk_ai cI 4)]) ++ [(q14, zk_ai cI 6)]) ++ [(q22, zk_ai cI 6)]) ++ [(q30, zk_ai cI 6)]) ++ [(q38, zk_ai cI 6)]) ++ [(q46, zk_ai cI 6)]) ++ [(q54, zk_ai cI 24)]) ++ [(q62, zk_ai cI 6)]) ++ [(q70, zk_ai cI 6)]) s H locs := St
  exact fin [q6, q14, q22, q30, q38, q46, q54, q62, q70] H locs 90 ls 9 70 (by decide) (by decide) St dX4_init_90
set_option maxHeartbeats 4000000 in
set_option maxRecDepth 100000 in
theorem zk_Whole (pk kd : Nat) : zk_MC yX10_init cX10_init 3 3 26 470 D (zk_t cI cZ cQ) 10 [.null, .null, .null, .null, .null, .null, .int 0] [.ref pk, .ref kd] (fun h0 u => zk_gWhole cI h0 u pk kd) := zk_met (by decide +kernel) rfl (fun _ => Nat.le_of_ble_eq_true rfl) fun l p e s m args below meth c A h0 ls Q C hname St hl fin => by
  generalize hH : s.heap = H at St ⊢
  generalize hlo : ([] : List Loc) = locs at St ⊢
  have hl : lv_has ls 3 [(0, .ref h0), (1, .ref pk), (2, .ref kd)] := hl
  refine lv_aload_n C.1 C.2.1 dX10_init_0 rfl (lv_at hl 0 rfl) ?_
  refine zk_obj C zq_231 hl.1 (Nat.le_of_ble_eq_true rfl) ⟨Nat.le_of_ble_eq_true rfl, Nat.le_of_ble_eq_true rfl⟩ dX10_init_1 ?_
  refine lv_aload_n C.1 C.2.1 dX10_init_4 rfl (lv_at hl 0 rfl) ?_
  refine zk_newo (ci := 5) (fs := [.null, .null, .null, .int 0]) C St rfl zw_5 tyX5_ok zq_232 zq_95 zq_66 (fun j hj => by rcases (show j = 0 ∨ j = 1 ∨ j = 2 ∨ j = 3 by omega) with rfl | rfl | rfl | rfl <;> rfl) (Nat.le_of_ble_eq_true rfl) (Nat.le_of_ble_eq_true rfl) dX10_init_5 (fun q5 H St => ?_)
  have St : zk_St A D ([(h0, .inr (10, [.null, .null, .null, .null, .null, .null, .int 0]))] ++ [(q5, .inr (5, [.null, .null, .null, .int 0]))]) s H locs := St
  refine W.widen (k := 1) (n := 4) (by decide) (by decide) ?_
  refine lv_dup C.1 C.2.1 dX10_init_8 rfl ?_
  refine lv_bipush (v := (nI 100)) C.1 C.2.1 dX10_init_9 (by decide) ?_
  refine zk_call (ws := [(h0, .inr (10, [.null, .null, .null, .null, .null, .null, .int 0]))]) (q := q5) (As := [.int (nI 100)]) (rest := [.ref q5, .ref h0]) (n := 1) C (zk_Rows (cI := cI) (cZ := cZ) (cQ := cQ) 100 (by decide)) St zq_98 zq_66 zq_233 zq_97 rfl ⟨by decide, by decide, by decide +kernel⟩ rfl ⟨Nat.le_of_ble_eq_true rfl, Nat.le_of_ble_eq_true rfl⟩ hl.1 (Nat.le_of_ble_eq_true rfl) ⟨Nat.le_of_ble_eq_true rfl, Nat.le_of_ble_eq_true rfl⟩ dX10_init_11 (fun u11 H locs St => ?_)
  have St : zk_St A D ([(h0, .inr (10, [.null, .null, .null, .null, .null, .null, .int 0]))] ++ zk_gRows cI q5 100 (u11.getD 0 0) (u11.getD 1 0) (u11.getD 2 0)) s H locs := St
  refine W.widen (k := 4) (n := 304) (by decide) (by decide) ?_
  refine zk_putF (k := 2) (ty := .object "RoadForMood$Rows") C hname St 0 rfl rfl zw_10 tyX10_ok nmX10 (by decide) zq_313 rfl rfl (by decide +kernel) rfl rfl (Nat.le_of_ble_eq_true rfl) dX10_init_14 (fun H locs St => ?_)
  have St : zk_St A D ([(h0, .inr (10, [.null, .null, .ref q5, .null, .null, .null, .int 0]))] ++ zk_gRows cI q5 100 (u11.getD 0 0) (u11.getD 1 0) (u11.getD 2 0)) s H locs := St
  refine lv_aload_n C.1 C.2.1 dX10_init_17 rfl (lv_at hl 0 rfl) ?_
  refine zk_newo (ci := 5) (fs := [.null, .null, .null, .int 0]) C St rfl zw_5 tyX5_ok zq_232 zq_95 zq_66 (fun j hj => by rcases (show j = 0 ∨ j = 1 ∨ j = 2 ∨ j = 3 by omega) with rfl | rfl | rfl | rfl <;> rfl) (Nat.le_of_ble_eq_true rfl) (Nat.le_of_ble_eq_true rfl) dX10_init_18 (fun q18 H St => ?_)
  have St : zk_St A D (([(h0, .inr (10, [.null, .null, .ref q5, .null, .null, .null, .int 0]))] ++ zk_gRows cI q5 100 (u11.getD 0 0) (u11.getD 1 0) (u11.getD 2 0)) ++ [(q18, .inr (5, [.null, .null, .null, .int 0]))]) s H locs := St
  refine W.widen (k := 5) (n := 308) (by decide) (by decide) ?_
  refine lv_dup C.1 C.2.1 dX10_init_21 rfl ?_
  refine lv_bipush (v := (nI 6)) C.1 C.2.1 dX10_init_22 (by decide) ?_
  refine zk_call (ws := ([(h0, .inr (10, [.null, .null, .ref q5, .null, .null, .null, .int 0]))] ++ zk_gRows cI q5 100 (u11.getD 0 0) (u11.getD 1 0) (u11.getD 2 0))) (q := q18) (As := [.int (nI 6)]) (rest := [.ref q18, .ref h0]) (n := 1) C (zk_Rows (cI := cI) (cZ := cZ) (cQ := cQ) 6 (by decide)) St zq_98 zq_66 zq_233 zq_97 rfl ⟨by decide, by decide, by decide +kernel⟩ rfl ⟨Nat.le_of_ble_eq_true rfl, Nat.le_of_ble_eq_true rfl⟩ hl.1 (Nat.le_of_ble_eq_true rfl) ⟨Nat.le_of_ble_eq_true rfl, Nat.le_of_ble_eq_true rfl⟩ dX10_init_24 (fun u24 H locs St => ?_)
  have St : zk_St A D (([(h0, .inr (10, [.null, .null, .ref q5, .null, .null, .null, .int 0]))] ++ zk_gRows cI q5 100 (u11.getD 0 0) (u11.getD 1 0) (u11.getD 2 0)) ++ zk_gRows cI q18 6 (u24.getD 0 0) (u24.getD 1 0) (u24.getD 2 0)) s H locs := St
  refine W.widen (k := 8) (n := 326) (by decide) (by decide) ?_
  refine zk_putF (k := 3) (ty := .object "RoadForMood$Rows") C hname St 0 rfl rfl zw_10 tyX10_ok nmX10 (by decide) zq_315 rfl rfl (by decide +kernel) rfl rfl (Nat.le_of_ble_eq_true rfl) dX10_init_27 (fun H locs St => ?_)
  have St : zk_St A D (([(h0, .inr (10, [.null, .null, .ref q5, .ref q18, .null, .null, .int 0]))] ++ zk_gRows cI q5 100 (u11.getD 0 0) (u11.getD 1 0) (u11.getD 2 0)) ++ zk_gRows cI q18 6 (u24.getD 0 0) (u24.getD 1 0) (u24.getD 2 0)) s H locs := St
  refine lv_aload_n C.1 C.2.1 dX10_init_30 rfl (lv_at hl 0 rfl) ?_
  refine zk_newo (ci := 5) (fs := [.null, .null, .null, .int 0]) C St rfl zw_5 tyX5_ok zq_232 zq_95 zq_66 (fun j hj => by rcases (show j = 0 ∨ j = 1 ∨ j = 2 ∨ j = 3 by omega) with rfl | rfl | rfl | rfl <;> rfl) (Nat.le_of_ble_eq_true rfl) (Nat.le_of_ble_eq_true rfl) dX10_init_31 (fun q31 H St => ?_)
  have St : zk_St A D ((([(h0, .inr (10, [.null, .null, .ref q5, .ref q18, .null, .null, .int 0]))] ++ zk_gRows cI q5 100 (u11.getD 0 0) (u11.getD 1 0) (u11.getD 2 0)) ++ zk_gRows cI q18 6 (u24.getD 0 0) (u24.getD 1 0) (u24.getD 2 0)) ++ [(q31, .inr (5, [.null, .null, .null, .int 0]))]) s H locs := St
  refine W.widen (k := 9) (n := 330) (by decide) (by decide) ?_
  refine lv_dup C.1 C.2.1 dX10_init_34 rfl ?_
  refine lv_bipush (v := (nI 8)) C.1 C.2.1 dX10_init_35 (by decide) ?_
  refine zk_call (ws := (([(h0, .inr (10, [.null, .null, .ref q5, .ref q18, .null, .null, .int 0]))] ++ zk_gRows cI q5 100 (u11.getD 0 0) (u11.getD 1 0) (u11.getD 2 0)) ++ zk_gRows cI q18 6 (u24.getD 0 0) (u24.getD 1 0) (u24.getD 2 0))) (q := q31) (As := [.int (nI 8)]) (rest := [.ref q31, .ref h0]) (n := 1) C (zk_Rows (cI := cI) (cZ := cZ) (cQ := cQ) 8 (by decide)) St zq_98 zq_66 zq_233 zq_97 rfl ⟨by decide, by decide, by decide +kernel⟩ rfl ⟨Nat.le_of_ble_eq_true rfl, Nat.le_of_ble_eq_true rfl⟩ hl.1 (Nat.le_of_ble_eq_true rfl) ⟨Nat.le_of_ble_eq_true rfl, Nat.le_of_ble_eq_true rfl⟩ dX10_init_37 (fun u37 H locs St => ?_)
  have St : zk_St A D ((([(h0, .inr (10, [.null, .null, .ref q5, .ref q18, .null, .null, .int 0]))] ++ zk_gRows cI q5 100 (u11.getD 0 0) (u11.getD 1 0) (u11.getD 2 0)) ++ zk_gRows cI q18 6 (u24.getD 0 0) (u24.getD 1 0) (u24.getD 2 0)) ++ zk_gRows cI q31 8 (u37.getD 0 0) (u37.getD 1 0) (u37.getD 2 0)) s H locs := St
  refine W.widen (k := 12) (n := 354) (by decide) (by decide) ?_
  refine zk_putF (k := 4) (ty := .object "RoadForMood$Rows") C hname St 0 rfl rfl zw_10 tyX10_ok nmX10 (by decide) zq_317 rfl rfl (by decide +kernel) rfl rfl (Nat.le_of_ble_eq_true rfl) dX10_init_40 (fun H locs St => ?_)
  have St : zk_St A D ((([(h0, .inr (10, [.null, .null, .ref q5, .ref q18, .ref q31, .null, .int 0]))] ++ zk_gRows cI q5 100 (u11.getD 0 0) (u11.getD 1 0) (u11.getD 2 0)) ++ zk_gRows cI q18 6 (u24.getD 0 0) (u24.getD 1 0) (u24.getD 2 0)) ++ zk_gRows cI q31 8 (u37.getD 0 0) (u37.getD 1 0) (u37.getD 2 0)) s H locs := St
  refine lv_aload_n C.1 C.2.1 dX10_init_43 rfl (lv_at hl 0 rfl) ?_
  refine zk_newo (ci := 5) (fs := [.null, .null, .null, .int 0]) C St rfl zw_5 tyX5_ok zq_232 zq_95 zq_66 (fun j hj => by rcases (show j = 0 ∨ j = 1 ∨ j = 2 ∨ j = 3 by omega) with rfl | rfl | rfl | rfl <;> rfl) (Nat.le_of_ble_eq_true rfl) (Nat.le_of_ble_eq_true rfl) dX10_init_44 (fun q44 H St => ?_)
  have St : zk_St A D (((([(h0, .inr (10, [.null, .null, .ref q5, .ref q18, .ref q31, .null, .int 0]))] ++ zk_gRows cI q5 100 (u11.getD 0 0) (u11.getD 1 0) (u11.getD 2 0)) ++ zk_gRows cI q18 6 (u24.getD 0 0) (u24.getD 1 0) (u24.getD 2 0)) ++ zk_gRows cI q31 8 (u37.getD 0 0) (u37.getD 1 0) (u37.getD 2 0)) ++ [(q44, .inr (5, [.null, .null, .null, .int 0]))]) s H locs := St
  refine W.widen (k := 13) (n := 358) (by decide) (by decide) ?_
  refine lv_dup C.1 C.2.1 dX10_init_47 rfl ?_
  refine lv_bipush (v := (nI 8)) C.1 C.2.1 dX10_init_48 (by decide) ?_
  refine zk_call (ws := ((([(h0, .inr (10, [.null, .null, .ref q5, .ref q18, .ref q31, .null, .int 0]))] ++ zk_gRows cI q5 100 (u11.getD 0 0) (u11.getD 1 0) (u11.getD 2 0)) ++ zk_gRows cI q18 6 (u24.getD 0 0) (u24.getD 1 0) (u24.getD 2 0)) ++ zk_gRows cI q31 8 (u37.getD 0 0) (u37.getD 1 0) (u37.getD 2 0))) (q := q44) (As := [.int (nI 8)]) (rest := [.ref q44, .ref h0]) (n := 1) C (zk_Rows (cI := cI) (cZ := cZ) (cQ := cQ) 8 (by decide)) St zq_98 zq_66 zq_233 zq_97 rfl ⟨by decide, by decide, by decide +kernel⟩ rfl ⟨Nat.le_of_ble_eq_true rfl, Nat.le_of_ble_eq_true rfl⟩ hl.1 (Nat.le_of_ble_eq_true rfl) ⟨Nat.le_of_ble_eq_true rfl, Nat.le_of_ble_eq_true rfl⟩ dX10_init_50 (fun u50 H locs St => ?_)
  have St : zk_St A D (((([(h0, .inr (10, [.null, .null, .ref q5, .ref q18, .ref q31, .null, .int 0]))] ++ zk_gRows cI q5 100 (u11.getD 0 0) (u11.getD 1 0) (u11.getD 2 0)) ++ zk_gRows cI q18 6 (u24.getD 0 0) (u24.getD 1 0) (u24.getD 2 0)) ++ zk_gRows cI q31 8 (u37.getD 0 0) (u37.getD 1 0) (u37.getD 2 0)) ++ zk_gRows cI q44 8 (u50.getD 0 0) (u50.getD 1 0) (u50.getD 2 0)) s H locs := St
  refine W.widen (k := 16) (n := 382) (by decide) (by decide) ?_
  refine zk_putF (k := 5) (ty := .object "RoadForMood$Rows") C hname St 0 rfl rfl zw_10 tyX10_ok nmX10 (by decide) zq_319 rfl rfl (by decide +kernel) rfl rfl (Nat.le_of_ble_eq_true rfl) dX10_init_53 (fun H locs St => ?_)
  have St : zk_St A D (((([(h0, .inr (10, [.null, .null, .ref q5, .ref q18, .ref q31, .ref q44, .int 0]))] ++ zk_gRows cI q5 100 (u11.getD 0 0) (u11.getD 1 0) (u11.getD 2 0)) ++ zk_gRows cI q18 6 (u24.getD 0 0) (u24.getD 1 0) (u24.getD 2 0)) ++ zk_gRows cI q31 8 (u37.getD 0 0) (u37.getD 1 0) (u37.getD 2 0)) ++ zk_gRows cI q44 8 (u50.getD 0 0) (u50.getD 1 0) (u50.getD 2 0)) s H locs := St
  refine lv_aload_n C.1 C.2.1 dX10_init_56 rfl (lv_at hl 0 rfl) ?_
  refine lv_aload_n C.1 C.2.1 dX10_init_57 rfl (lv_at hl 1 rfl) ?_
  refine zk_putF (k := 0) (ty := .object "RoadForMood$Park") C hname St 0 rfl rfl zw_10 tyX10_ok nmX10 (by decide) zq_309 rfl rfl (by decide +kernel) rfl rfl (Nat.le_of_ble_eq_true rfl) dX10_init_58 (fun H locs St => ?_)
  have St : zk_St A D (((([(h0, .inr (10, [.ref pk, .null, .ref q5, .ref q18, .ref q31, .ref q44, .int 0]))] ++ zk_gRows cI q5 100 (u11.getD 0 0) (u11.getD 1 0) (u11.getD 2 0)) ++ zk_gRows cI q18 6 (u24.getD 0 0) (u24.getD 1 0) (u24.getD 2 0)) ++ zk_gRows cI q31 8 (u37.getD 0 0) (u37.getD 1 0) (u37.getD 2 0)) ++ zk_gRows cI q44 8 (u50.getD 0 0) (u50.getD 1 0) (u50.getD 2 0)) s H locs := St
  refine lv_aload_n C.1 C.2.1 dX10_init_61 rfl (lv_at hl 0 rfl) ?_
  refine zk_newo (ci := 4) (fs := [.null, .null, .null, .null, .null, .null, .null, .int 0, .int 0, .int 0, .int 0, .null, .null, .int 0, .null, .null, .int 0, .int 0]) C St rfl zw_4 tyX4_ok zq_234 zq_235 zq_76 (fun j hj => by rcases (show j = 0 ∨ j = 1 ∨ j = 2 ∨ j = 3 ∨ j = 4 ∨ j = 5 ∨ j = 6 ∨ j = 7 ∨ j = 8 ∨ j = 9 ∨ j = 10 ∨ j = 11 ∨ j = 12 ∨ j = 13 ∨ j = 14 ∨ j = 15 ∨ j = 16 ∨ j = 17 by omega) with rfl | rfl | rfl | rfl | rfl | rfl | rfl | rfl | rfl | rfl | rfl | rfl | rfl | rfl | rfl | rfl | rfl | rfl <;> rfl) (Nat.le_of_ble_eq_true rfl) (Nat.le_of_ble_eq_true rfl) dX10_init_62 (fun q62 H St => ?_)
  have St : zk_St A D ((((([(h0, .inr (10, [.ref pk, .null, .ref q5, .ref q18, .ref q31, .ref q44, .int 0]))] ++ zk_gRows cI q5 100 (u11.getD 0 0) (u11.getD 1 0) (u11.getD 2 0)) ++ zk_gRows cI q18 6 (u24.getD 0 0) (u24.getD 1 0) (u24.getD 2 0)) ++ zk_gRows cI q31 8 (u37.getD 0 0) (u37.getD 1 0) (u37.getD 2 0)) ++ zk_gRows cI q44 8 (u50.getD 0 0) (u50.getD 1 0) (u50.getD 2 0)) ++ [(q62, .inr (4, [.null, .null, .null, .null, .null, .null, .null, .int 0, .int 0, .int 0, .int 0, .null, .null, .int 0, .null, .null, .int 0, .int 0]))]) s H locs := St
  refine W.widen (k := 17) (n := 400) (by decide) (by decide) ?_
  refine lv_dup C.1 C.2.1 dX10_init_65 rfl ?_
  refine lv_aload_n C.1 C.2.1 dX10_init_66 rfl (lv_at hl 1 rfl) ?_
  refine lv_aload_n C.1 C.2.1 dX10_init_67 rfl (lv_at hl 2 rfl) ?_
  refine lv_sipush (v := (nI 9999)) C.1 C.2.1 dX10_init_68 (by decide) ?_
  refine zk_call (ws := (((([(h0, .inr (10, [.ref pk, .null, .ref q5, .ref q18, .ref q31, .ref q44, .int 0]))] ++ zk_gRows cI q5 100 (u11.getD 0 0) (u11.getD 1 0) (u11.getD 2 0)) ++ zk_gRows cI q18 6 (u24.getD 0 0) (u24.getD 1 0) (u24.getD 2 0)) ++ zk_gRows cI q31 8 (u37.getD 0 0) (u37.getD 1 0) (u37.getD 2 0)) ++ zk_gRows cI q44 8 (u50.getD 0 0) (u50.getD 1 0) (u50.getD 2 0))) (q := q62) (As := [.ref pk, .ref kd, .int (nI 9999)]) (rest := [.ref q62, .ref h0]) (n := 3) C (zk_Ring pk kd 9999) St zq_238 zq_76 zq_236 zq_237 rfl ⟨by decide, by decide, by decide +kernel⟩ rfl ⟨Nat.le_of_ble_eq_true rfl, Nat.le_of_ble_eq_true rfl⟩ hl.1 (Nat.le_of_ble_eq_true rfl) ⟨Nat.le_of_ble_eq_true rfl, Nat.le_of_ble_eq_true rfl⟩ dX10_init_71 (fun u71 H locs St => ?_)
  have St : zk_St A D ((((([(h0, .inr (10, [.ref pk, .null, .ref q5, .ref q18, .ref q31, .ref q44, .int 0]))] ++ zk_gRows cI q5 100 (u11.getD 0 0) (u11.getD 1 0) (u11.getD 2 0)) ++ zk_gRows cI q18 6 (u24.getD 0 0) (u24.getD 1 0) (u24.getD 2 0)) ++ zk_gRows cI q31 8 (u37.getD 0 0) (u37.getD 1 0) (u37.getD 2 0)) ++ zk_gRows cI q44 8 (u50.getD 0 0) (u50.getD 1 0) (u50.getD 2 0)) ++ zk_gRing cI q62 u71 pk kd 9999) s H locs := St
  refine W.widen (k := 26) (n := 470) (by decide) (by decide) ?_
  refine zk_putF (k := 1) (ty := .object "RoadForMood$Ring") C hname St 0 rfl rfl zw_10 tyX10_ok nmX10 (by decide) zq_311 rfl rfl (by decide +kernel) rfl rfl (Nat.le_of_ble_eq_true rfl) dX10_init_74 (fun H locs St => ?_)
  have St : zk_St A D ((((([(h0, .inr (10, [.ref pk, .ref q62, .ref q5, .ref q18, .ref q31, .ref q44, .int 0]))] ++ zk_gRows cI q5 100 (u11.getD 0 0) (u11.getD 1 0) (u11.getD 2 0)) ++ zk_gRows cI q18 6 (u24.getD 0 0) (u24.getD 1 0) (u24.getD 2 0)) ++ zk_gRows cI q31 8 (u37.getD 0 0) (u37.getD 1 0) (u37.getD 2 0)) ++ zk_gRows cI q44 8 (u50.getD 0 0) (u50.getD 1 0) (u50.getD 2 0)) ++ zk_gRing cI q62 u71 pk kd 9999) s H locs := St
  exact fin [q5, u11.getD 0 0, u11.getD 1 0, u11.getD 2 0, q18, u24.getD 0 0, u24.getD 1 0, u24.getD 2 0, q31, u37.getD 0 0, u37.getD 1 0, u37.getD 2 0, q44, u50.getD 0 0, u50.getD 1 0, u50.getD 2 0, q62, u71.getD 0 0, u71.getD 1 0, u71.getD 2 0, u71.getD 3 0, u71.getD 4 0, u71.getD 5 0, u71.getD 6 0, u71.getD 7 0, u71.getD 8 0] H locs 77 ls 26 470 (by decide) (by decide) St dX10_init_77
end ZC
