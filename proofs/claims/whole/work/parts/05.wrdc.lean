/-! the code words, method by method -/
def codeAt (y : Nat) : Prop := lw_tbl[(md y).2.2.2.2.2.2.2.2.1]? = some (.code (yM y) (md y).2.2.2.1 (md y).2.2.2.2.1 (md y).2.2.2.2.2.1)
set_option maxRecDepth 20000 in
theorem cda_0 : codeAt 0 := rfl
set_option maxRecDepth 20000 in
theorem cda_1 : codeAt 1 := rfl
set_option maxRecDepth 20000 in
theorem cda_2 : codeAt 2 := rfl
set_option maxRecDepth 20000 in
theorem cda_3 : codeAt 3 := rfl
set_option maxRecDepth 20000 in
theorem cda_4 : codeAt 4 := rfl
set_option maxRecDepth 20000 in
theorem cda_5 : codeAt 5 := rfl
set_option maxRecDepth 20000 in
theorem cda_6 : codeAt 6 := rfl
set_option maxRecDepth 20000 in
theorem cda_7 : codeAt 7 := rfl
set_option maxRecDepth 20000 in
theorem cda_8 : codeAt 8 := rfl
set_option maxRecDepth 20000 in
theorem cda_9 : codeAt 9 := rfl
set_option maxRecDepth 20000 in
theorem cda_10 : codeAt 10 := rfl
set_option maxRecDepth 20000 in
theorem cda_11 : codeAt 11 := rfl
set_option maxRecDepth 20000 in
theorem cda_12 : codeAt 12 := rfl
set_option maxRecDepth 20000 in
theorem cda_13 : codeAt 13 := rfl
set_option maxRecDepth 20000 in
theorem cda_14 : codeAt 14 := rfl
set_option maxRecDepth 20000 in
theorem cda_15 : codeAt 15 := rfl
set_option maxRecDepth 20000 in
theorem cda_16 : codeAt 16 := rfl
set_option maxRecDepth 20000 in
theorem cda_17 : codeAt 17 := rfl
set_option maxRecDepth 20000 in
theorem cda_18 : codeAt 18 := rfl
set_option maxRecDepth 20000 in
theorem cda_19 : codeAt 19 := rfl
set_option maxRecDepth 20000 in
theorem cda_20 : codeAt 20 := rfl
set_option maxRecDepth 20000 in
theorem cda_21 : codeAt 21 := rfl
set_option maxRecDepth 20000 in
theorem cda_22 : codeAt 22 := rfl
set_option maxRecDepth 20000 in
theorem cda_23 : codeAt 23 := rfl
set_option maxRecDepth 20000 in
theorem cda_24 : codeAt 24 := rfl
set_option maxRecDepth 20000 in
theorem cda_25 : codeAt 25 := rfl
set_option maxRecDepth 20000 in
theorem cda_26 : codeAt 26 := rfl
set_option maxRecDepth 20000 in
theorem cda_27 : codeAt 27 := rfl
set_option maxRecDepth 20000 in
theorem cda_28 : codeAt 28 := rfl
set_option maxRecDepth 20000 in
theorem cda_29 : codeAt 29 := rfl
set_option maxRecDepth 20000 in
theorem cda_30 : codeAt 30 := rfl
set_option maxRecDepth 20000 in
theorem cda_31 : codeAt 31 := rfl
set_option maxRecDepth 20000 in
theorem cda_32 : codeAt 32 := rfl
set_option maxRecDepth 20000 in
theorem cda_33 : codeAt 33 := rfl
set_option maxRecDepth 20000 in
theorem cda_34 : codeAt 34 := rfl
set_option maxRecDepth 20000 in
theorem cda_35 : codeAt 35 := rfl
set_option maxRecDepth 20000 in
theorem cda_36 : codeAt 36 := rfl
set_option maxRecDepth 20000 in
theorem cda_37 : codeAt 37 := rfl
set_option maxRecDepth 20000 in
theorem cda_38 : codeAt 38 := rfl
set_option maxRecDepth 20000 in
theorem cda_39 : codeAt 39 := rfl
set_option maxRecDepth 20000 in
theorem cda_40 : codeAt 40 := rfl
set_option maxRecDepth 20000 in
theorem cda_41 : codeAt 41 := rfl
set_option maxRecDepth 20000 in
theorem cda_42 : codeAt 42 := rfl
set_option maxRecDepth 20000 in
theorem cda_43 : codeAt 43 := rfl
set_option maxRecDepth 20000 in
theorem cda_44 : codeAt 44 := rfl
set_option maxRecDepth 20000 in
theorem cda_45 : codeAt 45 := rfl
set_option maxRecDepth 20000 in
theorem cda_46 : codeAt 46 := rfl
set_option maxRecDepth 20000 in
theorem cda_47 : codeAt 47 := rfl
set_option maxRecDepth 20000 in
theorem cda_48 : codeAt 48 := rfl
set_option maxRecDepth 20000 in
theorem cda_49 : codeAt 49 := rfl
set_option maxRecDepth 20000 in
theorem cda_50 : codeAt 50 := rfl
set_option maxRecDepth 20000 in
theorem cda_51 : codeAt 51 := rfl
set_option maxRecDepth 20000 in
theorem cda_52 : codeAt 52 := rfl
set_option maxRecDepth 20000 in
theorem cda_53 : codeAt 53 := rfl
set_option maxRecDepth 20000 in
theorem cda_54 : codeAt 54 := rfl
set_option maxRecDepth 20000 in
theorem cda_55 : codeAt 55 := rfl
set_option maxRecDepth 20000 in
theorem cda_56 : codeAt 56 := rfl
set_option maxRecDepth 20000 in
theorem cda_57 : codeAt 57 := rfl
set_option maxRecDepth 20000 in
theorem cda_58 : codeAt 58 := rfl
set_option maxRecDepth 20000 in
theorem cda_59 : codeAt 59 := rfl
set_option maxRecDepth 20000 in
theorem cda_60 : codeAt 60 := rfl
set_option maxRecDepth 20000 in
theorem cda_61 : codeAt 61 := rfl
set_option maxRecDepth 20000 in
theorem cda_62 : codeAt 62 := rfl
set_option maxRecDepth 20000 in
theorem cda_63 : codeAt 63 := rfl
set_option maxRecDepth 20000 in
theorem cda_64 : codeAt 64 := rfl
set_option maxRecDepth 20000 in
theorem cda_65 : codeAt 65 := rfl
set_option maxRecDepth 20000 in
theorem cda_66 : codeAt 66 := rfl
set_option maxRecDepth 20000 in
theorem cda_67 : codeAt 67 := rfl
set_option maxRecDepth 20000 in
theorem cda_68 : codeAt 68 := rfl
set_option maxRecDepth 20000 in
theorem cda_69 : codeAt 69 := rfl
set_option maxRecDepth 20000 in
theorem cda_70 : codeAt 70 := rfl
set_option maxRecDepth 20000 in
theorem cda_71 : codeAt 71 := rfl
set_option maxRecDepth 20000 in
theorem cda_72 : codeAt 72 := rfl
set_option maxRecDepth 20000 in
theorem cda_73 : codeAt 73 := rfl
set_option maxRecDepth 20000 in
theorem cda_74 : codeAt 74 := rfl
set_option maxRecDepth 20000 in
theorem cda_75 : codeAt 75 := rfl
set_option maxRecDepth 20000 in
theorem cda_76 : codeAt 76 := rfl
set_option maxRecDepth 20000 in
theorem cda_77 : codeAt 77 := rfl
set_option maxRecDepth 20000 in
theorem cda_78 : codeAt 78 := rfl
set_option maxRecDepth 20000 in
theorem cda_79 : codeAt 79 := rfl
set_option maxRecDepth 20000 in
theorem cda_80 : codeAt 80 := rfl
set_option maxRecDepth 20000 in
theorem cda_81 : codeAt 81 := rfl
set_option maxRecDepth 20000 in
theorem cda_82 : codeAt 82 := rfl
set_option maxRecDepth 20000 in
theorem cda_83 : codeAt 83 := rfl
set_option maxRecDepth 20000 in
theorem cda_84 : codeAt 84 := rfl
set_option maxRecDepth 20000 in
theorem cda_85 : codeAt 85 := rfl
set_option maxRecDepth 20000 in
theorem cda_86 : codeAt 86 := rfl
set_option maxRecDepth 20000 in
theorem cda_87 : codeAt 87 := rfl
set_option maxRecDepth 20000 in
theorem cda_88 : codeAt 88 := rfl
set_option maxRecDepth 20000 in
theorem cda_89 : codeAt 89 := rfl
set_option maxRecDepth 20000 in
theorem cda_90 : codeAt 90 := rfl
set_option maxRecDepth 20000 in
theorem cda_91 : codeAt 91 := rfl
set_option maxRecDepth 20000 in
theorem cda_92 : codeAt 92 := rfl
set_option maxRecDepth 20000 in
theorem cda_93 : codeAt 93 := rfl
set_option maxRecDepth 20000 in
theorem cda_94 : codeAt 94 := rfl
set_option maxRecDepth 20000 in
theorem cda_95 : codeAt 95 := rfl
set_option maxRecDepth 20000 in
theorem cda_96 : codeAt 96 := rfl
set_option maxRecDepth 20000 in
theorem cda_97 : codeAt 97 := rfl
set_option maxRecDepth 20000 in
theorem cda_98 : codeAt 98 := rfl
set_option maxRecDepth 20000 in
theorem cda_99 : codeAt 99 := rfl
set_option maxRecDepth 20000 in
theorem cda_100 : codeAt 100 := rfl
set_option maxRecDepth 20000 in
theorem cda_101 : codeAt 101 := rfl
set_option maxRecDepth 20000 in
theorem cda_102 : codeAt 102 := rfl
set_option maxRecDepth 20000 in
theorem cda_103 : codeAt 103 := rfl
set_option maxRecDepth 20000 in
theorem cda_104 : codeAt 104 := rfl
set_option maxRecDepth 20000 in
theorem cda_105 : codeAt 105 := rfl
set_option maxRecDepth 20000 in
theorem cda_106 : codeAt 106 := rfl
set_option maxRecDepth 20000 in
theorem cda_107 : codeAt 107 := rfl
set_option maxRecDepth 20000 in
theorem cda_108 : codeAt 108 := rfl
set_option maxRecDepth 20000 in
theorem cda_109 : codeAt 109 := rfl
set_option maxRecDepth 20000 in
theorem cda_110 : codeAt 110 := rfl
set_option maxRecDepth 20000 in
theorem cda_111 : codeAt 111 := rfl
set_option maxRecDepth 20000 in
theorem cda_112 : codeAt 112 := rfl
set_option maxRecDepth 20000 in
theorem cda_113 : codeAt 113 := rfl
set_option maxRecDepth 20000 in
theorem cda_114 : codeAt 114 := rfl
set_option maxRecDepth 20000 in
theorem cda_115 : codeAt 115 := rfl
set_option maxRecDepth 20000 in
theorem cda_116 : codeAt 116 := rfl
set_option maxRecDepth 20000 in
theorem cda_117 : codeAt 117 := rfl
set_option maxRecDepth 20000 in
theorem cda_118 : codeAt 118 := rfl
set_option maxRecDepth 20000 in
theorem cda_119 : codeAt 119 := rfl
set_option maxRecDepth 20000 in
theorem cda_120 : codeAt 120 := rfl
set_option maxRecDepth 20000 in
theorem cda_121 : codeAt 121 := rfl
set_option maxRecDepth 20000 in
theorem cda_122 : codeAt 122 := rfl
set_option maxRecDepth 20000 in
theorem cda_123 : codeAt 123 := rfl
set_option maxRecDepth 20000 in
theorem cda_124 : codeAt 124 := rfl
set_option maxRecDepth 20000 in
theorem cda_125 : codeAt 125 := rfl
set_option maxRecDepth 20000 in
theorem cda_126 : codeAt 126 := rfl
set_option maxRecDepth 20000 in
theorem cda_127 : codeAt 127 := rfl
set_option maxRecDepth 20000 in
theorem cda_128 : codeAt 128 := rfl
set_option maxRecDepth 20000 in
theorem cda_129 : codeAt 129 := rfl
set_option maxRecDepth 20000 in
theorem cda_130 : codeAt 130 := rfl
set_option maxRecDepth 20000 in
theorem cda_131 : codeAt 131 := rfl
set_option maxRecDepth 20000 in
theorem cda_132 : codeAt 132 := rfl
set_option maxRecDepth 20000 in
theorem cda_133 : codeAt 133 := rfl
set_option maxRecDepth 20000 in
theorem cda_134 : codeAt 134 := rfl
set_option maxRecDepth 20000 in
theorem cda_135 : codeAt 135 := rfl
set_option maxRecDepth 20000 in
theorem cda_136 : codeAt 136 := rfl
set_option maxRecDepth 20000 in
theorem cda_137 : codeAt 137 := rfl
set_option maxRecDepth 20000 in
theorem cda_138 : codeAt 138 := rfl
set_option maxRecDepth 20000 in
theorem cda_139 : codeAt 139 := rfl
set_option maxRecDepth 20000 in
theorem cda_140 : codeAt 140 := rfl
set_option maxRecDepth 20000 in
theorem cda_141 : codeAt 141 := rfl
set_option maxRecDepth 20000 in
theorem cda_142 : codeAt 142 := rfl
set_option maxRecDepth 20000 in
theorem cda_143 : codeAt 143 := rfl
set_option maxRecDepth 20000 in
theorem cda_144 : codeAt 144 := rfl
set_option maxRecDepth 20000 in
theorem cda_145 : codeAt 145 := rfl
set_option maxRecDepth 20000 in
theorem cda_146 : codeAt 146 := rfl
set_option maxRecDepth 20000 in
theorem cda_147 : codeAt 147 := rfl
set_option maxRecDepth 20000 in
theorem cda_148 : codeAt 148 := rfl
set_option maxRecDepth 20000 in
theorem cda_149 : codeAt 149 := rfl
set_option maxRecDepth 20000 in
theorem cda_150 : codeAt 150 := rfl
set_option maxRecDepth 20000 in
theorem cda_151 : codeAt 151 := rfl
set_option maxRecDepth 20000 in
theorem cda_152 : codeAt 152 := rfl
set_option maxRecDepth 20000 in
theorem cda_153 : codeAt 153 := rfl
set_option maxRecDepth 20000 in
theorem cda_154 : codeAt 154 := rfl
set_option maxRecDepth 20000 in
theorem cda_155 : codeAt 155 := rfl
set_option maxRecDepth 20000 in
theorem cda_156 : codeAt 156 := rfl
set_option maxRecDepth 20000 in
theorem cda_157 : codeAt 157 := rfl
set_option maxRecDepth 20000 in
theorem cda_158 : codeAt 158 := rfl
set_option maxRecDepth 20000 in
theorem cda_159 : codeAt 159 := rfl
set_option maxRecDepth 20000 in
theorem cda_160 : codeAt 160 := rfl
set_option maxRecDepth 20000 in
theorem cda_161 : codeAt 161 := rfl
set_option maxRecDepth 20000 in
theorem cda_162 : codeAt 162 := rfl
set_option maxRecDepth 20000 in
theorem cda_163 : codeAt 163 := rfl
set_option maxRecDepth 20000 in
theorem cda_164 : codeAt 164 := rfl
set_option maxRecDepth 20000 in
theorem cda_165 : codeAt 165 := rfl
set_option maxRecDepth 20000 in
theorem cda_166 : codeAt 166 := rfl
set_option maxRecDepth 20000 in
theorem cda_167 : codeAt 167 := rfl
set_option maxRecDepth 20000 in
theorem cda_168 : codeAt 168 := rfl
set_option maxRecDepth 20000 in
theorem cda_169 : codeAt 169 := rfl
set_option maxRecDepth 20000 in
theorem cda_170 : codeAt 170 := rfl
set_option maxRecDepth 20000 in
theorem cda_171 : codeAt 171 := rfl
set_option maxRecDepth 20000 in
theorem cda_172 : codeAt 172 := rfl
set_option maxRecDepth 20000 in
theorem cda_173 : codeAt 173 := rfl
set_option maxRecDepth 20000 in
theorem cda_174 : codeAt 174 := rfl
set_option maxRecDepth 20000 in
theorem cda_175 : codeAt 175 := rfl
set_option maxRecDepth 20000 in
theorem cda_176 : codeAt 176 := rfl
set_option maxRecDepth 20000 in
theorem cda_177 : codeAt 177 := rfl
set_option maxRecDepth 20000 in
theorem cda_178 : codeAt 178 := rfl
set_option maxRecDepth 20000 in
theorem cda_179 : codeAt 179 := rfl
set_option maxRecDepth 20000 in
theorem cda_180 : codeAt 180 := rfl
set_option maxRecDepth 20000 in
theorem cda_181 : codeAt 181 := rfl
set_option maxRecDepth 20000 in
theorem cda_182 : codeAt 182 := rfl
set_option maxRecDepth 20000 in
theorem cda_183 : codeAt 183 := rfl
set_option maxRecDepth 20000 in
theorem cda_184 : codeAt 184 := rfl
set_option maxRecDepth 20000 in
theorem cda_185 : codeAt 185 := rfl
set_option maxRecDepth 20000 in
theorem cda_186 : codeAt 186 := rfl
set_option maxRecDepth 20000 in
theorem cda_187 : codeAt 187 := rfl
set_option maxRecDepth 20000 in
theorem cda_188 : codeAt 188 := rfl
set_option maxRecDepth 20000 in
theorem cda_189 : codeAt 189 := rfl
set_option maxRecDepth 20000 in
theorem cda_190 : codeAt 190 := rfl
set_option maxRecDepth 20000 in
theorem cda_191 : codeAt 191 := rfl
set_option maxRecDepth 20000 in
theorem cda_192 : codeAt 192 := rfl
set_option maxRecDepth 20000 in
theorem cda_193 : codeAt 193 := rfl
set_option maxRecDepth 20000 in
theorem cda_194 : codeAt 194 := rfl
set_option maxRecDepth 20000 in
theorem cda_195 : codeAt 195 := rfl
set_option maxRecDepth 20000 in
theorem cda_196 : codeAt 196 := rfl
set_option maxRecDepth 20000 in
theorem cda_197 : codeAt 197 := rfl
set_option maxRecDepth 20000 in
theorem cda_198 : codeAt 198 := rfl
set_option maxRecDepth 20000 in
theorem cda_199 : codeAt 199 := rfl
set_option maxRecDepth 20000 in
theorem cda_200 : codeAt 200 := rfl
set_option maxRecDepth 20000 in
theorem cda_201 : codeAt 201 := rfl
set_option maxRecDepth 20000 in
theorem cda_202 : codeAt 202 := rfl
set_option maxRecDepth 20000 in
theorem cda_203 : codeAt 203 := rfl
set_option maxRecDepth 20000 in
theorem cda_204 : codeAt 204 := rfl
set_option maxRecDepth 20000 in
theorem cda_205 : codeAt 205 := rfl
set_option maxRecDepth 20000 in
theorem cda_206 : codeAt 206 := rfl
set_option maxRecDepth 20000 in
theorem cda_207 : codeAt 207 := rfl
set_option maxRecDepth 20000 in
theorem cda_208 : codeAt 208 := rfl
set_option maxRecDepth 20000 in
theorem cda_209 : codeAt 209 := rfl
set_option maxRecDepth 20000 in
theorem cda_210 : codeAt 210 := rfl
set_option maxRecDepth 20000 in
theorem cda_211 : codeAt 211 := rfl
set_option maxRecDepth 20000 in
theorem cda_212 : codeAt 212 := rfl
set_option maxRecDepth 20000 in
theorem cda_213 : codeAt 213 := rfl
set_option maxRecDepth 20000 in
theorem cda_214 : codeAt 214 := rfl
set_option maxRecDepth 20000 in
theorem cda_215 : codeAt 215 := rfl
set_option maxRecDepth 20000 in
theorem cda_216 : codeAt 216 := rfl
set_option maxRecDepth 20000 in
theorem cda_217 : codeAt 217 := rfl
set_option maxRecDepth 20000 in
theorem cda_218 : codeAt 218 := rfl
set_option maxRecDepth 20000 in
theorem cda_219 : codeAt 219 := rfl
set_option maxRecDepth 20000 in
theorem cda_220 : codeAt 220 := rfl
set_option maxRecDepth 20000 in
theorem cda_221 : codeAt 221 := rfl
set_option maxRecDepth 20000 in
theorem cda_222 : codeAt 222 := rfl
set_option maxRecDepth 20000 in
theorem cda_223 : codeAt 223 := rfl
set_option maxRecDepth 20000 in
theorem cda_224 : codeAt 224 := rfl
set_option maxRecDepth 20000 in
theorem cda_225 : codeAt 225 := rfl
set_option maxRecDepth 20000 in
theorem cda_226 : codeAt 226 := rfl
set_option maxRecDepth 20000 in
theorem cda_227 : codeAt 227 := rfl
set_option maxRecDepth 20000 in
theorem cda_228 : codeAt 228 := rfl
set_option maxRecDepth 20000 in
theorem cda_229 : codeAt 229 := rfl
set_option maxRecDepth 20000 in
theorem cda_230 : codeAt 230 := rfl
set_option maxRecDepth 20000 in
theorem cda_231 : codeAt 231 := rfl
theorem cdr_29 : ∀ y, y < 29 → codeAt y := (lt_s (lt_s (lt_s (lt_s (lt_s (lt_s (lt_s (lt_s (lt_s (lt_s (lt_s (lt_s (lt_s (lt_s (lt_s (lt_s (lt_s (lt_s (lt_s (lt_s (lt_s (lt_s (lt_s (lt_s (lt_s (lt_s (lt_s (lt_s (lt_s lt_0 cda_0) cda_1) cda_2) cda_3) cda_4) cda_5) cda_6) cda_7) cda_8) cda_9) cda_10) cda_11) cda_12) cda_13) cda_14) cda_15) cda_16) cda_17) cda_18) cda_19) cda_20) cda_21) cda_22) cda_23) cda_24) cda_25) cda_26) cda_27) cda_28)
theorem cdr_58 : ∀ y, y < 58 → codeAt y := (lt_s (lt_s (lt_s (lt_s (lt_s (lt_s (lt_s (lt_s (lt_s (lt_s (lt_s (lt_s (lt_s (lt_s (lt_s (lt_s (lt_s (lt_s (lt_s (lt_s (lt_s (lt_s (lt_s (lt_s (lt_s (lt_s (lt_s (lt_s (lt_s cdr_29 cda_29) cda_30) cda_31) cda_32) cda_33) cda_34) cda_35) cda_36) cda_37) cda_38) cda_39) cda_40) cda_41) cda_42) cda_43) cda_44) cda_45) cda_46) cda_47) cda_48) cda_49) cda_50) cda_51) cda_52) cda_53) cda_54) cda_55) cda_56) cda_57)
theorem cdr_87 : ∀ y, y < 87 → codeAt y := (lt_s (lt_s (lt_s (lt_s (lt_s (lt_s (lt_s (lt_s (lt_s (lt_s (lt_s (lt_s (lt_s (lt_s (lt_s (lt_s (lt_s (lt_s (lt_s (lt_s (lt_s (lt_s (lt_s (lt_s (lt_s (lt_s (lt_s (lt_s (lt_s cdr_58 cda_58) cda_59) cda_60) cda_61) cda_62) cda_63) cda_64) cda_65) cda_66) cda_67) cda_68) cda_69) cda_70) cda_71) cda_72) cda_73) cda_74) cda_75) cda_76) cda_77) cda_78) cda_79) cda_80) cda_81) cda_82) cda_83) cda_84) cda_85) cda_86)
theorem cdr_116 : ∀ y, y < 116 → codeAt y := (lt_s (lt_s (lt_s (lt_s (lt_s (lt_s (lt_s (lt_s (lt_s (lt_s (lt_s (lt_s (lt_s (lt_s (lt_s (lt_s (lt_s (lt_s (lt_s (lt_s (lt_s (lt_s (lt_s (lt_s (lt_s (lt_s (lt_s (lt_s (lt_s cdr_87 cda_87) cda_88) cda_89) cda_90) cda_91) cda_92) cda_93) cda_94) cda_95) cda_96) cda_97) cda_98) cda_99) cda_100) cda_101) cda_102) cda_103) cda_104) cda_105) cda_106) cda_107) cda_108) cda_109) cda_110) cda_111) cda_112) cda_113) cda_114) cda_115)
theorem cdr_145 : ∀ y, y < 145 → codeAt y := (lt_s (lt_s (lt_s (lt_s (lt_s (lt_s (lt_s (lt_s (lt_s (lt_s (lt_s (lt_s (lt_s (lt_s (lt_s (lt_s (lt_s (lt_s (lt_s (lt_s (lt_s (lt_s (lt_s (lt_s (lt_s (lt_s (lt_s (lt_s (lt_s cdr_116 cda_116) cda_117) cda_118) cda_119) cda_120) cda_121) cda_122) cda_123) cda_124) cda_125) cda_126) cda_127) cda_128) cda_129) cda_130) cda_131) cda_132) cda_133) cda_134) cda_135) cda_136) cda_137) cda_138) cda_139) cda_140) cda_141) cda_142) cda_143) cda_144)
theorem cdr_174 : ∀ y, y < 174 → codeAt y := (lt_s (lt_s (lt_s (lt_s (lt_s (lt_s (lt_s (lt_s (lt_s (lt_s (lt_s (lt_s (lt_s (lt_s (lt_s (lt_s (lt_s (lt_s (lt_s (lt_s (lt_s (lt_s (lt_s (lt_s (lt_s (lt_s (lt_s (lt_s (lt_s cdr_145 cda_145) cda_146) cda_147) cda_148) cda_149) cda_150) cda_151) cda_152) cda_153) cda_154) cda_155) cda_156) cda_157) cda_158) cda_159) cda_160) cda_161) cda_162) cda_163) cda_164) cda_165) cda_166) cda_167) cda_168) cda_169) cda_170) cda_171) cda_172) cda_173)
theorem cdr_203 : ∀ y, y < 203 → codeAt y := (lt_s (lt_s (lt_s (lt_s (lt_s (lt_s (lt_s (lt_s (lt_s (lt_s (lt_s (lt_s (lt_s (lt_s (lt_s (lt_s (lt_s (lt_s (lt_s (lt_s (lt_s (lt_s (lt_s (lt_s (lt_s (lt_s (lt_s (lt_s (lt_s cdr_174 cda_174) cda_175) cda_176) cda_177) cda_178) cda_179) cda_180) cda_181) cda_182) cda_183) cda_184) cda_185) cda_186) cda_187) cda_188) cda_189) cda_190) cda_191) cda_192) cda_193) cda_194) cda_195) cda_196) cda_197) cda_198) cda_199) cda_200) cda_201) cda_202)
theorem cdr_232 : ∀ y, y < 232 → codeAt y := (lt_s (lt_s (lt_s (lt_s (lt_s (lt_s (lt_s (lt_s (lt_s (lt_s (lt_s (lt_s (lt_s (lt_s (lt_s (lt_s (lt_s (lt_s (lt_s (lt_s (lt_s (lt_s (lt_s (lt_s (lt_s (lt_s (lt_s (lt_s (lt_s cdr_203 cda_203) cda_204) cda_205) cda_206) cda_207) cda_208) cda_209) cda_210) cda_211) cda_212) cda_213) cda_214) cda_215) cda_216) cda_217) cda_218) cda_219) cda_220) cda_221) cda_222) cda_223) cda_224) cda_225) cda_226) cda_227) cda_228) cda_229) cda_230) cda_231)
