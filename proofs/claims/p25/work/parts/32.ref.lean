theorem dX12_readsRule_0 : decode cX12_readsRule 0 = .ok (.iconst 0, 1) := rdX12_readsRule_0
theorem dX12_readsRule_1 : decode cX12_readsRule 1 = .ok (.istore_n 1, 1) := rdX12_readsRule_1
theorem dX12_readsRule_2 : decode cX12_readsRule 2 = .ok (.iload_n 1, 1) := rdX12_readsRule_2
theorem dX12_readsRule_3 : decode cX12_readsRule 3 = .ok (.bipush 8, 2) := rdX12_readsRule_3
theorem dX12_readsRule_5 : decode cX12_readsRule 5 = .ok (.if_icmp .ge 32, 3) := rdX12_readsRule_5
theorem dX12_readsRule_8 : decode cX12_readsRule 8 = .ok (.aload_n 0, 1) := rdX12_readsRule_8
theorem dX12_readsRule_9 : decode cX12_readsRule 9 = .ok (.getfield 33, 3) := rdX12_readsRule_9
theorem dX12_readsRule_12 : decode cX12_readsRule 12 = .ok (.iload_n 1, 1) := rdX12_readsRule_12
theorem dX12_readsRule_13 : decode cX12_readsRule 13 = .ok (.iload_n 1, 1) := rdX12_readsRule_13
theorem dX12_readsRule_14 : decode cX12_readsRule 14 = .ok (.iconst 1, 1) := rdX12_readsRule_14
theorem dX12_readsRule_15 : decode cX12_readsRule 15 = .ok (.if_icmp .eq 9, 3) := rdX12_readsRule_15
theorem dX12_readsRule_18 : decode cX12_readsRule 18 = .ok (.iload_n 1, 1) := rdX12_readsRule_18
theorem dX12_readsRule_19 : decode cX12_readsRule 19 = .ok (.bipush 6, 2) := rdX12_readsRule_19
theorem dX12_readsRule_21 : decode cX12_readsRule 21 = .ok (.if_icmp .ne 7, 3) := rdX12_readsRule_21
theorem dX12_readsRule_28 : decode cX12_readsRule 28 = .ok (.bipush (-2), 2) := rdX12_readsRule_28
theorem dX12_readsRule_30 : decode cX12_readsRule 30 = .ok (.iastore, 1) := rdX12_readsRule_30
theorem dX12_readsRule_31 : decode cX12_readsRule 31 = .ok (.iinc 1 1, 3) := rdX12_readsRule_31
theorem dX12_readsRule_34 : decode cX12_readsRule 34 = .ok (.goto (-32), 3) := rdX12_readsRule_34
theorem dX12_readsRule_24 : decode cX12_readsRule 24 = .ok (.iconst 0, 1) := rdX12_readsRule_24
theorem dX12_readsRule_25 : decode cX12_readsRule 25 = .ok (.goto 5, 3) := rdX12_readsRule_25
theorem dX12_readsRule_37 : decode cX12_readsRule 37 = .ok (.aload_n 0, 1) := rdX12_readsRule_37
theorem dX12_readsRule_38 : decode cX12_readsRule 38 = .ok (.iconst 0, 1) := rdX12_readsRule_38
theorem dX12_readsRule_39 : decode cX12_readsRule 39 = .ok (.invokevirtual 224, 3) := rdX12_readsRule_39
theorem dX12_readsRule_42 : decode cX12_readsRule 42 = .ok (.ifCond .eq 14, 3) := rdX12_readsRule_42
theorem dX12_readsRule_56 : decode cX12_readsRule 56 = .ok (.aload_n 0, 1) := rdX12_readsRule_56
theorem dX12_readsRule_57 : decode cX12_readsRule 57 = .ok (.iconst 1, 1) := rdX12_readsRule_57
theorem dX12_readsRule_58 : decode cX12_readsRule 58 = .ok (.bipush 10, 2) := rdX12_readsRule_58
theorem dX12_readsRule_60 : decode cX12_readsRule 60 = .ok (.invokevirtual 227, 3) := rdX12_readsRule_60
theorem dX12_readsRule_63 : decode cX12_readsRule 63 = .ok (.istore_n 1, 1) := rdX12_readsRule_63
theorem dX12_readsRule_64 : decode cX12_readsRule 64 = .ok (.aload_n 0, 1) := rdX12_readsRule_64
theorem dX12_readsRule_65 : decode cX12_readsRule 65 = .ok (.getfield 33, 3) := rdX12_readsRule_65
theorem dX12_readsRule_68 : decode cX12_readsRule 68 = .ok (.iconst 0, 1) := rdX12_readsRule_68
theorem dX12_readsRule_69 : decode cX12_readsRule 69 = .ok (.iload_n 1, 1) := rdX12_readsRule_69
theorem dX12_readsRule_70 : decode cX12_readsRule 70 = .ok (.iastore, 1) := rdX12_readsRule_70
theorem dX12_readsRule_71 : decode cX12_readsRule 71 = .ok (.iload_n 1, 1) := rdX12_readsRule_71
theorem dX12_readsRule_72 : decode cX12_readsRule 72 = .ok (.bipush 8, 2) := rdX12_readsRule_72
theorem dX12_readsRule_74 : decode cX12_readsRule 74 = .ok (.if_icmp .ne 16, 3) := rdX12_readsRule_74
theorem dX12_readsRule_90 : decode cX12_readsRule 90 = .ok (.iload_n 1, 1) := rdX12_readsRule_90
theorem dX12_readsRule_91 : decode cX12_readsRule 91 = .ok (.ifCond .eq 28, 3) := rdX12_readsRule_91
theorem dX12_readsRule_119 : decode cX12_readsRule 119 = .ok (.iload_n 1, 1) := rdX12_readsRule_119
theorem dX12_readsRule_120 : decode cX12_readsRule 120 = .ok (.bipush 7, 2) := rdX12_readsRule_120
theorem dX12_readsRule_122 : decode cX12_readsRule 122 = .ok (.if_icmp .ne 26, 3) := rdX12_readsRule_122
theorem dX12_readsRule_148 : decode cX12_readsRule 148 = .ok (.iload_n 1, 1) := rdX12_readsRule_148
theorem dX12_readsRule_149 : decode cX12_readsRule 149 = .ok (.invokestatic 137, 3) := rdX12_readsRule_149
theorem dX12_readsRule_152 : decode cX12_readsRule 152 = .ok (.ifCond .eq 17, 3) := rdX12_readsRule_152
theorem dX12_readsRule_155 : decode cX12_readsRule 155 = .ok (.aload_n 0, 1) := rdX12_readsRule_155
theorem dX12_readsRule_156 : decode cX12_readsRule 156 = .ok (.getfield 33, 3) := rdX12_readsRule_156
theorem dX12_readsRule_159 : decode cX12_readsRule 159 = .ok (.iconst 4, 1) := rdX12_readsRule_159
theorem dX12_readsRule_160 : decode cX12_readsRule 160 = .ok (.aload_n 0, 1) := rdX12_readsRule_160
theorem dX12_readsRule_161 : decode cX12_readsRule 161 = .ok (.bipush 15, 2) := rdX12_readsRule_161
theorem dX12_readsRule_163 : decode cX12_readsRule 163 = .ok (.bipush 16, 2) := rdX12_readsRule_163
theorem dX12_readsRule_165 : decode cX12_readsRule 165 = .ok (.invokevirtual 227, 3) := rdX12_readsRule_165
theorem dX12_readsRule_168 : decode cX12_readsRule 168 = .ok (.iastore, 1) := rdX12_readsRule_168
theorem dX12_readsRule_169 : decode cX12_readsRule 169 = .ok (.iload_n 1, 1) := rdX12_readsRule_169
theorem dX12_readsRule_170 : decode cX12_readsRule 170 = .ok (.iconst 3, 1) := rdX12_readsRule_170
theorem dX12_readsRule_171 : decode cX12_readsRule 171 = .ok (.if_icmp .eq 9, 3) := rdX12_readsRule_171
theorem dX12_readsRule_174 : decode cX12_readsRule 174 = .ok (.iload_n 1, 1) := rdX12_readsRule_174
theorem dX12_readsRule_175 : decode cX12_readsRule 175 = .ok (.bipush 8, 2) := rdX12_readsRule_175
theorem dX12_readsRule_177 : decode cX12_readsRule 177 = .ok (.if_icmp .ne 17, 3) := rdX12_readsRule_177
theorem dX12_readsRule_194 : decode cX12_readsRule 194 = .ok (.iload_n 1, 1) := rdX12_readsRule_194
theorem dX12_readsRule_195 : decode cX12_readsRule 195 = .ok (.iconst 1, 1) := rdX12_readsRule_195
theorem dX12_readsRule_196 : decode cX12_readsRule 196 = .ok (.if_icmp .ne 13, 3) := rdX12_readsRule_196
theorem dX12_readsRule_209 : decode cX12_readsRule 209 = .ok (.aload_n 0, 1) := rdX12_readsRule_209
theorem dX12_readsRule_210 : decode cX12_readsRule 210 = .ok (.getfield 217, 3) := rdX12_readsRule_210
theorem dX12_readsRule_213 : decode cX12_readsRule 213 = .ok (.ifCond .ne 23, 3) := rdX12_readsRule_213
theorem dX12_readsRule_236 : decode cX12_readsRule 236 = .ok (.aload_n 0, 1) := rdX12_readsRule_236
theorem dX12_readsRule_237 : decode cX12_readsRule 237 = .ok (.getfield 217, 3) := rdX12_readsRule_237
theorem dX12_readsRule_240 : decode cX12_readsRule 240 = .ok (.ifCond .eq 4, 3) := rdX12_readsRule_240
theorem dX12_readsRule_244 : decode cX12_readsRule 244 = .ok (.aload_n 0, 1) := rdX12_readsRule_244
theorem dX12_readsRule_245 : decode cX12_readsRule 245 = .ok (.getfield 204, 3) := rdX12_readsRule_245
theorem dX12_readsRule_248 : decode cX12_readsRule 248 = .ok (.iconst 3, 1) := rdX12_readsRule_248
theorem dX12_readsRule_249 : decode cX12_readsRule 249 = .ok (.if_icmp .ne 10, 3) := rdX12_readsRule_249
theorem dX12_readsRule_259 : decode cX12_readsRule 259 = .ok (.aload_n 0, 1) := rdX12_readsRule_259
theorem dX12_readsRule_260 : decode cX12_readsRule 260 = .ok (.iconst 1, 1) := rdX12_readsRule_260
theorem dX12_readsRule_261 : decode cX12_readsRule 261 = .ok (.putfield 217, 3) := rdX12_readsRule_261
theorem dX12_readsRule_264 : decode cX12_readsRule 264 = .ok (.return_, 1) := rdX12_readsRule_264
theorem dX12_readsRule_252 : decode cX12_readsRule 252 = .ok (.aload_n 0, 1) := rdX12_readsRule_252
theorem dX12_readsRule_253 : decode cX12_readsRule 253 = .ok (.invokevirtual 221, 3) := rdX12_readsRule_253
theorem dX12_readsRule_256 : decode cX12_readsRule 256 = .ok (.goto 8, 3) := rdX12_readsRule_256
theorem dX12_readsRule_243 : decode cX12_readsRule 243 = .ok (.return_, 1) := rdX12_readsRule_243
theorem dX12_readsRule_216 : decode cX12_readsRule 216 = .ok (.iload_n 1, 1) := rdX12_readsRule_216
theorem dX12_readsRule_217 : decode cX12_readsRule 217 = .ok (.invokestatic 140, 3) := rdX12_readsRule_217
theorem dX12_readsRule_220 : decode cX12_readsRule 220 = .ok (.ifCond .ne 16, 3) := rdX12_readsRule_220
theorem dX12_readsRule_94 : decode cX12_readsRule 94 = .ok (.aload_n 0, 1) := rdX12_readsRule_94
theorem dX12_readsRule_95 : decode cX12_readsRule 95 = .ok (.getfield 33, 3) := rdX12_readsRule_95
theorem dX12_readsRule_98 : decode cX12_readsRule 98 = .ok (.iconst 2, 1) := rdX12_readsRule_98
theorem dX12_readsRule_99 : decode cX12_readsRule 99 = .ok (.aload_n 0, 1) := rdX12_readsRule_99
theorem dX12_readsRule_100 : decode cX12_readsRule 100 = .ok (.bipush 11, 2) := rdX12_readsRule_100
theorem dX12_readsRule_102 : decode cX12_readsRule 102 = .ok (.iload_n 1, 1) := rdX12_readsRule_102
theorem dX12_readsRule_103 : decode cX12_readsRule 103 = .ok (.bipush 9, 2) := rdX12_readsRule_103
theorem dX12_readsRule_105 : decode cX12_readsRule 105 = .ok (.if_icmp .ne 8, 3) := rdX12_readsRule_105
theorem dX12_readsRule_113 : decode cX12_readsRule 113 = .ok (.bipush 14, 2) := rdX12_readsRule_113
theorem dX12_readsRule_115 : decode cX12_readsRule 115 = .ok (.invokevirtual 227, 3) := rdX12_readsRule_115
theorem dX12_readsRule_118 : decode cX12_readsRule 118 = .ok (.iastore, 1) := rdX12_readsRule_118
theorem dX12_readsRule_199 : decode cX12_readsRule 199 = .ok (.aload_n 0, 1) := rdX12_readsRule_199
theorem dX12_readsRule_200 : decode cX12_readsRule 200 = .ok (.getfield 33, 3) := rdX12_readsRule_200
theorem dX12_readsRule_203 : decode cX12_readsRule 203 = .ok (.iconst 3, 1) := rdX12_readsRule_203
theorem dX12_readsRule_204 : decode cX12_readsRule 204 = .ok (.aload_n 0, 1) := rdX12_readsRule_204
theorem dX12_readsRule_205 : decode cX12_readsRule 205 = .ok (.invokevirtual 230, 3) := rdX12_readsRule_205
theorem tk_X12_needsNumber : Cond.code yX12_needsNumber cX12_needsNumber 2 (some .int) ∈ TB := rtk_X12_needsNumber
theorem gc_X12_needsNumber : GoodIn TB (cw yX12_needsNumber cX12_needsNumber 2 (some .int)) := goodIn_c2 tk_X12_needsNumber
theorem tb_689 : Cond.methodLink "ToneLinesModel" 230 yX12_needsNumber ∈ TB := rtb_154
theorem tb_690 : Cond.instanceMethod yX12_needsNumber ∈ TB := rtb_155
theorem tb_691 : Cond.selects "ToneLinesModel" yX12_needsNumber yX12_needsNumber ∈ TB := rtb_156
theorem gv_X12_230 : GoodIn TB (wsV RX12 230 RX12 yX12_needsNumber (cw yX12_needsNumber cX12_needsNumber 2 (some .int))) := goodIn_4 tb_689 tb_690 tb_691 tb_38 gc_X12_needsNumber
theorem hv_X12_needsNumber : yX12_needsNumber.cls = RX12 ∧ yX12_needsNumber.cls ≠ "java/lang/invoke/MethodHandle" ∧ yX12_needsNumber.cls ≠ "java/lang/invoke/VarHandle" ∧ (parseMethodDescriptor yX12_needsNumber.desc).map (fun d => d.parameters.length) = some 0 := rhv_X12_needsNumber
theorem dX12_readsRule_208 : decode cX12_readsRule 208 = .ok (.iastore, 1) := rdX12_readsRule_208
theorem dX12_readsRule_223 : decode cX12_readsRule 223 = .ok (.aload_n 0, 1) := rdX12_readsRule_223
theorem dX12_readsRule_224 : decode cX12_readsRule 224 = .ok (.bipush 20, 2) := rdX12_readsRule_224
theorem dX12_readsRule_226 : decode cX12_readsRule 226 = .ok (.invokevirtual 224, 3) := rdX12_readsRule_226
theorem dX12_readsRule_229 : decode cX12_readsRule 229 = .ok (.ifCond .eq 7, 3) := rdX12_readsRule_229
theorem dX12_readsRule_232 : decode cX12_readsRule 232 = .ok (.aload_n 0, 1) := rdX12_readsRule_232
theorem dX12_readsRule_233 : decode cX12_readsRule 233 = .ok (.invokevirtual 233, 3) := rdX12_readsRule_233
theorem tk_X12_readsTest : Cond.code yX12_readsTest cX12_readsTest 1 none ∈ TB := rtk_X12_readsTest
theorem gc_X12_readsTest : GoodIn TB (cw yX12_readsTest cX12_readsTest 1 none) := goodIn_c2 tk_X12_readsTest
theorem tb_692 : Cond.methodLink "ToneLinesModel" 233 yX12_readsTest ∈ TB := rtb_157
theorem tb_693 : Cond.instanceMethod yX12_readsTest ∈ TB := rtb_158
theorem tb_694 : Cond.selects "ToneLinesModel" yX12_readsTest yX12_readsTest ∈ TB := rtb_159
theorem gv_X12_233 : GoodIn TB (wsV RX12 233 RX12 yX12_readsTest (cw yX12_readsTest cX12_readsTest 1 none)) := goodIn_4 tb_692 tb_693 tb_694 tb_38 gc_X12_readsTest
theorem hv_X12_readsTest : yX12_readsTest.cls = RX12 ∧ yX12_readsTest.cls ≠ "java/lang/invoke/MethodHandle" ∧ yX12_readsTest.cls ≠ "java/lang/invoke/VarHandle" ∧ (parseMethodDescriptor yX12_readsTest.desc).map (fun d => d.parameters.length) = some 0 := rhv_X12_readsTest
theorem dX12_readsRule_180 : decode cX12_readsRule 180 = .ok (.aload_n 0, 1) := rdX12_readsRule_180
theorem dX12_readsRule_181 : decode cX12_readsRule 181 = .ok (.getfield 33, 3) := rdX12_readsRule_181
theorem dX12_readsRule_184 : decode cX12_readsRule 184 = .ok (.iconst 4, 1) := rdX12_readsRule_184
theorem dX12_readsRule_185 : decode cX12_readsRule 185 = .ok (.aload_n 0, 1) := rdX12_readsRule_185
theorem dX12_readsRule_186 : decode cX12_readsRule 186 = .ok (.bipush 17, 2) := rdX12_readsRule_186
theorem dX12_readsRule_188 : decode cX12_readsRule 188 = .ok (.bipush 18, 2) := rdX12_readsRule_188
theorem dX12_readsRule_190 : decode cX12_readsRule 190 = .ok (.invokevirtual 227, 3) := rdX12_readsRule_190
theorem dX12_readsRule_193 : decode cX12_readsRule 193 = .ok (.iastore, 1) := rdX12_readsRule_193
theorem dX12_readsRule_125 : decode cX12_readsRule 125 = .ok (.aload_n 0, 1) := rdX12_readsRule_125
theorem dX12_readsRule_126 : decode cX12_readsRule 126 = .ok (.bipush 19, 2) := rdX12_readsRule_126
theorem dX12_readsRule_128 : decode cX12_readsRule 128 = .ok (.bipush 19, 2) := rdX12_readsRule_128
theorem dX12_readsRule_130 : decode cX12_readsRule 130 = .ok (.invokevirtual 227, 3) := rdX12_readsRule_130
theorem dX12_readsRule_133 : decode cX12_readsRule 133 = .ok (.pop, 1) := rdX12_readsRule_133
theorem dX12_readsRule_134 : decode cX12_readsRule 134 = .ok (.aload_n 0, 1) := rdX12_readsRule_134
theorem dX12_readsRule_135 : decode cX12_readsRule 135 = .ok (.getfield 33, 3) := rdX12_readsRule_135
theorem dX12_readsRule_138 : decode cX12_readsRule 138 = .ok (.iconst 3, 1) := rdX12_readsRule_138
theorem dX12_readsRule_139 : decode cX12_readsRule 139 = .ok (.aload_n 0, 1) := rdX12_readsRule_139
theorem dX12_readsRule_140 : decode cX12_readsRule 140 = .ok (.bipush 11, 2) := rdX12_readsRule_140
theorem dX12_readsRule_142 : decode cX12_readsRule 142 = .ok (.bipush 13, 2) := rdX12_readsRule_142
theorem dX12_readsRule_144 : decode cX12_readsRule 144 = .ok (.invokevirtual 227, 3) := rdX12_readsRule_144
theorem dX12_readsRule_147 : decode cX12_readsRule 147 = .ok (.iastore, 1) := rdX12_readsRule_147
theorem dX12_readsRule_77 : decode cX12_readsRule 77 = .ok (.aload_n 0, 1) := rdX12_readsRule_77
theorem dX12_readsRule_78 : decode cX12_readsRule 78 = .ok (.getfield 33, 3) := rdX12_readsRule_78
theorem dX12_readsRule_81 : decode cX12_readsRule 81 = .ok (.iconst 3, 1) := rdX12_readsRule_81
theorem dX12_readsRule_82 : decode cX12_readsRule 82 = .ok (.aload_n 0, 1) := rdX12_readsRule_82
theorem dX12_readsRule_83 : decode cX12_readsRule 83 = .ok (.invokevirtual 230, 3) := rdX12_readsRule_83
theorem dX12_readsRule_86 : decode cX12_readsRule 86 = .ok (.iastore, 1) := rdX12_readsRule_86
theorem dX12_readsRule_87 : decode cX12_readsRule 87 = .ok (.goto 32, 3) := rdX12_readsRule_87
theorem dX12_readsRule_108 : decode cX12_readsRule 108 = .ok (.bipush 13, 2) := rdX12_readsRule_108
theorem dX12_readsRule_110 : decode cX12_readsRule 110 = .ok (.goto 5, 3) := rdX12_readsRule_110
theorem dX12_readsRule_45 : decode cX12_readsRule 45 = .ok (.aload_n 0, 1) := rdX12_readsRule_45
theorem dX12_readsRule_46 : decode cX12_readsRule 46 = .ok (.getfield 33, 3) := rdX12_readsRule_46
theorem dX12_readsRule_49 : decode cX12_readsRule 49 = .ok (.iconst 1, 1) := rdX12_readsRule_49
theorem dX12_readsRule_50 : decode cX12_readsRule 50 = .ok (.iconst 1, 1) := rdX12_readsRule_50
theorem dX12_readsRule_51 : decode cX12_readsRule 51 = .ok (.iastore, 1) := rdX12_readsRule_51
theorem dX12_readsRule_52 : decode cX12_readsRule 52 = .ok (.aload_n 0, 1) := rdX12_readsRule_52
theorem dX12_readsRule_53 : decode cX12_readsRule 53 = .ok (.invokevirtual 221, 3) := rdX12_readsRule_53
set_option maxHeartbeats 4000000 in
set_option maxRecDepth 4000 in
theorem q_X12_readsRule {l : Launch} {D : va_G} {B : Nat} {cy : Nat → ClassId} {M : Mem} {tk : Int} (hgtk : M.1 146 13 = zI tk) (htk : (-2147483648) ≤ tk ∧ tk ≤ 2147483647) {nb : Int} (hgnb : M.1 146 11 = zI nb) (hnb : (-99) ≤ nb ∧ nb ≤ 300) (hpre0 : tk ≠ 2 ∨ 0 ≤ nb) (hI : IvR M) : Cv l D B cy yX12_readsRule cX12_readsRule 2 5 109 [.ref (B + 146)] M (fun M1 => (∃ tk2 nb2 wr2 : Int, M1.1 146 13 = zI tk2 ∧ M1.1 146 11 = zI nb2 ∧ M1.1 146 16 = zI wr2 ∧ (((-2147483648) ≤ tk2 ∧ tk2 ≤ 2147483647) ∧ ((-99) ≤ nb2 ∧ nb2 ≤ 300) ∧ (0 ≤ wr2 ∧ wr2 ≤ 1) ∧ (tk2 ≠ 2 ∨ 0 ≤ nb2))) ∧ (RKr (M1.1 153) 0) ∧ IvR M1 ∧ Fr (fun b9 k9 => (b9 = 146 ∧ k9 = 11) ∨ (b9 = 146 ∧ k9 = 13) ∨ (b9 = 146 ∧ k9 = 14) ∨ (b9 = 146 ∧ k9 = 15) ∨ (b9 = 146 ∧ k9 = 16) ∨ (b9 = 146 ∧ k9 = 9) ∨ b9 = 153) M1 M) := by
  refine s_anyQ (by decide) (Nat.le_of_ble_eq_true rfl) ?_
  intro p e s m args below meth c ls Q F hr hlocks hQ w hl
  have F : CallFix p m c cX12_readsRule 2 s args TB RX12 := F
  have hx := F.1
  have hb := F.2.1
  have hl : lv_has ls 2 [(0, .ref (B + 146))] := hl
  have hF : Fr (fun b9 k9 => (b9 = 146 ∧ k9 = 11) ∨ (b9 = 146 ∧ k9 = 13) ∨ (b9 = 146 ∧ k9 = 14) ∨ (b9 = 146 ∧ k9 = 15) ∨ (b9 = 146 ∧ k9 = 16) ∨ (b9 = 146 ∧ k9 = 9) ∨ b9 = 153) M M := Fr.rf
  refine lv_iconst (v := zI 0) hx hb dX12_readsRule_0 rfl ?_
  refine lv_istore_n (lv' := [(1, .int (zI 0)), (0, .ref (B + 146))]) hx hb dX12_readsRule_1 rfl hl (by decide) rfl (fun ls hl => ?_)
  have lp2 : ∀ (f : Nat) (v1_2 : Int)  (NL2 : Mem), (0 ≤ v1_2 ∧ v1_2 ≤ 8) → NL2.1 146 13 = zI tk → NL2.1 146 11 = zI nb → IvR NL2 → Fr (fun b9 k9 => (b9 = 146 ∧ k9 = 11) ∨ (b9 = 146 ∧ k9 = 13) ∨ (b9 = 146 ∧ k9 = 14) ∨ (b9 = 146 ∧ k9 = 15) ∨ (b9 = 146 ∧ k9 = 16) ∨ (b9 = 146 ∧ k9 = 9) ∨ b9 = 153) NL2 M → (Int.toNat (8 - v1_2) < f) → ∀ (H : Heap) (locs : List Loc) (ls : Array Slot), Wd D B cy s s.heap NL2 H locs → lv_has ls 2 [(1, .int (zI v1_2)), (0, .ref (B + 146))] → W p l e (rmm 5 109) s m args below meth c H locs 0 0 Q (F0 m 2 ls []) := by
    intro f
    induction f with
    | zero => intros; omega
    | succ f ih2 =>
      intro v1_2  NL2 iv1_2 eg146_13_2 eg146_11_2 hIL2 hFL2 hf2 H locs ls w hl
      refine lv_iload_n hx hb dX12_readsRule_2 rfl (lv_at hl 0 rfl) ?_
      refine lv_bipush (v := zI 8) hx hb dX12_readsRule_3 (by decide) ?_
      refine z_icmp_ge (tgt := 37) hx hb (by omega) (by omega) dX12_readsRule_5 (by decide) (fun c1 => ?_) (fun c1 => ?_)
      · refine lv_aload_n hx hb dX12_readsRule_37 rfl (lv_at hl 1 rfl) ?_
        refine lv_iconst (v := zI 0) hx hb dX12_readsRule_38 rfl ?_
        refine k_Vi F w (As := [.int (zI 0)]) (rest := []) (a := 146) (kd_lt (a := 146) (show kd 146 = (12, 0, 0) from rfl) (by decide)) (sh_12 rfl _ _) rfl (q_X12_isWord (x := 0) ⟨by omega, by omega⟩  hIL2) gv_X12_224 hv_X12_isWord ⟨(Nat.le_of_ble_eq_true rfl), (Nat.le_of_ble_eq_true rfl)⟩ hl.1 rfl (Nat.le_of_ble_eq_true rfl) ⟨Nat.zero_le _, Nat.zero_le _⟩ dX12_readsRule_39 (fun r2 N3 H locs hp w => ?_)
        obtain ⟨z4, rfl, bz4, hMN3⟩ := hp
        rw [hMN3] at w
        refine z_if_eq (tgt := 56) hx hb (by omega) dX12_readsRule_42 (by decide) (fun c5 => ?_) (fun c5 => ?_)
        · refine lv_aload_n hx hb dX12_readsRule_56 rfl (lv_at hl 1 rfl) ?_
          refine lv_iconst (v := zI 1) hx hb dX12_readsRule_57 rfl ?_
          refine lv_bipush (v := zI 10) hx hb dX12_readsRule_58 (by decide) ?_
          refine k_Vi F w (As := [.int (zI 1), .int (zI 10)]) (rest := []) (a := 146) (kd_lt (a := 146) (show kd 146 = (12, 0, 0) from rfl) (by decide)) (sh_12 rfl _ _) rfl (q_X12_needs (x := 1) ⟨by omega, by omega⟩ (x1 := 10) ⟨by omega, by omega⟩ (tk := tk) (eg146_13_2) ⟨by omega, by omega⟩ (nb := nb) (eg146_11_2) ⟨by omega, by omega⟩ (by omega) hIL2) gv_X12_227 hv_X12_needs ⟨(Nat.le_of_ble_eq_true rfl), (Nat.le_of_ble_eq_true rfl)⟩ hl.1 rfl (Nat.le_of_ble_eq_true rfl) ⟨Nat.zero_le _, Nat.zero_le _⟩ dX12_readsRule_60 (fun r6 N7 H locs hp w => ?_)
          obtain ⟨z8, rfl, bz8, ⟨nz80, nz81, enz80, enz81, xz8⟩, hIN7, hFN7⟩ := hp
          have hGN7 := Fr.tr hFL2 hFN7 (S := (fun b9 k9 => (b9 = 146 ∧ k9 = 11) ∨ (b9 = 146 ∧ k9 = 13) ∨ (b9 = 146 ∧ k9 = 14) ∨ (b9 = 146 ∧ k9 = 15) ∨ (b9 = 146 ∧ k9 = 16) ∨ (b9 = 146 ∧ k9 = 9) ∨ b9 = 153)) (fun b k h => by (try dsimp only at h ⊢); rcases h with ⟨rfl, rfl⟩ | ⟨rfl, rfl⟩ | ⟨rfl, rfl⟩ | ⟨rfl, rfl⟩ | ⟨rfl, rfl⟩ | ⟨rfl, rfl⟩ <;> first | decide | omega)
          rcases (show z8 = 0 ∨ z8 = 1 ∨ z8 = 2 ∨ z8 = 3 ∨ z8 = 4 ∨ z8 = 5 ∨ z8 = 6 ∨ z8 = 7 ∨ z8 = 8 ∨ z8 = 9 by omega) with rfl | rfl | rfl | rfl | rfl | rfl | rfl | rfl | rfl | rfl
          · refine lv_istore_n (lv' := [(1, .int (zI 0)), (0, .ref (B + 146))]) hx hb dX12_readsRule_63 rfl hl (by decide) rfl (fun ls hl => ?_)
            refine lv_aload_n hx hb dX12_readsRule_64 rfl (lv_at hl 1 rfl) ?_
            refine f_12_17 F w (a := 146) rfl tb_676 dX12_readsRule_65 ?_
            refine lv_iconst (v := zI 0) hx hb dX12_readsRule_68 rfl ?_
            refine lv_iload_n hx hb dX12_readsRule_69 rfl (lv_at hl 0 rfl) ?_
            refine g_iast F w (a := 153) rfl (j := 0) ⟨by decide, by decide⟩ (by omega) dX12_readsRule_70 (fun H locs w => ?_)
            refine lv_iload_n hx hb dX12_readsRule_71 rfl (lv_at hl 0 rfl) ?_
            refine lv_bipush (v := zI 8) hx hb dX12_readsRule_72 (by decide) ?_
            refine z_icmp_ne (tgt := 90) hx hb (by omega) (by omega) dX12_readsRule_74 (by decide) (fun c9 => ?_) (fun c9 => False.elim (by omega))
            refine lv_iload_n hx hb dX12_readsRule_90 rfl (lv_at hl 0 rfl) ?_
            refine z_if_eq (tgt := 119) hx hb (by omega) dX12_readsRule_91 (by decide) (fun c10 => ?_) (fun c10 => False.elim (by omega))
            refine lv_iload_n hx hb dX12_readsRule_119 rfl (lv_at hl 0 rfl) ?_
            refine lv_bipush (v := zI 7) hx hb dX12_readsRule_120 (by decide) ?_
            refine z_icmp_ne (tgt := 148) hx hb (by omega) (by omega) dX12_readsRule_122 (by decide) (fun c11 => ?_) (fun c11 => False.elim (by omega))
            refine lv_iload_n hx hb dX12_readsRule_148 rfl (lv_at hl 0 rfl) ?_
            refine k_Si F w (As := [.int (zI 0)]) (rest := []) (q_X12_hasSide (x := 0) ⟨by omega, by omega⟩  (IvR.to hIN7 (a := 153) (k := 0) (x := 0) (show ivr 153 0 = ((-99), 300) from rfl) ⟨by omega, by omega⟩ ⟨by decide, by decide, by decide, fun q9 => absurd q9 (by decide)⟩)) gs_X12_137 hs_X12_hasSide ⟨(Nat.le_of_ble_eq_true rfl), (Nat.le_of_ble_eq_true rfl)⟩ hl.1 rfl (Nat.le_of_ble_eq_true rfl) ⟨Nat.zero_le _, Nat.zero_le _⟩ dX12_readsRule_149 (fun r12 N13 H locs hp w => ?_)
            obtain ⟨z14, rfl, bz14, xz14, hMN13⟩ := hp
            rw [hMN13] at w
            refine z_if_eq (tgt := 169) hx hb (by omega) dX12_readsRule_152 (by decide) (fun c15 => False.elim (by omega)) (fun c15 => ?_)
            refine lv_aload_n hx hb dX12_readsRule_155 rfl (lv_at hl 1 rfl) ?_
            refine f_12_17 F w (a := 146) rfl tb_676 dX12_readsRule_156 ?_
            refine lv_iconst (v := zI 4) hx hb dX12_readsRule_159 rfl ?_
            refine lv_aload_n hx hb dX12_readsRule_160 rfl (lv_at hl 1 rfl) ?_
            refine lv_bipush (v := zI 15) hx hb dX12_readsRule_161 (by decide) ?_
            refine lv_bipush (v := zI 16) hx hb dX12_readsRule_163 (by decide) ?_
            refine k_Vi F w (As := [.int (zI 15), .int (zI 16)]) (rest := [.int (zI 4), .ref (B + 153)]) (a := 146) (kd_lt (a := 146) (show kd 146 = (12, 0, 0) from rfl) (by decide)) (sh_12 rfl _ _) rfl (q_X12_needs (x := 15) ⟨by omega, by omega⟩ (x1 := 16) ⟨by omega, by omega⟩ (tk := nz80) ((st_ne (Or.inl (by decide))).trans enz80) ⟨by omega, by omega⟩ (nb := nz81) ((st_ne (Or.inl (by decide))).trans enz81) ⟨by omega, by omega⟩ (by omega) (IvR.to hIN7 (a := 153) (k := 0) (x := 0) (show ivr 153 0 = ((-99), 300) from rfl) ⟨by omega, by omega⟩ ⟨by decide, by decide, by decide, fun q9 => absurd q9 (by decide)⟩)) gv_X12_227 hv_X12_needs ⟨(Nat.le_of_ble_eq_true rfl), (Nat.le_of_ble_eq_true rfl)⟩ hl.1 rfl (Nat.le_of_ble_eq_true rfl) ⟨Nat.zero_le _, Nat.zero_le _⟩ dX12_readsRule_165 (fun r16 N17 H locs hp w => ?_)
            obtain ⟨z18, rfl, bz18, ⟨nz180, nz181, enz180, enz181, xz18⟩, hIN17, hFN17⟩ := hp
            have hGN17 := Fr.tr (Fr.to hGN7 (by first | decide | (dsimp only; first | done | decide | omega) | omega)) hFN17 (S := (fun b9 k9 => (b9 = 146 ∧ k9 = 11) ∨ (b9 = 146 ∧ k9 = 13) ∨ (b9 = 146 ∧ k9 = 14) ∨ (b9 = 146 ∧ k9 = 15) ∨ (b9 = 146 ∧ k9 = 16) ∨ (b9 = 146 ∧ k9 = 9) ∨ b9 = 153)) (fun b k h => by (try dsimp only at h ⊢); rcases h with ⟨rfl, rfl⟩ | ⟨rfl, rfl⟩ | ⟨rfl, rfl⟩ | ⟨rfl, rfl⟩ | ⟨rfl, rfl⟩ | ⟨rfl, rfl⟩ <;> first | decide | omega)
            have kn19 : N17.1 153 0 = zI 0 := (hFN17 153 0 (by first | decide | (dsimp only; first | done | decide | omega) | omega)).trans (st_at)
            refine g_iast F w (a := 153) rfl (j := 4) ⟨by decide, by decide⟩ (by omega) dX12_readsRule_168 (fun H locs w => ?_)
            refine lv_iload_n hx hb dX12_readsRule_169 rfl (lv_at hl 0 rfl) ?_
            refine lv_iconst (v := zI 3) hx hb dX12_readsRule_170 rfl ?_
            refine z_icmp_eq (tgt := 180) hx hb (by omega) (by omega) dX12_readsRule_171 (by decide) (fun c20 => False.elim (by omega)) (fun c20 => ?_)
            refine lv_iload_n hx hb dX12_readsRule_174 rfl (lv_at hl 0 rfl) ?_
            refine lv_bipush (v := zI 8) hx hb dX12_readsRule_175 (by decide) ?_
            refine z_icmp_ne (tgt := 194) hx hb (by omega) (by omega) dX12_readsRule_177 (by decide) (fun c21 => ?_) (fun c21 => False.elim (by omega))
            refine lv_iload_n hx hb dX12_readsRule_194 rfl (lv_at hl 0 rfl) ?_
            refine lv_iconst (v := zI 1) hx hb dX12_readsRule_195 rfl ?_
            refine z_icmp_ne (tgt := 209) hx hb (by omega) (by omega) dX12_readsRule_196 (by decide) (fun c22 => ?_) (fun c22 => False.elim (by omega))
            refine lv_aload_n hx hb dX12_readsRule_209 rfl (lv_at hl 1 rfl) ?_
            refine f_12_16 F w (a := 146) rfl tb_669 dX12_readsRule_210 ?_
            obtain ⟨z23, bz23, ez23⟩ := IvR.ld (k := 16) (IvR.to hIN17 (a := 153) (k := 4) (x := z18) (show ivr 153 4 = ((-99), 300) from rfl) ⟨by omega, by omega⟩ ⟨by decide, by decide, by decide, fun q9 => absurd q9 (by decide)⟩) (show ivr 146 16 = (0, 1) from rfl) (show 146 ≤ 146 ∧ 146 < 159 by decide)
            refine r_val ez23 ?_
            refine z_if_ne (tgt := 236) hx hb (by omega) dX12_readsRule_213 (by decide) (fun c24 => ?_) (fun c24 => ?_)
            · refine lv_aload_n hx hb dX12_readsRule_236 rfl (lv_at hl 1 rfl) ?_
              refine f_12_16 F w (a := 146) rfl tb_669 dX12_readsRule_237 ?_
              obtain ⟨z25, bz25, ez25⟩ := IvR.ld (k := 16) (IvR.to hIN17 (a := 153) (k := 4) (x := z18) (show ivr 153 4 = ((-99), 300) from rfl) ⟨by omega, by omega⟩ ⟨by decide, by decide, by decide, fun q9 => absurd q9 (by decide)⟩) (show ivr 146 16 = (0, 1) from rfl) (show 146 ≤ 146 ∧ 146 < 159 by decide)
              refine r_val ez25 ?_
              refine z_if_eq (tgt := 244) hx hb (by omega) dX12_readsRule_240 (by decide) (fun c26 => ?_) (fun c26 => ?_)
              · refine lv_aload_n hx hb dX12_readsRule_244 rfl (lv_at hl 1 rfl) ?_
                refine f_12_13 F w (a := 146) rfl tb_602 dX12_readsRule_245 ?_
                refine r_val (v := zI nz180) ((st_ne (Or.inl (by decide))).trans enz180) ?_
                refine lv_iconst (v := zI 3) hx hb dX12_readsRule_248 rfl ?_
                refine z_icmp_ne (tgt := 259) hx hb (by omega) (by omega) dX12_readsRule_249 (by decide) (fun c27 => ?_) (fun c27 => ?_)
                · refine lv_aload_n hx hb dX12_readsRule_259 rfl (lv_at hl 1 rfl) ?_
                  refine lv_iconst (v := zI 1) hx hb dX12_readsRule_260 rfl ?_
                  refine u_12_16 F w (a := 146) rfl (nar_z (by omega)) (fit_z (by omega)) tb_669 dX12_readsRule_261 (fun H locs w => ?_)
                  obtain ⟨z28, bz28, ez28⟩ := IvR.ld (k := 3) (IvR.to (IvR.to hIN17 (a := 153) (k := 4) (x := z18) (show ivr 153 4 = ((-99), 300) from rfl) ⟨by omega, by omega⟩ ⟨by decide, by decide, by decide, fun q9 => absurd q9 (by decide)⟩) (a := 146) (k := 16) (x := 1) (show ivr 146 16 = (0, 1) from rfl) ⟨by omega, by omega⟩ ⟨by decide, by decide, by decide, fun q9 => absurd q9 (by decide)⟩) (show ivr 153 3 = (-99, 300) from rfl) (by decide)
                  rw [hQ]
                  exact e_v F w hr hlocks ⟨⟨nz180, nz181, 1, ((st_ne (Or.inr (by decide))).trans ((st_ne (Or.inl (by decide))).trans enz180)), ((st_ne (Or.inr (by decide))).trans ((st_ne (Or.inl (by decide))).trans enz181)), (st_at), ⟨by omega, by omega⟩, ⟨by omega, by omega⟩, ⟨by omega, by omega⟩, (by omega)⟩, (fun h8 => by have h9 := (zI_eq (a := 0) (b := 8) (by constructor <;> omega) (by constructor <;> omega)).mp (((st_ne (Or.inl (by decide))).trans ((st_ne (Or.inr (by decide))).trans kn19)).symm.trans h8); exact ⟨z28, by omega, by omega, ez28⟩), (IvR.to (IvR.to hIN17 (a := 153) (k := 4) (x := z18) (show ivr 153 4 = ((-99), 300) from rfl) ⟨by omega, by omega⟩ ⟨by decide, by decide, by decide, fun q9 => absurd q9 (by decide)⟩) (a := 146) (k := 16) (x := 1) (show ivr 146 16 = (0, 1) from rfl) ⟨by omega, by omega⟩ ⟨by decide, by decide, by decide, fun q9 => absurd q9 (by decide)⟩), (Fr.to (Fr.to hGN17 (by first | decide | (dsimp only; first | done | decide | omega) | omega)) (by first | decide | (dsimp only; first | done | decide | omega) | omega))⟩ dX12_readsRule_264
                · refine lv_aload_n hx hb dX12_readsRule_252 rfl (lv_at hl 1 rfl) ?_
                  refine k_Vv F w (As := []) (rest := []) (a := 146) (kd_lt (a := 146) (show kd 146 = (12, 0, 0) from rfl) (by decide)) (sh_12 rfl _ _) rfl (q_X12_goesOn   (IvR.to hIN17 (a := 153) (k := 4) (x := z18) (show ivr 153 4 = ((-99), 300) from rfl) ⟨by omega, by omega⟩ ⟨by decide, by decide, by decide, fun q9 => absurd q9 (by decide)⟩)) gv_X12_221 hv_X12_goesOn ⟨(Nat.le_of_ble_eq_true rfl), (Nat.le_of_ble_eq_true rfl)⟩ hl.1 rfl (Nat.le_of_ble_eq_true rfl) ⟨Nat.zero_le _, Nat.zero_le _⟩ dX12_readsRule_253 (fun N30 H locs hp w => ?_)
                  obtain ⟨⟨nz310, nz311, enz310, enz311, xz31⟩, hIN30, hFN30⟩ := hp
                  have hGN30 := Fr.tr (Fr.to hGN17 (by first | decide | (dsimp only; first | done | decide | omega) | omega)) hFN30 (S := (fun b9 k9 => (b9 = 146 ∧ k9 = 11) ∨ (b9 = 146 ∧ k9 = 13) ∨ (b9 = 146 ∧ k9 = 14) ∨ (b9 = 146 ∧ k9 = 15) ∨ (b9 = 146 ∧ k9 = 16) ∨ (b9 = 146 ∧ k9 = 9) ∨ b9 = 153)) (fun b k h => by (try dsimp only at h ⊢); rcases h with ⟨rfl, rfl⟩ | ⟨rfl, rfl⟩ | ⟨rfl, rfl⟩ | ⟨rfl, rfl⟩ | ⟨rfl, rfl⟩ <;> first | decide | omega)
                  have kn32 : N30.1 153 0 = zI 0 := (hFN30 153 0 (by first | decide | (dsimp only; first | done | decide | omega) | omega)).trans ((st_ne (Or.inr (by decide))).trans kn19)
                  have kn33 : N30.1 153 4 = zI z18 := (hFN30 153 4 (by first | decide | (dsimp only; first | done | decide | omega) | omega)).trans (st_at)
                  refine lv_goto (tgt := 264) hx hb dX12_readsRule_256 (by decide) ?_
                  obtain ⟨z34, bz34, ez34⟩ := IvR.ld (k := 16) hIN30 (show ivr 146 16 = (0, 1) from rfl) (show 146 ≤ 146 ∧ 146 < 159 by decide)
                  obtain ⟨z35, bz35, ez35⟩ := IvR.ld (k := 3) hIN30 (show ivr 153 3 = (-99, 300) from rfl) (by decide)
                  rw [hQ]
                  exact e_v F w hr hlocks ⟨⟨nz310, nz311, z34, (enz310), (enz311), (ez34), ⟨by omega, by omega⟩, ⟨by omega, by omega⟩, ⟨by omega, by omega⟩, (by omega)⟩, (fun h8 => by have h9 := (zI_eq (a := 0) (b := 8) (by constructor <;> omega) (by constructor <;> omega)).mp ((kn32).symm.trans h8); exact ⟨z35, by omega, by omega, ez35⟩), hIN30, hGN30⟩ dX12_readsRule_264
              · obtain ⟨z36, bz36, ez36⟩ := IvR.ld (k := 16) (IvR.to hIN17 (a := 153) (k := 4) (x := z18) (show ivr 153 4 = ((-99), 300) from rfl) ⟨by omega, by omega⟩ ⟨by decide, by decide, by decide, fun q9 => absurd q9 (by decide)⟩) (show ivr 146 16 = (0, 1) from rfl) (show 146 ≤ 146 ∧ 146 < 159 by decide)
                obtain ⟨z37, bz37, ez37⟩ := IvR.ld (k := 3) (IvR.to hIN17 (a := 153) (k := 4) (x := z18) (show ivr 153 4 = ((-99), 300) from rfl) ⟨by omega, by omega⟩ ⟨by decide, by decide, by decide, fun q9 => absurd q9 (by decide)⟩) (show ivr 153 3 = (-99, 300) from rfl) (by decide)
                rw [hQ]
                exact e_v F w hr hlocks ⟨⟨nz180, nz181, z36, ((st_ne (Or.inl (by decide))).trans enz180), ((st_ne (Or.inl (by decide))).trans enz181), (ez36), ⟨by omega, by omega⟩, ⟨by omega, by omega⟩, ⟨by omega, by omega⟩, (by omega)⟩, (fun h8 => by have h9 := (zI_eq (a := 0) (b := 8) (by constructor <;> omega) (by constructor <;> omega)).mp (((st_ne (Or.inr (by decide))).trans kn19).symm.trans h8); exact ⟨z37, by omega, by omega, ez37⟩), (IvR.to hIN17 (a := 153) (k := 4) (x := z18) (show ivr 153 4 = ((-99), 300) from rfl) ⟨by omega, by omega⟩ ⟨by decide, by decide, by decide, fun q9 => absurd q9 (by decide)⟩), (Fr.to hGN17 (by first | decide | (dsimp only; first | done | decide | omega) | omega))⟩ dX12_readsRule_243
            · refine lv_iload_n hx hb dX12_readsRule_216 rfl (lv_at hl 0 rfl) ?_
              refine k_Si F w (As := [.int (zI 0)]) (rest := []) (q_X12_isBySyllables (x := 0) ⟨by omega, by omega⟩  (IvR.to hIN17 (a := 153) (k := 4) (x := z18) (show ivr 153 4 = ((-99), 300) from rfl) ⟨by omega, by omega⟩ ⟨by decide, by decide, by decide, fun q9 => absurd q9 (by decide)⟩)) gs_X12_140 hs_X12_isBySyllables ⟨(Nat.le_of_ble_eq_true rfl), (Nat.le_of_ble_eq_true rfl)⟩ hl.1 rfl (Nat.le_of_ble_eq_true rfl) ⟨Nat.zero_le _, Nat.zero_le _⟩ dX12_readsRule_217 (fun r38 N39 H locs hp w => ?_)
              obtain ⟨z40, rfl, bz40, xz40, hMN39⟩ := hp
              rw [hMN39] at w
              refine z_if_ne (tgt := 236) hx hb (by omega) dX12_readsRule_220 (by decide) (fun c41 => ?_) (fun c41 => False.elim (by omega))
              refine lv_aload_n hx hb dX12_readsRule_236 rfl (lv_at hl 1 rfl) ?_
              refine f_12_16 F w (a := 146) rfl tb_669 dX12_readsRule_237 ?_
              obtain ⟨z42, bz42, ez42⟩ := IvR.ld (k := 16) (IvR.to hIN17 (a := 153) (k := 4) (x := z18) (show ivr 153 4 = ((-99), 300) from rfl) ⟨by omega, by omega⟩ ⟨by decide, by decide, by decide, fun q9 => absurd q9 (by decide)⟩) (show ivr 146 16 = (0, 1) from rfl) (show 146 ≤ 146 ∧ 146 < 159 by decide)
              refine r_val ez42 ?_
              refine z_if_eq (tgt := 244) hx hb (by omega) dX12_readsRule_240 (by decide) (fun c43 => ?_) (fun c43 => ?_)
              · refine lv_aload_n hx hb dX12_readsRule_244 rfl (lv_at hl 1 rfl) ?_
                refine f_12_13 F w (a := 146) rfl tb_602 dX12_readsRule_245 ?_
                refine r_val (v := zI nz180) ((st_ne (Or.inl (by decide))).trans enz180) ?_
                refine lv_iconst (v := zI 3) hx hb dX12_readsRule_248 rfl ?_
                refine z_icmp_ne (tgt := 259) hx hb (by omega) (by omega) dX12_readsRule_249 (by decide) (fun c44 => ?_) (fun c44 => ?_)
                · refine lv_aload_n hx hb dX12_readsRule_259 rfl (lv_at hl 1 rfl) ?_
                  refine lv_iconst (v := zI 1) hx hb dX12_readsRule_260 rfl ?_
                  refine u_12_16 F w (a := 146) rfl (nar_z (by omega)) (fit_z (by omega)) tb_669 dX12_readsRule_261 (fun H locs w => ?_)
                  obtain ⟨z45, bz45, ez45⟩ := IvR.ld (k := 3) (IvR.to (IvR.to hIN17 (a := 153) (k := 4) (x := z18) (show ivr 153 4 = ((-99), 300) from rfl) ⟨by omega, by omega⟩ ⟨by decide, by decide, by decide, fun q9 => absurd q9 (by decide)⟩) (a := 146) (k := 16) (x := 1) (show ivr 146 16 = (0, 1) from rfl) ⟨by omega, by omega⟩ ⟨by decide, by decide, by decide, fun q9 => absurd q9 (by decide)⟩) (show ivr 153 3 = (-99, 300) from rfl) (by decide)
                  rw [hQ]
                  exact e_v F w hr hlocks ⟨⟨nz180, nz181, 1, ((st_ne (Or.inr (by decide))).trans ((st_ne (Or.inl (by decide))).trans enz180)), ((st_ne (Or.inr (by decide))).trans ((st_ne (Or.inl (by decide))).trans enz181)), (st_at), ⟨by omega, by omega⟩, ⟨by omega, by omega⟩, ⟨by omega, by omega⟩, (by omega)⟩, (fun h8 => by have h9 := (zI_eq (a := 0) (b := 8) (by constructor <;> omega) (by constructor <;> omega)).mp (((st_ne (Or.inl (by decide))).trans ((st_ne (Or.inr (by decide))).trans kn19)).symm.trans h8); exact ⟨z45, by omega, by omega, ez45⟩), (IvR.to (IvR.to hIN17 (a := 153) (k := 4) (x := z18) (show ivr 153 4 = ((-99), 300) from rfl) ⟨by omega, by omega⟩ ⟨by decide, by decide, by decide, fun q9 => absurd q9 (by decide)⟩) (a := 146) (k := 16) (x := 1) (show ivr 146 16 = (0, 1) from rfl) ⟨by omega, by omega⟩ ⟨by decide, by decide, by decide, fun q9 => absurd q9 (by decide)⟩), (Fr.to (Fr.to hGN17 (by first | decide | (dsimp only; first | done | decide | omega) | omega)) (by first | decide | (dsimp only; first | done | decide | omega) | omega))⟩ dX12_readsRule_264
                · refine lv_aload_n hx hb dX12_readsRule_252 rfl (lv_at hl 1 rfl) ?_
                  refine k_Vv F w (As := []) (rest := []) (a := 146) (kd_lt (a := 146) (show kd 146 = (12, 0, 0) from rfl) (by decide)) (sh_12 rfl _ _) rfl (q_X12_goesOn   (IvR.to hIN17 (a := 153) (k := 4) (x := z18) (show ivr 153 4 = ((-99), 300) from rfl) ⟨by omega, by omega⟩ ⟨by decide, by decide, by decide, fun q9 => absurd q9 (by decide)⟩)) gv_X12_221 hv_X12_goesOn ⟨(Nat.le_of_ble_eq_true rfl), (Nat.le_of_ble_eq_true rfl)⟩ hl.1 rfl (Nat.le_of_ble_eq_true rfl) ⟨Nat.zero_le _, Nat.zero_le _⟩ dX12_readsRule_253 (fun N47 H locs hp w => ?_)
                  obtain ⟨⟨nz480, nz481, enz480, enz481, xz48⟩, hIN47, hFN47⟩ := hp
                  have hGN47 := Fr.tr (Fr.to hGN17 (by first | decide | (dsimp only; first | done | decide | omega) | omega)) hFN47 (S := (fun b9 k9 => (b9 = 146 ∧ k9 = 11) ∨ (b9 = 146 ∧ k9 = 13) ∨ (b9 = 146 ∧ k9 = 14) ∨ (b9 = 146 ∧ k9 = 15) ∨ (b9 = 146 ∧ k9 = 16) ∨ (b9 = 146 ∧ k9 = 9) ∨ b9 = 153)) (fun b k h => by (try dsimp only at h ⊢); rcases h with ⟨rfl, rfl⟩ | ⟨rfl, rfl⟩ | ⟨rfl, rfl⟩ | ⟨rfl, rfl⟩ | ⟨rfl, rfl⟩ <;> first | decide | omega)
                  have kn49 : N47.1 153 0 = zI 0 := (hFN47 153 0 (by first | decide | (dsimp only; first | done | decide | omega) | omega)).trans ((st_ne (Or.inr (by decide))).trans kn19)
                  have kn50 : N47.1 153 4 = zI z18 := (hFN47 153 4 (by first | decide | (dsimp only; first | done | decide | omega) | omega)).trans (st_at)
                  refine lv_goto (tgt := 264) hx hb dX12_readsRule_256 (by decide) ?_
                  obtain ⟨z51, bz51, ez51⟩ := IvR.ld (k := 16) hIN47 (show ivr 146 16 = (0, 1) from rfl) (show 146 ≤ 146 ∧ 146 < 159 by decide)
                  obtain ⟨z52, bz52, ez52⟩ := IvR.ld (k := 3) hIN47 (show ivr 153 3 = (-99, 300) from rfl) (by decide)
                  rw [hQ]
                  exact e_v F w hr hlocks ⟨⟨nz480, nz481, z51, (enz480), (enz481), (ez51), ⟨by omega, by omega⟩, ⟨by omega, by omega⟩, ⟨by omega, by omega⟩, (by omega)⟩, (fun h8 => by have h9 := (zI_eq (a := 0) (b := 8) (by constructor <;> omega) (by constructor <;> omega)).mp ((kn49).symm.trans h8); exact ⟨z52, by omega, by omega, ez52⟩), hIN47, hGN47⟩ dX12_readsRule_264
              · obtain ⟨z53, bz53, ez53⟩ := IvR.ld (k := 16) (IvR.to hIN17 (a := 153) (k := 4) (x := z18) (show ivr 153 4 = ((-99), 300) from rfl) ⟨by omega, by omega⟩ ⟨by decide, by decide, by decide, fun q9 => absurd q9 (by decide)⟩) (show ivr 146 16 = (0, 1) from rfl) (show 146 ≤ 146 ∧ 146 < 159 by decide)
                obtain ⟨z54, bz54, ez54⟩ := IvR.ld (k := 3) (IvR.to hIN17 (a := 153) (k := 4) (x := z18) (show ivr 153 4 = ((-99), 300) from rfl) ⟨by omega, by omega⟩ ⟨by decide, by decide, by decide, fun q9 => absurd q9 (by decide)⟩) (show ivr 153 3 = (-99, 300) from rfl) (by decide)
                rw [hQ]
                exact e_v F w hr hlocks ⟨⟨nz180, nz181, z53, ((st_ne (Or.inl (by decide))).trans enz180), ((st_ne (Or.inl (by decide))).trans enz181), (ez53), ⟨by omega, by omega⟩, ⟨by omega, by omega⟩, ⟨by omega, by omega⟩, (by omega)⟩, (fun h8 => by have h9 := (zI_eq (a := 0) (b := 8) (by constructor <;> omega) (by constructor <;> omega)).mp (((st_ne (Or.inr (by decide))).trans kn19).symm.trans h8); exact ⟨z54, by omega, by omega, ez54⟩), (IvR.to hIN17 (a := 153) (k := 4) (x := z18) (show ivr 153 4 = ((-99), 300) from rfl) ⟨by omega, by omega⟩ ⟨by decide, by decide, by decide, fun q9 => absurd q9 (by decide)⟩), (Fr.to hGN17 (by first | decide | (dsimp only; first | done | decide | omega) | omega))⟩ dX12_readsRule_243
          · refine lv_istore_n (lv' := [(1, .int (zI 1)), (0, .ref (B + 146))]) hx hb dX12_readsRule_63 rfl hl (by decide) rfl (fun ls hl => ?_)
            refine lv_aload_n hx hb dX12_readsRule_64 rfl (lv_at hl 1 rfl) ?_
            refine f_12_17 F w (a := 146) rfl tb_676 dX12_readsRule_65 ?_
            refine lv_iconst (v := zI 0) hx hb dX12_readsRule_68 rfl ?_
            refine lv_iload_n hx hb dX12_readsRule_69 rfl (lv_at hl 0 rfl) ?_
            refine g_iast F w (a := 153) rfl (j := 0) ⟨by decide, by decide⟩ (by omega) dX12_readsRule_70 (fun H locs w => ?_)
            refine lv_iload_n hx hb dX12_readsRule_71 rfl (lv_at hl 0 rfl) ?_
            refine lv_bipush (v := zI 8) hx hb dX12_readsRule_72 (by decide) ?_
            refine z_icmp_ne (tgt := 90) hx hb (by omega) (by omega) dX12_readsRule_74 (by decide) (fun c55 => ?_) (fun c55 => False.elim (by omega))
            refine lv_iload_n hx hb dX12_readsRule_90 rfl (lv_at hl 0 rfl) ?_
            refine z_if_eq (tgt := 119) hx hb (by omega) dX12_readsRule_91 (by decide) (fun c56 => False.elim (by omega)) (fun c56 => ?_)
            refine lv_aload_n hx hb dX12_readsRule_94 rfl (lv_at hl 1 rfl) ?_
            refine f_12_17 F w (a := 146) rfl tb_676 dX12_readsRule_95 ?_
            refine lv_iconst (v := zI 2) hx hb dX12_readsRule_98 rfl ?_
            refine lv_aload_n hx hb dX12_readsRule_99 rfl (lv_at hl 1 rfl) ?_
            refine lv_bipush (v := zI 11) hx hb dX12_readsRule_100 (by decide) ?_
            refine lv_iload_n hx hb dX12_readsRule_102 rfl (lv_at hl 0 rfl) ?_
            refine lv_bipush (v := zI 9) hx hb dX12_readsRule_103 (by decide) ?_
            refine z_icmp_ne (tgt := 113) hx hb (by omega) (by omega) dX12_readsRule_105 (by decide) (fun c57 => ?_) (fun c57 => False.elim (by omega))
            refine lv_bipush (v := zI 14) hx hb dX12_readsRule_113 (by decide) ?_
            refine k_Vi F w (As := [.int (zI 11), .int (zI 14)]) (rest := [.int (zI 2), .ref (B + 153)]) (a := 146) (kd_lt (a := 146) (show kd 146 = (12, 0, 0) from rfl) (by decide)) (sh_12 rfl _ _) rfl (q_X12_needs (x := 11) ⟨by omega, by omega⟩ (x1 := 14) ⟨by omega, by omega⟩ (tk := nz80) ((st_ne (Or.inl (by decide))).trans enz80) ⟨by omega, by omega⟩ (nb := nz81) ((st_ne (Or.inl (by decide))).trans enz81) ⟨by omega, by omega⟩ (by omega) (IvR.to hIN7 (a := 153) (k := 0) (x := 1) (show ivr 153 0 = ((-99), 300) from rfl) ⟨by omega, by omega⟩ ⟨by decide, by decide, by decide, fun q9 => absurd q9 (by decide)⟩)) gv_X12_227 hv_X12_needs ⟨(Nat.le_of_ble_eq_true rfl), (Nat.le_of_ble_eq_true rfl)⟩ hl.1 rfl (Nat.le_of_ble_eq_true rfl) ⟨Nat.zero_le _, Nat.zero_le _⟩ dX12_readsRule_115 (fun r58 N59 H locs hp w => ?_)
            obtain ⟨z60, rfl, bz60, ⟨nz600, nz601, enz600, enz601, xz60⟩, hIN59, hFN59⟩ := hp
            have hGN59 := Fr.tr (Fr.to hGN7 (by first | decide | (dsimp only; first | done | decide | omega) | omega)) hFN59 (S := (fun b9 k9 => (b9 = 146 ∧ k9 = 11) ∨ (b9 = 146 ∧ k9 = 13) ∨ (b9 = 146 ∧ k9 = 14) ∨ (b9 = 146 ∧ k9 = 15) ∨ (b9 = 146 ∧ k9 = 16) ∨ (b9 = 146 ∧ k9 = 9) ∨ b9 = 153)) (fun b k h => by (try dsimp only at h ⊢); rcases h with ⟨rfl, rfl⟩ | ⟨rfl, rfl⟩ | ⟨rfl, rfl⟩ | ⟨rfl, rfl⟩ | ⟨rfl, rfl⟩ | ⟨rfl, rfl⟩ <;> first | decide | omega)
            have kn61 : N59.1 153 0 = zI 1 := (hFN59 153 0 (by first | decide | (dsimp only; first | done | decide | omega) | omega)).trans (st_at)
            refine g_iast F w (a := 153) rfl (j := 2) ⟨by decide, by decide⟩ (by omega) dX12_readsRule_118 (fun H locs w => ?_)
            refine lv_iload_n hx hb dX12_readsRule_119 rfl (lv_at hl 0 rfl) ?_
            refine lv_bipush (v := zI 7) hx hb dX12_readsRule_120 (by decide) ?_
            refine z_icmp_ne (tgt := 148) hx hb (by omega) (by omega) dX12_readsRule_122 (by decide) (fun c62 => ?_) (fun c62 => False.elim (by omega))
            refine lv_iload_n hx hb dX12_readsRule_148 rfl (lv_at hl 0 rfl) ?_
            refine k_Si F w (As := [.int (zI 1)]) (rest := []) (q_X12_hasSide (x := 1) ⟨by omega, by omega⟩  (IvR.to hIN59 (a := 153) (k := 2) (x := z60) (show ivr 153 2 = ((-99), 300) from rfl) ⟨by omega, by omega⟩ ⟨by decide, by decide, by decide, fun q9 => absurd q9 (by decide)⟩)) gs_X12_137 hs_X12_hasSide ⟨(Nat.le_of_ble_eq_true rfl), (Nat.le_of_ble_eq_true rfl)⟩ hl.1 rfl (Nat.le_of_ble_eq_true rfl) ⟨Nat.zero_le _, Nat.zero_le _⟩ dX12_readsRule_149 (fun r63 N64 H locs hp w => ?_)
            obtain ⟨z65, rfl, bz65, xz65, hMN64⟩ := hp
            rw [hMN64] at w
            refine z_if_eq (tgt := 169) hx hb (by omega) dX12_readsRule_152 (by decide) (fun c66 => False.elim (by omega)) (fun c66 => ?_)
            refine lv_aload_n hx hb dX12_readsRule_155 rfl (lv_at hl 1 rfl) ?_
            refine f_12_17 F w (a := 146) rfl tb_676 dX12_readsRule_156 ?_
            refine lv_iconst (v := zI 4) hx hb dX12_readsRule_159 rfl ?_
            refine lv_aload_n hx hb dX12_readsRule_160 rfl (lv_at hl 1 rfl) ?_
            refine lv_bipush (v := zI 15) hx hb dX12_readsRule_161 (by decide) ?_
            refine lv_bipush (v := zI 16) hx hb dX12_readsRule_163 (by decide) ?_
            refine k_Vi F w (As := [.int (zI 15), .int (zI 16)]) (rest := [.int (zI 4), .ref (B + 153)]) (a := 146) (kd_lt (a := 146) (show kd 146 = (12, 0, 0) from rfl) (by decide)) (sh_12 rfl _ _) rfl (q_X12_needs (x := 15) ⟨by omega, by omega⟩ (x1 := 16) ⟨by omega, by omega⟩ (tk := nz600) ((st_ne (Or.inl (by decide))).trans enz600) ⟨by omega, by omega⟩ (nb := nz601) ((st_ne (Or.inl (by decide))).trans enz601) ⟨by omega, by omega⟩ (by omega) (IvR.to hIN59 (a := 153) (k := 2) (x := z60) (show ivr 153 2 = ((-99), 300) from rfl) ⟨by omega, by omega⟩ ⟨by decide, by decide, by decide, fun q9 => absurd q9 (by decide)⟩)) gv_X12_227 hv_X12_needs ⟨(Nat.le_of_ble_eq_true rfl), (Nat.le_of_ble_eq_true rfl)⟩ hl.1 rfl (Nat.le_of_ble_eq_true rfl) ⟨Nat.zero_le _, Nat.zero_le _⟩ dX12_readsRule_165 (fun r67 N68 H locs hp w => ?_)
            obtain ⟨z69, rfl, bz69, ⟨nz690, nz691, enz690, enz691, xz69⟩, hIN68, hFN68⟩ := hp
            have hGN68 := Fr.tr (Fr.to hGN59 (by first | decide | (dsimp only; first | done | decide | omega) | omega)) hFN68 (S := (fun b9 k9 => (b9 = 146 ∧ k9 = 11) ∨ (b9 = 146 ∧ k9 = 13) ∨ (b9 = 146 ∧ k9 = 14) ∨ (b9 = 146 ∧ k9 = 15) ∨ (b9 = 146 ∧ k9 = 16) ∨ (b9 = 146 ∧ k9 = 9) ∨ b9 = 153)) (fun b k h => by (try dsimp only at h ⊢); rcases h with ⟨rfl, rfl⟩ | ⟨rfl, rfl⟩ | ⟨rfl, rfl⟩ | ⟨rfl, rfl⟩ | ⟨rfl, rfl⟩ | ⟨rfl, rfl⟩ <;> first | decide | omega)
            have kn70 : N68.1 153 0 = zI 1 := (hFN68 153 0 (by first | decide | (dsimp only; first | done | decide | omega) | omega)).trans ((st_ne (Or.inr (by decide))).trans kn61)
            have kn71 : N68.1 153 2 = zI z60 := (hFN68 153 2 (by first | decide | (dsimp only; first | done | decide | omega) | omega)).trans (st_at)
            refine g_iast F w (a := 153) rfl (j := 4) ⟨by decide, by decide⟩ (by omega) dX12_readsRule_168 (fun H locs w => ?_)
            refine lv_iload_n hx hb dX12_readsRule_169 rfl (lv_at hl 0 rfl) ?_
            refine lv_iconst (v := zI 3) hx hb dX12_readsRule_170 rfl ?_
            refine z_icmp_eq (tgt := 180) hx hb (by omega) (by omega) dX12_readsRule_171 (by decide) (fun c72 => False.elim (by omega)) (fun c72 => ?_)
            refine lv_iload_n hx hb dX12_readsRule_174 rfl (lv_at hl 0 rfl) ?_
            refine lv_bipush (v := zI 8) hx hb dX12_readsRule_175 (by decide) ?_
            refine z_icmp_ne (tgt := 194) hx hb (by omega) (by omega) dX12_readsRule_177 (by decide) (fun c73 => ?_) (fun c73 => False.elim (by omega))
            refine lv_iload_n hx hb dX12_readsRule_194 rfl (lv_at hl 0 rfl) ?_
            refine lv_iconst (v := zI 1) hx hb dX12_readsRule_195 rfl ?_
            refine z_icmp_ne (tgt := 209) hx hb (by omega) (by omega) dX12_readsRule_196 (by decide) (fun c74 => False.elim (by omega)) (fun c74 => ?_)
            refine lv_aload_n hx hb dX12_readsRule_199 rfl (lv_at hl 1 rfl) ?_
            refine f_12_17 F w (a := 146) rfl tb_676 dX12_readsRule_200 ?_
            refine lv_iconst (v := zI 3) hx hb dX12_readsRule_203 rfl ?_
            refine lv_aload_n hx hb dX12_readsRule_204 rfl (lv_at hl 1 rfl) ?_
            refine k_Vi F w (As := []) (rest := [.int (zI 3), .ref (B + 153)]) (a := 146) (kd_lt (a := 146) (show kd 146 = (12, 0, 0) from rfl) (by decide)) (sh_12 rfl _ _) rfl (q_X12_needsNumber (tk := nz690) ((st_ne (Or.inl (by decide))).trans enz690) ⟨by omega, by omega⟩ (nb := nz691) ((st_ne (Or.inl (by decide))).trans enz691) ⟨by omega, by omega⟩ (by omega) (IvR.to hIN68 (a := 153) (k := 4) (x := z69) (show ivr 153 4 = ((-99), 300) from rfl) ⟨by omega, by omega⟩ ⟨by decide, by decide, by decide, fun q9 => absurd q9 (by decide)⟩)) gv_X12_230 hv_X12_needsNumber ⟨(Nat.le_of_ble_eq_true rfl), (Nat.le_of_ble_eq_true rfl)⟩ hl.1 rfl (Nat.le_of_ble_eq_true rfl) ⟨Nat.zero_le _, Nat.zero_le _⟩ dX12_readsRule_205 (fun r75 N76 H locs hp w => ?_)
            obtain ⟨z77, rfl, bz77, ⟨nz770, nz771, enz770, enz771, xz77⟩, hIN76, hFN76⟩ := hp
            have hGN76 := Fr.tr (Fr.to hGN68 (by first | decide | (dsimp only; first | done | decide | omega) | omega)) hFN76 (S := (fun b9 k9 => (b9 = 146 ∧ k9 = 11) ∨ (b9 = 146 ∧ k9 = 13) ∨ (b9 = 146 ∧ k9 = 14) ∨ (b9 = 146 ∧ k9 = 15) ∨ (b9 = 146 ∧ k9 = 16) ∨ (b9 = 146 ∧ k9 = 9) ∨ b9 = 153)) (fun b k h => by (try dsimp only at h ⊢); rcases h with ⟨rfl, rfl⟩ | ⟨rfl, rfl⟩ | ⟨rfl, rfl⟩ | ⟨rfl, rfl⟩ | ⟨rfl, rfl⟩ | ⟨rfl, rfl⟩ <;> first | decide | omega)
            have kn78 : N76.1 153 0 = zI 1 := (hFN76 153 0 (by first | decide | (dsimp only; first | done | decide | omega) | omega)).trans ((st_ne (Or.inr (by decide))).trans kn70)
            have kn79 : N76.1 153 2 = zI z60 := (hFN76 153 2 (by first | decide | (dsimp only; first | done | decide | omega) | omega)).trans ((st_ne (Or.inr (by decide))).trans kn71)
            have kn80 : N76.1 153 4 = zI z69 := (hFN76 153 4 (by first | decide | (dsimp only; first | done | decide | omega) | omega)).trans (st_at)
            refine g_iast F w (a := 153) rfl (j := 3) ⟨by decide, by decide⟩ (by omega) dX12_readsRule_208 (fun H locs w => ?_)
            refine lv_aload_n hx hb dX12_readsRule_209 rfl (lv_at hl 1 rfl) ?_
            refine f_12_16 F w (a := 146) rfl tb_669 dX12_readsRule_210 ?_
            obtain ⟨z81, bz81, ez81⟩ := IvR.ld (k := 16) (IvR.to hIN76 (a := 153) (k := 3) (x := z77) (show ivr 153 3 = ((-99), 300) from rfl) ⟨by omega, by omega⟩ ⟨by decide, by decide, by decide, fun q9 => absurd q9 (by decide)⟩) (show ivr 146 16 = (0, 1) from rfl) (show 146 ≤ 146 ∧ 146 < 159 by decide)
            refine r_val ez81 ?_
            refine z_if_ne (tgt := 236) hx hb (by omega) dX12_readsRule_213 (by decide) (fun c82 => ?_) (fun c82 => ?_)
            · refine lv_aload_n hx hb dX12_readsRule_236 rfl (lv_at hl 1 rfl) ?_
              refine f_12_16 F w (a := 146) rfl tb_669 dX12_readsRule_237 ?_
              obtain ⟨z83, bz83, ez83⟩ := IvR.ld (k := 16) (IvR.to hIN76 (a := 153) (k := 3) (x := z77) (show ivr 153 3 = ((-99), 300) from rfl) ⟨by omega, by omega⟩ ⟨by decide, by decide, by decide, fun q9 => absurd q9 (by decide)⟩) (show ivr 146 16 = (0, 1) from rfl) (show 146 ≤ 146 ∧ 146 < 159 by decide)
              refine r_val ez83 ?_
              refine z_if_eq (tgt := 244) hx hb (by omega) dX12_readsRule_240 (by decide) (fun c84 => ?_) (fun c84 => ?_)
              · refine lv_aload_n hx hb dX12_readsRule_244 rfl (lv_at hl 1 rfl) ?_
                refine f_12_13 F w (a := 146) rfl tb_602 dX12_readsRule_245 ?_
                refine r_val (v := zI nz770) ((st_ne (Or.inl (by decide))).trans enz770) ?_
                refine lv_iconst (v := zI 3) hx hb dX12_readsRule_248 rfl ?_
                refine z_icmp_ne (tgt := 259) hx hb (by omega) (by omega) dX12_readsRule_249 (by decide) (fun c85 => ?_) (fun c85 => ?_)
                · refine lv_aload_n hx hb dX12_readsRule_259 rfl (lv_at hl 1 rfl) ?_
                  refine lv_iconst (v := zI 1) hx hb dX12_readsRule_260 rfl ?_
                  refine u_12_16 F w (a := 146) rfl (nar_z (by omega)) (fit_z (by omega)) tb_669 dX12_readsRule_261 (fun H locs w => ?_)
                  rw [hQ]
                  exact e_v F w hr hlocks ⟨⟨nz770, nz771, 1, ((st_ne (Or.inr (by decide))).trans ((st_ne (Or.inl (by decide))).trans enz770)), ((st_ne (Or.inr (by decide))).trans ((st_ne (Or.inl (by decide))).trans enz771)), (st_at), ⟨by omega, by omega⟩, ⟨by omega, by omega⟩, ⟨by omega, by omega⟩, (by omega)⟩, (fun h8 => by have h9 := (zI_eq (a := 1) (b := 8) (by constructor <;> omega) (by constructor <;> omega)).mp (((st_ne (Or.inl (by decide))).trans ((st_ne (Or.inr (by decide))).trans kn78)).symm.trans h8); exact ⟨z77, by omega, by omega, (st_ne (Or.inl (by decide))).trans st_at⟩), (IvR.to (IvR.to hIN76 (a := 153) (k := 3) (x := z77) (show ivr 153 3 = ((-99), 300) from rfl) ⟨by omega, by omega⟩ ⟨by decide, by decide, by decide, fun q9 => absurd q9 (by decide)⟩) (a := 146) (k := 16) (x := 1) (show ivr 146 16 = (0, 1) from rfl) ⟨by omega, by omega⟩ ⟨by decide, by decide, by decide, fun q9 => absurd q9 (by decide)⟩), (Fr.to (Fr.to hGN76 (by first | decide | (dsimp only; first | done | decide | omega) | omega)) (by first | decide | (dsimp only; first | done | decide | omega) | omega))⟩ dX12_readsRule_264
                · refine lv_aload_n hx hb dX12_readsRule_252 rfl (lv_at hl 1 rfl) ?_
                  refine k_Vv F w (As := []) (rest := []) (a := 146) (kd_lt (a := 146) (show kd 146 = (12, 0, 0) from rfl) (by decide)) (sh_12 rfl _ _) rfl (q_X12_goesOn   (IvR.to hIN76 (a := 153) (k := 3) (x := z77) (show ivr 153 3 = ((-99), 300) from rfl) ⟨by omega, by omega⟩ ⟨by decide, by decide, by decide, fun q9 => absurd q9 (by decide)⟩)) gv_X12_221 hv_X12_goesOn ⟨(Nat.le_of_ble_eq_true rfl), (Nat.le_of_ble_eq_true rfl)⟩ hl.1 rfl (Nat.le_of_ble_eq_true rfl) ⟨Nat.zero_le _, Nat.zero_le _⟩ dX12_readsRule_253 (fun N87 H locs hp w => ?_)
                  obtain ⟨⟨nz880, nz881, enz880, enz881, xz88⟩, hIN87, hFN87⟩ := hp
                  have hGN87 := Fr.tr (Fr.to hGN76 (by first | decide | (dsimp only; first | done | decide | omega) | omega)) hFN87 (S := (fun b9 k9 => (b9 = 146 ∧ k9 = 11) ∨ (b9 = 146 ∧ k9 = 13) ∨ (b9 = 146 ∧ k9 = 14) ∨ (b9 = 146 ∧ k9 = 15) ∨ (b9 = 146 ∧ k9 = 16) ∨ (b9 = 146 ∧ k9 = 9) ∨ b9 = 153)) (fun b k h => by (try dsimp only at h ⊢); rcases h with ⟨rfl, rfl⟩ | ⟨rfl, rfl⟩ | ⟨rfl, rfl⟩ | ⟨rfl, rfl⟩ | ⟨rfl, rfl⟩ <;> first | decide | omega)
                  have kn89 : N87.1 153 0 = zI 1 := (hFN87 153 0 (by first | decide | (dsimp only; first | done | decide | omega) | omega)).trans ((st_ne (Or.inr (by decide))).trans kn78)
                  have kn90 : N87.1 153 2 = zI z60 := (hFN87 153 2 (by first | decide | (dsimp only; first | done | decide | omega) | omega)).trans ((st_ne (Or.inr (by decide))).trans kn79)
                  have kn91 : N87.1 153 4 = zI z69 := (hFN87 153 4 (by first | decide | (dsimp only; first | done | decide | omega) | omega)).trans ((st_ne (Or.inr (by decide))).trans kn80)
                  have kn92 : N87.1 153 3 = zI z77 := (hFN87 153 3 (by first | decide | (dsimp only; first | done | decide | omega) | omega)).trans (st_at)
                  refine lv_goto (tgt := 264) hx hb dX12_readsRule_256 (by decide) ?_
                  obtain ⟨z93, bz93, ez93⟩ := IvR.ld (k := 16) hIN87 (show ivr 146 16 = (0, 1) from rfl) (show 146 ≤ 146 ∧ 146 < 159 by decide)
                  rw [hQ]
                  exact e_v F w hr hlocks ⟨⟨nz880, nz881, z93, (enz880), (enz881), (ez93), ⟨by omega, by omega⟩, ⟨by omega, by omega⟩, ⟨by omega, by omega⟩, (by omega)⟩, (fun h8 => by have h9 := (zI_eq (a := 1) (b := 8) (by constructor <;> omega) (by constructor <;> omega)).mp ((kn89).symm.trans h8); exact ⟨z77, by omega, by omega, kn92⟩), hIN87, hGN87⟩ dX12_readsRule_264
              · obtain ⟨z94, bz94, ez94⟩ := IvR.ld (k := 16) (IvR.to hIN76 (a := 153) (k := 3) (x := z77) (show ivr 153 3 = ((-99), 300) from rfl) ⟨by omega, by omega⟩ ⟨by decide, by decide, by decide, fun q9 => absurd q9 (by decide)⟩) (show ivr 146 16 = (0, 1) from rfl) (show 146 ≤ 146 ∧ 146 < 159 by decide)
                rw [hQ]
                exact e_v F w hr hlocks ⟨⟨nz770, nz771, z94, ((st_ne (Or.inl (by decide))).trans enz770), ((st_ne (Or.inl (by decide))).trans enz771), (ez94), ⟨by omega, by omega⟩, ⟨by omega, by omega⟩, ⟨by omega, by omega⟩, (by omega)⟩, (fun h8 => by have h9 := (zI_eq (a := 1) (b := 8) (by constructor <;> omega) (by constructor <;> omega)).mp (((st_ne (Or.inr (by decide))).trans kn78).symm.trans h8); exact ⟨z77, by omega, by omega, st_at⟩), (IvR.to hIN76 (a := 153) (k := 3) (x := z77) (show ivr 153 3 = ((-99), 300) from rfl) ⟨by omega, by omega⟩ ⟨by decide, by decide, by decide, fun q9 => absurd q9 (by decide)⟩), (Fr.to hGN76 (by first | decide | (dsimp only; first | done | decide | omega) | omega))⟩ dX12_readsRule_243
            · refine lv_iload_n hx hb dX12_readsRule_216 rfl (lv_at hl 0 rfl) ?_
              refine k_Si F w (As := [.int (zI 1)]) (rest := []) (q_X12_isBySyllables (x := 1) ⟨by omega, by omega⟩  (IvR.to hIN76 (a := 153) (k := 3) (x := z77) (show ivr 153 3 = ((-99), 300) from rfl) ⟨by omega, by omega⟩ ⟨by decide, by decide, by decide, fun q9 => absurd q9 (by decide)⟩)) gs_X12_140 hs_X12_isBySyllables ⟨(Nat.le_of_ble_eq_true rfl), (Nat.le_of_ble_eq_true rfl)⟩ hl.1 rfl (Nat.le_of_ble_eq_true rfl) ⟨Nat.zero_le _, Nat.zero_le _⟩ dX12_readsRule_217 (fun r95 N96 H locs hp w => ?_)
              obtain ⟨z97, rfl, bz97, xz97, hMN96⟩ := hp
              rw [hMN96] at w
              refine z_if_ne (tgt := 236) hx hb (by omega) dX12_readsRule_220 (by decide) (fun c98 => False.elim (by omega)) (fun c98 => ?_)
              refine lv_aload_n hx hb dX12_readsRule_223 rfl (lv_at hl 1 rfl) ?_
              refine lv_bipush (v := zI 20) hx hb dX12_readsRule_224 (by decide) ?_
              refine k_Vi F w (As := [.int (zI 20)]) (rest := []) (a := 146) (kd_lt (a := 146) (show kd 146 = (12, 0, 0) from rfl) (by decide)) (sh_12 rfl _ _) rfl (q_X12_isWord (x := 20) ⟨by omega, by omega⟩  (IvR.to hIN76 (a := 153) (k := 3) (x := z77) (show ivr 153 3 = ((-99), 300) from rfl) ⟨by omega, by omega⟩ ⟨by decide, by decide, by decide, fun q9 => absurd q9 (by decide)⟩)) gv_X12_224 hv_X12_isWord ⟨(Nat.le_of_ble_eq_true rfl), (Nat.le_of_ble_eq_true rfl)⟩ hl.1 rfl (Nat.le_of_ble_eq_true rfl) ⟨Nat.zero_le _, Nat.zero_le _⟩ dX12_readsRule_226 (fun r99 N100 H locs hp w => ?_)
              obtain ⟨z101, rfl, bz101, hMN100⟩ := hp
              rw [hMN100] at w
              refine z_if_eq (tgt := 236) hx hb (by omega) dX12_readsRule_229 (by decide) (fun c102 => ?_) (fun c102 => ?_)
              · refine lv_aload_n hx hb dX12_readsRule_236 rfl (lv_at hl 1 rfl) ?_
                refine f_12_16 F w (a := 146) rfl tb_669 dX12_readsRule_237 ?_
                obtain ⟨z103, bz103, ez103⟩ := IvR.ld (k := 16) (IvR.to hIN76 (a := 153) (k := 3) (x := z77) (show ivr 153 3 = ((-99), 300) from rfl) ⟨by omega, by omega⟩ ⟨by decide, by decide, by decide, fun q9 => absurd q9 (by decide)⟩) (show ivr 146 16 = (0, 1) from rfl) (show 146 ≤ 146 ∧ 146 < 159 by decide)
                refine r_val ez103 ?_
                refine z_if_eq (tgt := 244) hx hb (by omega) dX12_readsRule_240 (by decide) (fun c104 => ?_) (fun c104 => ?_)
                · refine lv_aload_n hx hb dX12_readsRule_244 rfl (lv_at hl 1 rfl) ?_
                  refine f_12_13 F w (a := 146) rfl tb_602 dX12_readsRule_245 ?_
                  refine r_val (v := zI nz770) ((st_ne (Or.inl (by decide))).trans enz770) ?_
                  refine lv_iconst (v := zI 3) hx hb dX12_readsRule_248 rfl ?_
                  refine z_icmp_ne (tgt := 259) hx hb (by omega) (by omega) dX12_readsRule_249 (by decide) (fun c105 => ?_) (fun c105 => ?_)
                  · refine lv_aload_n hx hb dX12_readsRule_259 rfl (lv_at hl 1 rfl) ?_
                    refine lv_iconst (v := zI 1) hx hb dX12_readsRule_260 rfl ?_
                    refine u_12_16 F w (a := 146) rfl (nar_z (by omega)) (fit_z (by omega)) tb_669 dX12_readsRule_261 (fun H locs w => ?_)
                    rw [hQ]
                    exact e_v F w hr hlocks ⟨⟨nz770, nz771, 1, ((st_ne (Or.inr (by decide))).trans ((st_ne (Or.inl (by decide))).trans enz770)), ((st_ne (Or.inr (by decide))).trans ((st_ne (Or.inl (by decide))).trans enz771)), (st_at), ⟨by omega, by omega⟩, ⟨by omega, by omega⟩, ⟨by omega, by omega⟩, (by omega)⟩, (fun h8 => by have h9 := (zI_eq (a := 1) (b := 8) (by constructor <;> omega) (by constructor <;> omega)).mp (((st_ne (Or.inl (by decide))).trans ((st_ne (Or.inr (by decide))).trans kn78)).symm.trans h8); exact ⟨z77, by omega, by omega, (st_ne (Or.inl (by decide))).trans st_at⟩), (IvR.to (IvR.to hIN76 (a := 153) (k := 3) (x := z77) (show ivr 153 3 = ((-99), 300) from rfl) ⟨by omega, by omega⟩ ⟨by decide, by decide, by decide, fun q9 => absurd q9 (by decide)⟩) (a := 146) (k := 16) (x := 1) (show ivr 146 16 = (0, 1) from rfl) ⟨by omega, by omega⟩ ⟨by decide, by decide, by decide, fun q9 => absurd q9 (by decide)⟩), (Fr.to (Fr.to hGN76 (by first | decide | (dsimp only; first | done | decide | omega) | omega)) (by first | decide | (dsimp only; first | done | decide | omega) | omega))⟩ dX12_readsRule_264
                  · refine lv_aload_n hx hb dX12_readsRule_252 rfl (lv_at hl 1 rfl) ?_
                    refine k_Vv F w (As := []) (rest := []) (a := 146) (kd_lt (a := 146) (show kd 146 = (12, 0, 0) from rfl) (by decide)) (sh_12 rfl _ _) rfl (q_X12_goesOn   (IvR.to hIN76 (a := 153) (k := 3) (x := z77) (show ivr 153 3 = ((-99), 300) from rfl) ⟨by omega, by omega⟩ ⟨by decide, by decide, by decide, fun q9 => absurd q9 (by decide)⟩)) gv_X12_221 hv_X12_goesOn ⟨(Nat.le_of_ble_eq_true rfl), (Nat.le_of_ble_eq_true rfl)⟩ hl.1 rfl (Nat.le_of_ble_eq_true rfl) ⟨Nat.zero_le _, Nat.zero_le _⟩ dX12_readsRule_253 (fun N107 H locs hp w => ?_)
                    obtain ⟨⟨nz1080, nz1081, enz1080, enz1081, xz108⟩, hIN107, hFN107⟩ := hp
                    have hGN107 := Fr.tr (Fr.to hGN76 (by first | decide | (dsimp only; first | done | decide | omega) | omega)) hFN107 (S := (fun b9 k9 => (b9 = 146 ∧ k9 = 11) ∨ (b9 = 146 ∧ k9 = 13) ∨ (b9 = 146 ∧ k9 = 14) ∨ (b9 = 146 ∧ k9 = 15) ∨ (b9 = 146 ∧ k9 = 16) ∨ (b9 = 146 ∧ k9 = 9) ∨ b9 = 153)) (fun b k h => by (try dsimp only at h ⊢); rcases h with ⟨rfl, rfl⟩ | ⟨rfl, rfl⟩ | ⟨rfl, rfl⟩ | ⟨rfl, rfl⟩ | ⟨rfl, rfl⟩ <;> first | decide | omega)
                    have kn109 : N107.1 153 0 = zI 1 := (hFN107 153 0 (by first | decide | (dsimp only; first | done | decide | omega) | omega)).trans ((st_ne (Or.inr (by decide))).trans kn78)
                    have kn110 : N107.1 153 2 = zI z60 := (hFN107 153 2 (by first | decide | (dsimp only; first | done | decide | omega) | omega)).trans ((st_ne (Or.inr (by decide))).trans kn79)
                    have kn111 : N107.1 153 4 = zI z69 := (hFN107 153 4 (by first | decide | (dsimp only; first | done | decide | omega) | omega)).trans ((st_ne (Or.inr (by decide))).trans kn80)
                    have kn112 : N107.1 153 3 = zI z77 := (hFN107 153 3 (by first | decide | (dsimp only; first | done | decide | omega) | omega)).trans (st_at)
                    refine lv_goto (tgt := 264) hx hb dX12_readsRule_256 (by decide) ?_
                    obtain ⟨z113, bz113, ez113⟩ := IvR.ld (k := 16) hIN107 (show ivr 146 16 = (0, 1) from rfl) (show 146 ≤ 146 ∧ 146 < 159 by decide)
                    rw [hQ]
                    exact e_v F w hr hlocks ⟨⟨nz1080, nz1081, z113, (enz1080), (enz1081), (ez113), ⟨by omega, by omega⟩, ⟨by omega, by omega⟩, ⟨by omega, by omega⟩, (by omega)⟩, (fun h8 => by have h9 := (zI_eq (a := 1) (b := 8) (by constructor <;> omega) (by constructor <;> omega)).mp ((kn109).symm.trans h8); exact ⟨z77, by omega, by omega, kn112⟩), hIN107, hGN107⟩ dX12_readsRule_264
                · obtain ⟨z114, bz114, ez114⟩ := IvR.ld (k := 16) (IvR.to hIN76 (a := 153) (k := 3) (x := z77) (show ivr 153 3 = ((-99), 300) from rfl) ⟨by omega, by omega⟩ ⟨by decide, by decide, by decide, fun q9 => absurd q9 (by decide)⟩) (show ivr 146 16 = (0, 1) from rfl) (show 146 ≤ 146 ∧ 146 < 159 by decide)
                  rw [hQ]
                  exact e_v F w hr hlocks ⟨⟨nz770, nz771, z114, ((st_ne (Or.inl (by decide))).trans enz770), ((st_ne (Or.inl (by decide))).trans enz771), (ez114), ⟨by omega, by omega⟩, ⟨by omega, by omega⟩, ⟨by omega, by omega⟩, (by omega)⟩, (fun h8 => by have h9 := (zI_eq (a := 1) (b := 8) (by constructor <;> omega) (by constructor <;> omega)).mp (((st_ne (Or.inr (by decide))).trans kn78).symm.trans h8); exact ⟨z77, by omega, by omega, st_at⟩), (IvR.to hIN76 (a := 153) (k := 3) (x := z77) (show ivr 153 3 = ((-99), 300) from rfl) ⟨by omega, by omega⟩ ⟨by decide, by decide, by decide, fun q9 => absurd q9 (by decide)⟩), (Fr.to hGN76 (by first | decide | (dsimp only; first | done | decide | omega) | omega))⟩ dX12_readsRule_243
              · refine lv_aload_n hx hb dX12_readsRule_232 rfl (lv_at hl 1 rfl) ?_
                refine k_Vv F w (As := []) (rest := []) (a := 146) (kd_lt (a := 146) (show kd 146 = (12, 0, 0) from rfl) (by decide)) (sh_12 rfl _ _) rfl (q_X12_readsTest   (IvR.to hIN76 (a := 153) (k := 3) (x := z77) (show ivr 153 3 = ((-99), 300) from rfl) ⟨by omega, by omega⟩ ⟨by decide, by decide, by decide, fun q9 => absurd q9 (by decide)⟩)) gv_X12_233 hv_X12_readsTest ⟨(Nat.le_of_ble_eq_true rfl), (Nat.le_of_ble_eq_true rfl)⟩ hl.1 rfl (Nat.le_of_ble_eq_true rfl) ⟨Nat.zero_le _, Nat.zero_le _⟩ dX12_readsRule_233 (fun N116 H locs hp w => ?_)
                obtain ⟨⟨nz1170, nz1171, enz1170, enz1171, xz117⟩, hIN116, hFN116⟩ := hp
                have hGN116 := Fr.tr (Fr.to hGN76 (by first | decide | (dsimp only; first | done | decide | omega) | omega)) hFN116 (S := (fun b9 k9 => (b9 = 146 ∧ k9 = 11) ∨ (b9 = 146 ∧ k9 = 13) ∨ (b9 = 146 ∧ k9 = 14) ∨ (b9 = 146 ∧ k9 = 15) ∨ (b9 = 146 ∧ k9 = 16) ∨ (b9 = 146 ∧ k9 = 9) ∨ b9 = 153)) (fun b k h => by (try dsimp only at h ⊢); rcases h with ⟨rfl, rfl⟩ | ⟨rfl, rfl⟩ | ⟨rfl, rfl⟩ | ⟨rfl, rfl⟩ | ⟨rfl, rfl⟩ | ⟨rfl, rfl⟩ | ⟨rfl, q1, q2⟩ | ⟨rfl, q1, q2⟩ | ⟨rfl, q1, q2⟩ <;> first | decide | omega)
                have kn118 : N116.1 153 0 = zI 1 := (hFN116 153 0 (by first | decide | (dsimp only; first | done | decide | omega) | omega)).trans ((st_ne (Or.inr (by decide))).trans kn78)
                have kn119 : N116.1 153 2 = zI z60 := (hFN116 153 2 (by first | decide | (dsimp only; first | done | decide | omega) | omega)).trans ((st_ne (Or.inr (by decide))).trans kn79)
                have kn120 : N116.1 153 4 = zI z69 := (hFN116 153 4 (by first | decide | (dsimp only; first | done | decide | omega) | omega)).trans ((st_ne (Or.inr (by decide))).trans kn80)
                have kn121 : N116.1 153 3 = zI z77 := (hFN116 153 3 (by first | decide | (dsimp only; first | done | decide | omega) | omega)).trans (st_at)
                refine lv_aload_n hx hb dX12_readsRule_236 rfl (lv_at hl 1 rfl) ?_
                refine f_12_16 F w (a := 146) rfl tb_669 dX12_readsRule_237 ?_
                obtain ⟨z122, bz122, ez122⟩ := IvR.ld (k := 16) hIN116 (show ivr 146 16 = (0, 1) from rfl) (show 146 ≤ 146 ∧ 146 < 159 by decide)
                refine r_val ez122 ?_
                refine z_if_eq (tgt := 244) hx hb (by omega) dX12_readsRule_240 (by decide) (fun c123 => ?_) (fun c123 => ?_)
                · refine lv_aload_n hx hb dX12_readsRule_244 rfl (lv_at hl 1 rfl) ?_
                  refine f_12_13 F w (a := 146) rfl tb_602 dX12_readsRule_245 ?_
                  refine r_val (v := zI nz1170) (enz1170) ?_
                  refine lv_iconst (v := zI 3) hx hb dX12_readsRule_248 rfl ?_
                  refine z_icmp_ne (tgt := 259) hx hb (by omega) (by omega) dX12_readsRule_249 (by decide) (fun c124 => ?_) (fun c124 => ?_)
                  · refine lv_aload_n hx hb dX12_readsRule_259 rfl (lv_at hl 1 rfl) ?_
                    refine lv_iconst (v := zI 1) hx hb dX12_readsRule_260 rfl ?_
                    refine u_12_16 F w (a := 146) rfl (nar_z (by omega)) (fit_z (by omega)) tb_669 dX12_readsRule_261 (fun H locs w => ?_)
                    rw [hQ]
                    exact e_v F w hr hlocks ⟨⟨nz1170, nz1171, 1, ((st_ne (Or.inr (by decide))).trans enz1170), ((st_ne (Or.inr (by decide))).trans enz1171), (st_at), ⟨by omega, by omega⟩, ⟨by omega, by omega⟩, ⟨by omega, by omega⟩, (by omega)⟩, (fun h8 => by have h9 := (zI_eq (a := 1) (b := 8) (by constructor <;> omega) (by constructor <;> omega)).mp (((st_ne (Or.inl (by decide))).trans kn118).symm.trans h8); exact ⟨z77, by omega, by omega, (st_ne (Or.inl (by decide))).trans kn121⟩), (IvR.to hIN116 (a := 146) (k := 16) (x := 1) (show ivr 146 16 = (0, 1) from rfl) ⟨by omega, by omega⟩ ⟨by decide, by decide, by decide, fun q9 => absurd q9 (by decide)⟩), (Fr.to hGN116 (by first | decide | (dsimp only; first | done | decide | omega) | omega))⟩ dX12_readsRule_264
                  · refine lv_aload_n hx hb dX12_readsRule_252 rfl (lv_at hl 1 rfl) ?_
                    refine k_Vv F w (As := []) (rest := []) (a := 146) (kd_lt (a := 146) (show kd 146 = (12, 0, 0) from rfl) (by decide)) (sh_12 rfl _ _) rfl (q_X12_goesOn   hIN116) gv_X12_221 hv_X12_goesOn ⟨(Nat.le_of_ble_eq_true rfl), (Nat.le_of_ble_eq_true rfl)⟩ hl.1 rfl (Nat.le_of_ble_eq_true rfl) ⟨Nat.zero_le _, Nat.zero_le _⟩ dX12_readsRule_253 (fun N126 H locs hp w => ?_)
                    obtain ⟨⟨nz1270, nz1271, enz1270, enz1271, xz127⟩, hIN126, hFN126⟩ := hp
                    have hGN126 := Fr.tr hGN116 hFN126 (S := (fun b9 k9 => (b9 = 146 ∧ k9 = 11) ∨ (b9 = 146 ∧ k9 = 13) ∨ (b9 = 146 ∧ k9 = 14) ∨ (b9 = 146 ∧ k9 = 15) ∨ (b9 = 146 ∧ k9 = 16) ∨ (b9 = 146 ∧ k9 = 9) ∨ b9 = 153)) (fun b k h => by (try dsimp only at h ⊢); rcases h with ⟨rfl, rfl⟩ | ⟨rfl, rfl⟩ | ⟨rfl, rfl⟩ | ⟨rfl, rfl⟩ | ⟨rfl, rfl⟩ <;> first | decide | omega)
                    have kn128 : N126.1 153 0 = zI 1 := (hFN126 153 0 (by first | decide | (dsimp only; first | done | decide | omega) | omega)).trans (kn118)
                    have kn129 : N126.1 153 2 = zI z60 := (hFN126 153 2 (by first | decide | (dsimp only; first | done | decide | omega) | omega)).trans (kn119)
                    have kn130 : N126.1 153 4 = zI z69 := (hFN126 153 4 (by first | decide | (dsimp only; first | done | decide | omega) | omega)).trans (kn120)
                    have kn131 : N126.1 153 3 = zI z77 := (hFN126 153 3 (by first | decide | (dsimp only; first | done | decide | omega) | omega)).trans (kn121)
                    have kn132 : N126.1 146 16 = zI z122 := (hFN126 146 16 (by first | decide | (dsimp only; first | done | decide | omega) | omega)).trans (ez122)
                    refine lv_goto (tgt := 264) hx hb dX12_readsRule_256 (by decide) ?_
                    rw [hQ]
                    exact e_v F w hr hlocks ⟨⟨nz1270, nz1271, z122, (enz1270), (enz1271), (kn132), ⟨by omega, by omega⟩, ⟨by omega, by omega⟩, ⟨by omega, by omega⟩, (by omega)⟩, (fun h8 => by have h9 := (zI_eq (a := 1) (b := 8) (by constructor <;> omega) (by constructor <;> omega)).mp ((kn128).symm.trans h8); exact ⟨z77, by omega, by omega, kn131⟩), hIN126, hGN126⟩ dX12_readsRule_264
                · rw [hQ]
                  exact e_v F w hr hlocks ⟨⟨nz1170, nz1171, z122, (enz1170), (enz1171), (ez122), ⟨by omega, by omega⟩, ⟨by omega, by omega⟩, ⟨by omega, by omega⟩, (by omega)⟩, (fun h8 => by have h9 := (zI_eq (a := 1) (b := 8) (by constructor <;> omega) (by constructor <;> omega)).mp ((kn118).symm.trans h8); exact ⟨z77, by omega, by omega, kn121⟩), hIN116, hGN116⟩ dX12_readsRule_243
          · refine lv_istore_n (lv' := [(1, .int (zI 2)), (0, .ref (B + 146))]) hx hb dX12_readsRule_63 rfl hl (by decide) rfl (fun ls hl => ?_)
            refine lv_aload_n hx hb dX12_readsRule_64 rfl (lv_at hl 1 rfl) ?_
            refine f_12_17 F w (a := 146) rfl tb_676 dX12_readsRule_65 ?_
            refine lv_iconst (v := zI 0) hx hb dX12_readsRule_68 rfl ?_
            refine lv_iload_n hx hb dX12_readsRule_69 rfl (lv_at hl 0 rfl) ?_
            refine g_iast F w (a := 153) rfl (j := 0) ⟨by decide, by decide⟩ (by omega) dX12_readsRule_70 (fun H locs w => ?_)
            refine lv_iload_n hx hb dX12_readsRule_71 rfl (lv_at hl 0 rfl) ?_
            refine lv_bipush (v := zI 8) hx hb dX12_readsRule_72 (by decide) ?_
            refine z_icmp_ne (tgt := 90) hx hb (by omega) (by omega) dX12_readsRule_74 (by decide) (fun c133 => ?_) (fun c133 => False.elim (by omega))
            refine lv_iload_n hx hb dX12_readsRule_90 rfl (lv_at hl 0 rfl) ?_
            refine z_if_eq (tgt := 119) hx hb (by omega) dX12_readsRule_91 (by decide) (fun c134 => False.elim (by omega)) (fun c134 => ?_)
            refine lv_aload_n hx hb dX12_readsRule_94 rfl (lv_at hl 1 rfl) ?_
            refine f_12_17 F w (a := 146) rfl tb_676 dX12_readsRule_95 ?_
            refine lv_iconst (v := zI 2) hx hb dX12_readsRule_98 rfl ?_
            refine lv_aload_n hx hb dX12_readsRule_99 rfl (lv_at hl 1 rfl) ?_
            refine lv_bipush (v := zI 11) hx hb dX12_readsRule_100 (by decide) ?_
            refine lv_iload_n hx hb dX12_readsRule_102 rfl (lv_at hl 0 rfl) ?_
            refine lv_bipush (v := zI 9) hx hb dX12_readsRule_103 (by decide) ?_
            refine z_icmp_ne (tgt := 113) hx hb (by omega) (by omega) dX12_readsRule_105 (by decide) (fun c135 => ?_) (fun c135 => False.elim (by omega))
            refine lv_bipush (v := zI 14) hx hb dX12_readsRule_113 (by decide) ?_
            refine k_Vi F w (As := [.int (zI 11), .int (zI 14)]) (rest := [.int (zI 2), .ref (B + 153)]) (a := 146) (kd_lt (a := 146) (show kd 146 = (12, 0, 0) from rfl) (by decide)) (sh_12 rfl _ _) rfl (q_X12_needs (x := 11) ⟨by omega, by omega⟩ (x1 := 14) ⟨by omega, by omega⟩ (tk := nz80) ((st_ne (Or.inl (by decide))).trans enz80) ⟨by omega, by omega⟩ (nb := nz81) ((st_ne (Or.inl (by decide))).trans enz81) ⟨by omega, by omega⟩ (by omega) (IvR.to hIN7 (a := 153) (k := 0) (x := 2) (show ivr 153 0 = ((-99), 300) from rfl) ⟨by omega, by omega⟩ ⟨by decide, by decide, by decide, fun q9 => absurd q9 (by decide)⟩)) gv_X12_227 hv_X12_needs ⟨(Nat.le_of_ble_eq_true rfl), (Nat.le_of_ble_eq_true rfl)⟩ hl.1 rfl (Nat.le_of_ble_eq_true rfl) ⟨Nat.zero_le _, Nat.zero_le _⟩ dX12_readsRule_115 (fun r136 N137 H locs hp w => ?_)
            obtain ⟨z138, rfl, bz138, ⟨nz1380, nz1381, enz1380, enz1381, xz138⟩, hIN137, hFN137⟩ := hp
            have hGN137 := Fr.tr (Fr.to hGN7 (by first | decide | (dsimp only; first | done | decide | omega) | omega)) hFN137 (S := (fun b9 k9 => (b9 = 146 ∧ k9 = 11) ∨ (b9 = 146 ∧ k9 = 13) ∨ (b9 = 146 ∧ k9 = 14) ∨ (b9 = 146 ∧ k9 = 15) ∨ (b9 = 146 ∧ k9 = 16) ∨ (b9 = 146 ∧ k9 = 9) ∨ b9 = 153)) (fun b k h => by (try dsimp only at h ⊢); rcases h with ⟨rfl, rfl⟩ | ⟨rfl, rfl⟩ | ⟨rfl, rfl⟩ | ⟨rfl, rfl⟩ | ⟨rfl, rfl⟩ | ⟨rfl, rfl⟩ <;> first | decide | omega)
            have kn139 : N137.1 153 0 = zI 2 := (hFN137 153 0 (by first | decide | (dsimp only; first | done | decide | omega) | omega)).trans (st_at)
            refine g_iast F w (a := 153) rfl (j := 2) ⟨by decide, by decide⟩ (by omega) dX12_readsRule_118 (fun H locs w => ?_)
            refine lv_iload_n hx hb dX12_readsRule_119 rfl (lv_at hl 0 rfl) ?_
            refine lv_bipush (v := zI 7) hx hb dX12_readsRule_120 (by decide) ?_
            refine z_icmp_ne (tgt := 148) hx hb (by omega) (by omega) dX12_readsRule_122 (by decide) (fun c140 => ?_) (fun c140 => False.elim (by omega))
            refine lv_iload_n hx hb dX12_readsRule_148 rfl (lv_at hl 0 rfl) ?_
            refine k_Si F w (As := [.int (zI 2)]) (rest := []) (q_X12_hasSide (x := 2) ⟨by omega, by omega⟩  (IvR.to hIN137 (a := 153) (k := 2) (x := z138) (show ivr 153 2 = ((-99), 300) from rfl) ⟨by omega, by omega⟩ ⟨by decide, by decide, by decide, fun q9 => absurd q9 (by decide)⟩)) gs_X12_137 hs_X12_hasSide ⟨(Nat.le_of_ble_eq_true rfl), (Nat.le_of_ble_eq_true rfl)⟩ hl.1 rfl (Nat.le_of_ble_eq_true rfl) ⟨Nat.zero_le _, Nat.zero_le _⟩ dX12_readsRule_149 (fun r141 N142 H locs hp w => ?_)
            obtain ⟨z143, rfl, bz143, xz143, hMN142⟩ := hp
            rw [hMN142] at w
            refine z_if_eq (tgt := 169) hx hb (by omega) dX12_readsRule_152 (by decide) (fun c144 => False.elim (by omega)) (fun c144 => ?_)
            refine lv_aload_n hx hb dX12_readsRule_155 rfl (lv_at hl 1 rfl) ?_
            refine f_12_17 F w (a := 146) rfl tb_676 dX12_readsRule_156 ?_
            refine lv_iconst (v := zI 4) hx hb dX12_readsRule_159 rfl ?_
            refine lv_aload_n hx hb dX12_readsRule_160 rfl (lv_at hl 1 rfl) ?_
            refine lv_bipush (v := zI 15) hx hb dX12_readsRule_161 (by decide) ?_
            refine lv_bipush (v := zI 16) hx hb dX12_readsRule_163 (by decide) ?_
            refine k_Vi F w (As := [.int (zI 15), .int (zI 16)]) (rest := [.int (zI 4), .ref (B + 153)]) (a := 146) (kd_lt (a := 146) (show kd 146 = (12, 0, 0) from rfl) (by decide)) (sh_12 rfl _ _) rfl (q_X12_needs (x := 15) ⟨by omega, by omega⟩ (x1 := 16) ⟨by omega, by omega⟩ (tk := nz1380) ((st_ne (Or.inl (by decide))).trans enz1380) ⟨by omega, by omega⟩ (nb := nz1381) ((st_ne (Or.inl (by decide))).trans enz1381) ⟨by omega, by omega⟩ (by omega) (IvR.to hIN137 (a := 153) (k := 2) (x := z138) (show ivr 153 2 = ((-99), 300) from rfl) ⟨by omega, by omega⟩ ⟨by decide, by decide, by decide, fun q9 => absurd q9 (by decide)⟩)) gv_X12_227 hv_X12_needs ⟨(Nat.le_of_ble_eq_true rfl), (Nat.le_of_ble_eq_true rfl)⟩ hl.1 rfl (Nat.le_of_ble_eq_true rfl) ⟨Nat.zero_le _, Nat.zero_le _⟩ dX12_readsRule_165 (fun r145 N146 H locs hp w => ?_)
            obtain ⟨z147, rfl, bz147, ⟨nz1470, nz1471, enz1470, enz1471, xz147⟩, hIN146, hFN146⟩ := hp
            have hGN146 := Fr.tr (Fr.to hGN137 (by first | decide | (dsimp only; first | done | decide | omega) | omega)) hFN146 (S := (fun b9 k9 => (b9 = 146 ∧ k9 = 11) ∨ (b9 = 146 ∧ k9 = 13) ∨ (b9 = 146 ∧ k9 = 14) ∨ (b9 = 146 ∧ k9 = 15) ∨ (b9 = 146 ∧ k9 = 16) ∨ (b9 = 146 ∧ k9 = 9) ∨ b9 = 153)) (fun b k h => by (try dsimp only at h ⊢); rcases h with ⟨rfl, rfl⟩ | ⟨rfl, rfl⟩ | ⟨rfl, rfl⟩ | ⟨rfl, rfl⟩ | ⟨rfl, rfl⟩ | ⟨rfl, rfl⟩ <;> first | decide | omega)
            have kn148 : N146.1 153 0 = zI 2 := (hFN146 153 0 (by first | decide | (dsimp only; first | done | decide | omega) | omega)).trans ((st_ne (Or.inr (by decide))).trans kn139)
            have kn149 : N146.1 153 2 = zI z138 := (hFN146 153 2 (by first | decide | (dsimp only; first | done | decide | omega) | omega)).trans (st_at)
            refine g_iast F w (a := 153) rfl (j := 4) ⟨by decide, by decide⟩ (by omega) dX12_readsRule_168 (fun H locs w => ?_)
            refine lv_iload_n hx hb dX12_readsRule_169 rfl (lv_at hl 0 rfl) ?_
            refine lv_iconst (v := zI 3) hx hb dX12_readsRule_170 rfl ?_
            refine z_icmp_eq (tgt := 180) hx hb (by omega) (by omega) dX12_readsRule_171 (by decide) (fun c150 => False.elim (by omega)) (fun c150 => ?_)
            refine lv_iload_n hx hb dX12_readsRule_174 rfl (lv_at hl 0 rfl) ?_
            refine lv_bipush (v := zI 8) hx hb dX12_readsRule_175 (by decide) ?_
            refine z_icmp_ne (tgt := 194) hx hb (by omega) (by omega) dX12_readsRule_177 (by decide) (fun c151 => ?_) (fun c151 => False.elim (by omega))
            refine lv_iload_n hx hb dX12_readsRule_194 rfl (lv_at hl 0 rfl) ?_
            refine lv_iconst (v := zI 1) hx hb dX12_readsRule_195 rfl ?_
            refine z_icmp_ne (tgt := 209) hx hb (by omega) (by omega) dX12_readsRule_196 (by decide) (fun c152 => ?_) (fun c152 => False.elim (by omega))
            refine lv_aload_n hx hb dX12_readsRule_209 rfl (lv_at hl 1 rfl) ?_
            refine f_12_16 F w (a := 146) rfl tb_669 dX12_readsRule_210 ?_
            obtain ⟨z153, bz153, ez153⟩ := IvR.ld (k := 16) (IvR.to hIN146 (a := 153) (k := 4) (x := z147) (show ivr 153 4 = ((-99), 300) from rfl) ⟨by omega, by omega⟩ ⟨by decide, by decide, by decide, fun q9 => absurd q9 (by decide)⟩) (show ivr 146 16 = (0, 1) from rfl) (show 146 ≤ 146 ∧ 146 < 159 by decide)
            refine r_val ez153 ?_
            refine z_if_ne (tgt := 236) hx hb (by omega) dX12_readsRule_213 (by decide) (fun c154 => ?_) (fun c154 => ?_)
            · refine lv_aload_n hx hb dX12_readsRule_236 rfl (lv_at hl 1 rfl) ?_
              refine f_12_16 F w (a := 146) rfl tb_669 dX12_readsRule_237 ?_
              obtain ⟨z155, bz155, ez155⟩ := IvR.ld (k := 16) (IvR.to hIN146 (a := 153) (k := 4) (x := z147) (show ivr 153 4 = ((-99), 300) from rfl) ⟨by omega, by omega⟩ ⟨by decide, by decide, by decide, fun q9 => absurd q9 (by decide)⟩) (show ivr 146 16 = (0, 1) from rfl) (show 146 ≤ 146 ∧ 146 < 159 by decide)
              refine r_val ez155 ?_
              refine z_if_eq (tgt := 244) hx hb (by omega) dX12_readsRule_240 (by decide) (fun c156 => ?_) (fun c156 => ?_)
              · refine lv_aload_n hx hb dX12_readsRule_244 rfl (lv_at hl 1 rfl) ?_
                refine f_12_13 F w (a := 146) rfl tb_602 dX12_readsRule_245 ?_
                refine r_val (v := zI nz1470) ((st_ne (Or.inl (by decide))).trans enz1470) ?_
                refine lv_iconst (v := zI 3) hx hb dX12_readsRule_248 rfl ?_
                refine z_icmp_ne (tgt := 259) hx hb (by omega) (by omega) dX12_readsRule_249 (by decide) (fun c157 => ?_) (fun c157 => ?_)
                · refine lv_aload_n hx hb dX12_readsRule_259 rfl (lv_at hl 1 rfl) ?_
                  refine lv_iconst (v := zI 1) hx hb dX12_readsRule_260 rfl ?_
                  refine u_12_16 F w (a := 146) rfl (nar_z (by omega)) (fit_z (by omega)) tb_669 dX12_readsRule_261 (fun H locs w => ?_)
                  obtain ⟨z158, bz158, ez158⟩ := IvR.ld (k := 3) (IvR.to (IvR.to hIN146 (a := 153) (k := 4) (x := z147) (show ivr 153 4 = ((-99), 300) from rfl) ⟨by omega, by omega⟩ ⟨by decide, by decide, by decide, fun q9 => absurd q9 (by decide)⟩) (a := 146) (k := 16) (x := 1) (show ivr 146 16 = (0, 1) from rfl) ⟨by omega, by omega⟩ ⟨by decide, by decide, by decide, fun q9 => absurd q9 (by decide)⟩) (show ivr 153 3 = (-99, 300) from rfl) (by decide)
                  rw [hQ]
                  exact e_v F w hr hlocks ⟨⟨nz1470, nz1471, 1, ((st_ne (Or.inr (by decide))).trans ((st_ne (Or.inl (by decide))).trans enz1470)), ((st_ne (Or.inr (by decide))).trans ((st_ne (Or.inl (by decide))).trans enz1471)), (st_at), ⟨by omega, by omega⟩, ⟨by omega, by omega⟩, ⟨by omega, by omega⟩, (by omega)⟩, (fun h8 => by have h9 := (zI_eq (a := 2) (b := 8) (by constructor <;> omega) (by constructor <;> omega)).mp (((st_ne (Or.inl (by decide))).trans ((st_ne (Or.inr (by decide))).trans kn148)).symm.trans h8); exact ⟨z158, by omega, by omega, ez158⟩), (IvR.to (IvR.to hIN146 (a := 153) (k := 4) (x := z147) (show ivr 153 4 = ((-99), 300) from rfl) ⟨by omega, by omega⟩ ⟨by decide, by decide, by decide, fun q9 => absurd q9 (by decide)⟩) (a := 146) (k := 16) (x := 1) (show ivr 146 16 = (0, 1) from rfl) ⟨by omega, by omega⟩ ⟨by decide, by decide, by decide, fun q9 => absurd q9 (by decide)⟩), (Fr.to (Fr.to hGN146 (by first | decide | (dsimp only; first | done | decide | omega) | omega)) (by first | decide | (dsimp only; first | done | decide | omega) | omega))⟩ dX12_readsRule_264
                · refine lv_aload_n hx hb dX12_readsRule_252 rfl (lv_at hl 1 rfl) ?_
                  refine k_Vv F w (As := []) (rest := []) (a := 146) (kd_lt (a := 146) (show kd 146 = (12, 0, 0) from rfl) (by decide)) (sh_12 rfl _ _) rfl (q_X12_goesOn   (IvR.to hIN146 (a := 153) (k := 4) (x := z147) (show ivr 153 4 = ((-99), 300) from rfl) ⟨by omega, by omega⟩ ⟨by decide, by decide, by decide, fun q9 => absurd q9 (by decide)⟩)) gv_X12_221 hv_X12_goesOn ⟨(Nat.le_of_ble_eq_true rfl), (Nat.le_of_ble_eq_true rfl)⟩ hl.1 rfl (Nat.le_of_ble_eq_true rfl) ⟨Nat.zero_le _, Nat.zero_le _⟩ dX12_readsRule_253 (fun N160 H locs hp w => ?_)
                  obtain ⟨⟨nz1610, nz1611, enz1610, enz1611, xz161⟩, hIN160, hFN160⟩ := hp
                  have hGN160 := Fr.tr (Fr.to hGN146 (by first | decide | (dsimp only; first | done | decide | omega) | omega)) hFN160 (S := (fun b9 k9 => (b9 = 146 ∧ k9 = 11) ∨ (b9 = 146 ∧ k9 = 13) ∨ (b9 = 146 ∧ k9 = 14) ∨ (b9 = 146 ∧ k9 = 15) ∨ (b9 = 146 ∧ k9 = 16) ∨ (b9 = 146 ∧ k9 = 9) ∨ b9 = 153)) (fun b k h => by (try dsimp only at h ⊢); rcases h with ⟨rfl, rfl⟩ | ⟨rfl, rfl⟩ | ⟨rfl, rfl⟩ | ⟨rfl, rfl⟩ | ⟨rfl, rfl⟩ <;> first | decide | omega)
                  have kn162 : N160.1 153 0 = zI 2 := (hFN160 153 0 (by first | decide | (dsimp only; first | done | decide | omega) | omega)).trans ((st_ne (Or.inr (by decide))).trans kn148)
                  have kn163 : N160.1 153 2 = zI z138 := (hFN160 153 2 (by first | decide | (dsimp only; first | done | decide | omega) | omega)).trans ((st_ne (Or.inr (by decide))).trans kn149)
                  have kn164 : N160.1 153 4 = zI z147 := (hFN160 153 4 (by first | decide | (dsimp only; first | done | decide | omega) | omega)).trans (st_at)
                  refine lv_goto (tgt := 264) hx hb dX12_readsRule_256 (by decide) ?_
                  obtain ⟨z165, bz165, ez165⟩ := IvR.ld (k := 16) hIN160 (show ivr 146 16 = (0, 1) from rfl) (show 146 ≤ 146 ∧ 146 < 159 by decide)
                  obtain ⟨z166, bz166, ez166⟩ := IvR.ld (k := 3) hIN160 (show ivr 153 3 = (-99, 300) from rfl) (by decide)
                  rw [hQ]
                  exact e_v F w hr hlocks ⟨⟨nz1610, nz1611, z165, (enz1610), (enz1611), (ez165), ⟨by omega, by omega⟩, ⟨by omega, by omega⟩, ⟨by omega, by omega⟩, (by omega)⟩, (fun h8 => by have h9 := (zI_eq (a := 2) (b := 8) (by constructor <;> omega) (by constructor <;> omega)).mp ((kn162).symm.trans h8); exact ⟨z166, by omega, by omega, ez166⟩), hIN160, hGN160⟩ dX12_readsRule_264
              · obtain ⟨z167, bz167, ez167⟩ := IvR.ld (k := 16) (IvR.to hIN146 (a := 153) (k := 4) (x := z147) (show ivr 153 4 = ((-99), 300) from rfl) ⟨by omega, by omega⟩ ⟨by decide, by decide, by decide, fun q9 => absurd q9 (by decide)⟩) (show ivr 146 16 = (0, 1) from rfl) (show 146 ≤ 146 ∧ 146 < 159 by decide)
                obtain ⟨z168, bz168, ez168⟩ := IvR.ld (k := 3) (IvR.to hIN146 (a := 153) (k := 4) (x := z147) (show ivr 153 4 = ((-99), 300) from rfl) ⟨by omega, by omega⟩ ⟨by decide, by decide, by decide, fun q9 => absurd q9 (by decide)⟩) (show ivr 153 3 = (-99, 300) from rfl) (by decide)
                rw [hQ]
                exact e_v F w hr hlocks ⟨⟨nz1470, nz1471, z167, ((st_ne (Or.inl (by decide))).trans enz1470), ((st_ne (Or.inl (by decide))).trans enz1471), (ez167), ⟨by omega, by omega⟩, ⟨by omega, by omega⟩, ⟨by omega, by omega⟩, (by omega)⟩, (fun h8 => by have h9 := (zI_eq (a := 2) (b := 8) (by constructor <;> omega) (by constructor <;> omega)).mp (((st_ne (Or.inr (by decide))).trans kn148).symm.trans h8); exact ⟨z168, by omega, by omega, ez168⟩), (IvR.to hIN146 (a := 153) (k := 4) (x := z147) (show ivr 153 4 = ((-99), 300) from rfl) ⟨by omega, by omega⟩ ⟨by decide, by decide, by decide, fun q9 => absurd q9 (by decide)⟩), (Fr.to hGN146 (by first | decide | (dsimp only; first | done | decide | omega) | omega))⟩ dX12_readsRule_243
            · refine lv_iload_n hx hb dX12_readsRule_216 rfl (lv_at hl 0 rfl) ?_
              refine k_Si F w (As := [.int (zI 2)]) (rest := []) (q_X12_isBySyllables (x := 2) ⟨by omega, by omega⟩  (IvR.to hIN146 (a := 153) (k := 4) (x := z147) (show ivr 153 4 = ((-99), 300) from rfl) ⟨by omega, by omega⟩ ⟨by decide, by decide, by decide, fun q9 => absurd q9 (by decide)⟩)) gs_X12_140 hs_X12_isBySyllables ⟨(Nat.le_of_ble_eq_true rfl), (Nat.le_of_ble_eq_true rfl)⟩ hl.1 rfl (Nat.le_of_ble_eq_true rfl) ⟨Nat.zero_le _, Nat.zero_le _⟩ dX12_readsRule_217 (fun r169 N170 H locs hp w => ?_)
              obtain ⟨z171, rfl, bz171, xz171, hMN170⟩ := hp
              rw [hMN170] at w
              refine z_if_ne (tgt := 236) hx hb (by omega) dX12_readsRule_220 (by decide) (fun c172 => False.elim (by omega)) (fun c172 => ?_)
              refine lv_aload_n hx hb dX12_readsRule_223 rfl (lv_at hl 1 rfl) ?_
              refine lv_bipush (v := zI 20) hx hb dX12_readsRule_224 (by decide) ?_
              refine k_Vi F w (As := [.int (zI 20)]) (rest := []) (a := 146) (kd_lt (a := 146) (show kd 146 = (12, 0, 0) from rfl) (by decide)) (sh_12 rfl _ _) rfl (q_X12_isWord (x := 20) ⟨by omega, by omega⟩  (IvR.to hIN146 (a := 153) (k := 4) (x := z147) (show ivr 153 4 = ((-99), 300) from rfl) ⟨by omega, by omega⟩ ⟨by decide, by decide, by decide, fun q9 => absurd q9 (by decide)⟩)) gv_X12_224 hv_X12_isWord ⟨(Nat.le_of_ble_eq_true rfl), (Nat.le_of_ble_eq_true rfl)⟩ hl.1 rfl (Nat.le_of_ble_eq_true rfl) ⟨Nat.zero_le _, Nat.zero_le _⟩ dX12_readsRule_226 (fun r173 N174 H locs hp w => ?_)
              obtain ⟨z175, rfl, bz175, hMN174⟩ := hp
              rw [hMN174] at w
              refine z_if_eq (tgt := 236) hx hb (by omega) dX12_readsRule_229 (by decide) (fun c176 => ?_) (fun c176 => ?_)
              · refine lv_aload_n hx hb dX12_readsRule_236 rfl (lv_at hl 1 rfl) ?_
                refine f_12_16 F w (a := 146) rfl tb_669 dX12_readsRule_237 ?_
                obtain ⟨z177, bz177, ez177⟩ := IvR.ld (k := 16) (IvR.to hIN146 (a := 153) (k := 4) (x := z147) (show ivr 153 4 = ((-99), 300) from rfl) ⟨by omega, by omega⟩ ⟨by decide, by decide, by decide, fun q9 => absurd q9 (by decide)⟩) (show ivr 146 16 = (0, 1) from rfl) (show 146 ≤ 146 ∧ 146 < 159 by decide)
                refine r_val ez177 ?_
                refine z_if_eq (tgt := 244) hx hb (by omega) dX12_readsRule_240 (by decide) (fun c178 => ?_) (fun c178 => ?_)
                · refine lv_aload_n hx hb dX12_readsRule_244 rfl (lv_at hl 1 rfl) ?_
                  refine f_12_13 F w (a := 146) rfl tb_602 dX12_readsRule_245 ?_
                  refine r_val (v := zI nz1470) ((st_ne (Or.inl (by decide))).trans enz1470) ?_
                  refine lv_iconst (v := zI 3) hx hb dX12_readsRule_248 rfl ?_
                  refine z_icmp_ne (tgt := 259) hx hb (by omega) (by omega) dX12_readsRule_249 (by decide) (fun c179 => ?_) (fun c179 => ?_)
                  · refine lv_aload_n hx hb dX12_readsRule_259 rfl (lv_at hl 1 rfl) ?_
                    refine lv_iconst (v := zI 1) hx hb dX12_readsRule_260 rfl ?_
                    refine u_12_16 F w (a := 146) rfl (nar_z (by omega)) (fit_z (by omega)) tb_669 dX12_readsRule_261 (fun H locs w => ?_)
                    obtain ⟨z180, bz180, ez180⟩ := IvR.ld (k := 3) (IvR.to (IvR.to hIN146 (a := 153) (k := 4) (x := z147) (show ivr 153 4 = ((-99), 300) from rfl) ⟨by omega, by omega⟩ ⟨by decide, by decide, by decide, fun q9 => absurd q9 (by decide)⟩) (a := 146) (k := 16) (x := 1) (show ivr 146 16 = (0, 1) from rfl) ⟨by omega, by omega⟩ ⟨by decide, by decide, by decide, fun q9 => absurd q9 (by decide)⟩) (show ivr 153 3 = (-99, 300) from rfl) (by decide)
                    rw [hQ]
                    exact e_v F w hr hlocks ⟨⟨nz1470, nz1471, 1, ((st_ne (Or.inr (by decide))).trans ((st_ne (Or.inl (by decide))).trans enz1470)), ((st_ne (Or.inr (by decide))).trans ((st_ne (Or.inl (by decide))).trans enz1471)), (st_at), ⟨by omega, by omega⟩, ⟨by omega, by omega⟩, ⟨by omega, by omega⟩, (by omega)⟩, (fun h8 => by have h9 := (zI_eq (a := 2) (b := 8) (by constructor <;> omega) (by constructor <;> omega)).mp (((st_ne (Or.inl (by decide))).trans ((st_ne (Or.inr (by decide))).trans kn148)).symm.trans h8); exact ⟨z180, by omega, by omega, ez180⟩), (IvR.to (IvR.to hIN146 (a := 153) (k := 4) (x := z147) (show ivr 153 4 = ((-99), 300) from rfl) ⟨by omega, by omega⟩ ⟨by decide, by decide, by decide, fun q9 => absurd q9 (by decide)⟩) (a := 146) (k := 16) (x := 1) (show ivr 146 16 = (0, 1) from rfl) ⟨by omega, by omega⟩ ⟨by decide, by decide, by decide, fun q9 => absurd q9 (by decide)⟩), (Fr.to (Fr.to hGN146 (by first | decide | (dsimp only; first | done | decide | omega) | omega)) (by first | decide | (dsimp only; first | done | decide | omega) | omega))⟩ dX12_readsRule_264
                  · refine lv_aload_n hx hb dX12_readsRule_252 rfl (lv_at hl 1 rfl) ?_
                    refine k_Vv F w (As := []) (rest := []) (a := 146) (kd_lt (a := 146) (show kd 146 = (12, 0, 0) from rfl) (by decide)) (sh_12 rfl _ _) rfl (q_X12_goesOn   (IvR.to hIN146 (a := 153) (k := 4) (x := z147) (show ivr 153 4 = ((-99), 300) from rfl) ⟨by omega, by omega⟩ ⟨by decide, by decide, by decide, fun q9 => absurd q9 (by decide)⟩)) gv_X12_221 hv_X12_goesOn ⟨(Nat.le_of_ble_eq_true rfl), (Nat.le_of_ble_eq_true rfl)⟩ hl.1 rfl (Nat.le_of_ble_eq_true rfl) ⟨Nat.zero_le _, Nat.zero_le _⟩ dX12_readsRule_253 (fun N182 H locs hp w => ?_)
                    obtain ⟨⟨nz1830, nz1831, enz1830, enz1831, xz183⟩, hIN182, hFN182⟩ := hp
                    have hGN182 := Fr.tr (Fr.to hGN146 (by first | decide | (dsimp only; first | done | decide | omega) | omega)) hFN182 (S := (fun b9 k9 => (b9 = 146 ∧ k9 = 11) ∨ (b9 = 146 ∧ k9 = 13) ∨ (b9 = 146 ∧ k9 = 14) ∨ (b9 = 146 ∧ k9 = 15) ∨ (b9 = 146 ∧ k9 = 16) ∨ (b9 = 146 ∧ k9 = 9) ∨ b9 = 153)) (fun b k h => by (try dsimp only at h ⊢); rcases h with ⟨rfl, rfl⟩ | ⟨rfl, rfl⟩ | ⟨rfl, rfl⟩ | ⟨rfl, rfl⟩ | ⟨rfl, rfl⟩ <;> first | decide | omega)
                    have kn184 : N182.1 153 0 = zI 2 := (hFN182 153 0 (by first | decide | (dsimp only; first | done | decide | omega) | omega)).trans ((st_ne (Or.inr (by decide))).trans kn148)
                    have kn185 : N182.1 153 2 = zI z138 := (hFN182 153 2 (by first | decide | (dsimp only; first | done | decide | omega) | omega)).trans ((st_ne (Or.inr (by decide))).trans kn149)
                    have kn186 : N182.1 153 4 = zI z147 := (hFN182 153 4 (by first | decide | (dsimp only; first | done | decide | omega) | omega)).trans (st_at)
                    refine lv_goto (tgt := 264) hx hb dX12_readsRule_256 (by decide) ?_
                    obtain ⟨z187, bz187, ez187⟩ := IvR.ld (k := 16) hIN182 (show ivr 146 16 = (0, 1) from rfl) (show 146 ≤ 146 ∧ 146 < 159 by decide)
                    obtain ⟨z188, bz188, ez188⟩ := IvR.ld (k := 3) hIN182 (show ivr 153 3 = (-99, 300) from rfl) (by decide)
                    rw [hQ]
                    exact e_v F w hr hlocks ⟨⟨nz1830, nz1831, z187, (enz1830), (enz1831), (ez187), ⟨by omega, by omega⟩, ⟨by omega, by omega⟩, ⟨by omega, by omega⟩, (by omega)⟩, (fun h8 => by have h9 := (zI_eq (a := 2) (b := 8) (by constructor <;> omega) (by constructor <;> omega)).mp ((kn184).symm.trans h8); exact ⟨z188, by omega, by omega, ez188⟩), hIN182, hGN182⟩ dX12_readsRule_264
                · obtain ⟨z189, bz189, ez189⟩ := IvR.ld (k := 16) (IvR.to hIN146 (a := 153) (k := 4) (x := z147) (show ivr 153 4 = ((-99), 300) from rfl) ⟨by omega, by omega⟩ ⟨by decide, by decide, by decide, fun q9 => absurd q9 (by decide)⟩) (show ivr 146 16 = (0, 1) from rfl) (show 146 ≤ 146 ∧ 146 < 159 by decide)
                  obtain ⟨z190, bz190, ez190⟩ := IvR.ld (k := 3) (IvR.to hIN146 (a := 153) (k := 4) (x := z147) (show ivr 153 4 = ((-99), 300) from rfl) ⟨by omega, by omega⟩ ⟨by decide, by decide, by decide, fun q9 => absurd q9 (by decide)⟩) (show ivr 153 3 = (-99, 300) from rfl) (by decide)
                  rw [hQ]
                  exact e_v F w hr hlocks ⟨⟨nz1470, nz1471, z189, ((st_ne (Or.inl (by decide))).trans enz1470), ((st_ne (Or.inl (by decide))).trans enz1471), (ez189), ⟨by omega, by omega⟩, ⟨by omega, by omega⟩, ⟨by omega, by omega⟩, (by omega)⟩, (fun h8 => by have h9 := (zI_eq (a := 2) (b := 8) (by constructor <;> omega) (by constructor <;> omega)).mp (((st_ne (Or.inr (by decide))).trans kn148).symm.trans h8); exact ⟨z190, by omega, by omega, ez190⟩), (IvR.to hIN146 (a := 153) (k := 4) (x := z147) (show ivr 153 4 = ((-99), 300) from rfl) ⟨by omega, by omega⟩ ⟨by decide, by decide, by decide, fun q9 => absurd q9 (by decide)⟩), (Fr.to hGN146 (by first | decide | (dsimp only; first | done | decide | omega) | omega))⟩ dX12_readsRule_243
              · refine lv_aload_n hx hb dX12_readsRule_232 rfl (lv_at hl 1 rfl) ?_
                refine k_Vv F w (As := []) (rest := []) (a := 146) (kd_lt (a := 146) (show kd 146 = (12, 0, 0) from rfl) (by decide)) (sh_12 rfl _ _) rfl (q_X12_readsTest   (IvR.to hIN146 (a := 153) (k := 4) (x := z147) (show ivr 153 4 = ((-99), 300) from rfl) ⟨by omega, by omega⟩ ⟨by decide, by decide, by decide, fun q9 => absurd q9 (by decide)⟩)) gv_X12_233 hv_X12_readsTest ⟨(Nat.le_of_ble_eq_true rfl), (Nat.le_of_ble_eq_true rfl)⟩ hl.1 rfl (Nat.le_of_ble_eq_true rfl) ⟨Nat.zero_le _, Nat.zero_le _⟩ dX12_readsRule_233 (fun N192 H locs hp w => ?_)
                obtain ⟨⟨nz1930, nz1931, enz1930, enz1931, xz193⟩, hIN192, hFN192⟩ := hp
                have hGN192 := Fr.tr (Fr.to hGN146 (by first | decide | (dsimp only; first | done | decide | omega) | omega)) hFN192 (S := (fun b9 k9 => (b9 = 146 ∧ k9 = 11) ∨ (b9 = 146 ∧ k9 = 13) ∨ (b9 = 146 ∧ k9 = 14) ∨ (b9 = 146 ∧ k9 = 15) ∨ (b9 = 146 ∧ k9 = 16) ∨ (b9 = 146 ∧ k9 = 9) ∨ b9 = 153)) (fun b k h => by (try dsimp only at h ⊢); rcases h with ⟨rfl, rfl⟩ | ⟨rfl, rfl⟩ | ⟨rfl, rfl⟩ | ⟨rfl, rfl⟩ | ⟨rfl, rfl⟩ | ⟨rfl, rfl⟩ | ⟨rfl, q1, q2⟩ | ⟨rfl, q1, q2⟩ | ⟨rfl, q1, q2⟩ <;> first | decide | omega)
                have kn194 : N192.1 153 0 = zI 2 := (hFN192 153 0 (by first | decide | (dsimp only; first | done | decide | omega) | omega)).trans ((st_ne (Or.inr (by decide))).trans kn148)
                have kn195 : N192.1 153 2 = zI z138 := (hFN192 153 2 (by first | decide | (dsimp only; first | done | decide | omega) | omega)).trans ((st_ne (Or.inr (by decide))).trans kn149)
                have kn196 : N192.1 153 4 = zI z147 := (hFN192 153 4 (by first | decide | (dsimp only; first | done | decide | omega) | omega)).trans (st_at)
                refine lv_aload_n hx hb dX12_readsRule_236 rfl (lv_at hl 1 rfl) ?_
                refine f_12_16 F w (a := 146) rfl tb_669 dX12_readsRule_237 ?_
                obtain ⟨z197, bz197, ez197⟩ := IvR.ld (k := 16) hIN192 (show ivr 146 16 = (0, 1) from rfl) (show 146 ≤ 146 ∧ 146 < 159 by decide)
                refine r_val ez197 ?_
                refine z_if_eq (tgt := 244) hx hb (by omega) dX12_readsRule_240 (by decide) (fun c198 => ?_) (fun c198 => ?_)
                · refine lv_aload_n hx hb dX12_readsRule_244 rfl (lv_at hl 1 rfl) ?_
                  refine f_12_13 F w (a := 146) rfl tb_602 dX12_readsRule_245 ?_
                  refine r_val (v := zI nz1930) (enz1930) ?_
                  refine lv_iconst (v := zI 3) hx hb dX12_readsRule_248 rfl ?_
                  refine z_icmp_ne (tgt := 259) hx hb (by omega) (by omega) dX12_readsRule_249 (by decide) (fun c199 => ?_) (fun c199 => ?_)
                  · refine lv_aload_n hx hb dX12_readsRule_259 rfl (lv_at hl 1 rfl) ?_
                    refine lv_iconst (v := zI 1) hx hb dX12_readsRule_260 rfl ?_
                    refine u_12_16 F w (a := 146) rfl (nar_z (by omega)) (fit_z (by omega)) tb_669 dX12_readsRule_261 (fun H locs w => ?_)
                    obtain ⟨z200, bz200, ez200⟩ := IvR.ld (k := 3) (IvR.to hIN192 (a := 146) (k := 16) (x := 1) (show ivr 146 16 = (0, 1) from rfl) ⟨by omega, by omega⟩ ⟨by decide, by decide, by decide, fun q9 => absurd q9 (by decide)⟩) (show ivr 153 3 = (-99, 300) from rfl) (by decide)
                    rw [hQ]
                    exact e_v F w hr hlocks ⟨⟨nz1930, nz1931, 1, ((st_ne (Or.inr (by decide))).trans enz1930), ((st_ne (Or.inr (by decide))).trans enz1931), (st_at), ⟨by omega, by omega⟩, ⟨by omega, by omega⟩, ⟨by omega, by omega⟩, (by omega)⟩, (fun h8 => by have h9 := (zI_eq (a := 2) (b := 8) (by constructor <;> omega) (by constructor <;> omega)).mp (((st_ne (Or.inl (by decide))).trans kn194).symm.trans h8); exact ⟨z200, by omega, by omega, ez200⟩), (IvR.to hIN192 (a := 146) (k := 16) (x := 1) (show ivr 146 16 = (0, 1) from rfl) ⟨by omega, by omega⟩ ⟨by decide, by decide, by decide, fun q9 => absurd q9 (by decide)⟩), (Fr.to hGN192 (by first | decide | (dsimp only; first | done | decide | omega) | omega))⟩ dX12_readsRule_264
                  · refine lv_aload_n hx hb dX12_readsRule_252 rfl (lv_at hl 1 rfl) ?_
                    refine k_Vv F w (As := []) (rest := []) (a := 146) (kd_lt (a := 146) (show kd 146 = (12, 0, 0) from rfl) (by decide)) (sh_12 rfl _ _) rfl (q_X12_goesOn   hIN192) gv_X12_221 hv_X12_goesOn ⟨(Nat.le_of_ble_eq_true rfl), (Nat.le_of_ble_eq_true rfl)⟩ hl.1 rfl (Nat.le_of_ble_eq_true rfl) ⟨Nat.zero_le _, Nat.zero_le _⟩ dX12_readsRule_253 (fun N202 H locs hp w => ?_)
                    obtain ⟨⟨nz2030, nz2031, enz2030, enz2031, xz203⟩, hIN202, hFN202⟩ := hp
                    have hGN202 := Fr.tr hGN192 hFN202 (S := (fun b9 k9 => (b9 = 146 ∧ k9 = 11) ∨ (b9 = 146 ∧ k9 = 13) ∨ (b9 = 146 ∧ k9 = 14) ∨ (b9 = 146 ∧ k9 = 15) ∨ (b9 = 146 ∧ k9 = 16) ∨ (b9 = 146 ∧ k9 = 9) ∨ b9 = 153)) (fun b k h => by (try dsimp only at h ⊢); rcases h with ⟨rfl, rfl⟩ | ⟨rfl, rfl⟩ | ⟨rfl, rfl⟩ | ⟨rfl, rfl⟩ | ⟨rfl, rfl⟩ <;> first | decide | omega)
                    have kn204 : N202.1 153 0 = zI 2 := (hFN202 153 0 (by first | decide | (dsimp only; first | done | decide | omega) | omega)).trans (kn194)
                    have kn205 : N202.1 153 2 = zI z138 := (hFN202 153 2 (by first | decide | (dsimp only; first | done | decide | omega) | omega)).trans (kn195)
                    have kn206 : N202.1 153 4 = zI z147 := (hFN202 153 4 (by first | decide | (dsimp only; first | done | decide | omega) | omega)).trans (kn196)
                    have kn207 : N202.1 146 16 = zI z197 := (hFN202 146 16 (by first | decide | (dsimp only; first | done | decide | omega) | omega)).trans (ez197)
                    refine lv_goto (tgt := 264) hx hb dX12_readsRule_256 (by decide) ?_
                    obtain ⟨z208, bz208, ez208⟩ := IvR.ld (k := 3) hIN202 (show ivr 153 3 = (-99, 300) from rfl) (by decide)
                    rw [hQ]
                    exact e_v F w hr hlocks ⟨⟨nz2030, nz2031, z197, (enz2030), (enz2031), (kn207), ⟨by omega, by omega⟩, ⟨by omega, by omega⟩, ⟨by omega, by omega⟩, (by omega)⟩, (fun h8 => by have h9 := (zI_eq (a := 2) (b := 8) (by constructor <;> omega) (by constructor <;> omega)).mp ((kn204).symm.trans h8); exact ⟨z208, by omega, by omega, ez208⟩), hIN202, hGN202⟩ dX12_readsRule_264
                · obtain ⟨z209, bz209, ez209⟩ := IvR.ld (k := 3) hIN192 (show ivr 153 3 = (-99, 300) from rfl) (by decide)
                  rw [hQ]
                  exact e_v F w hr hlocks ⟨⟨nz1930, nz1931, z197, (enz1930), (enz1931), (ez197), ⟨by omega, by omega⟩, ⟨by omega, by omega⟩, ⟨by omega, by omega⟩, (by omega)⟩, (fun h8 => by have h9 := (zI_eq (a := 2) (b := 8) (by constructor <;> omega) (by constructor <;> omega)).mp ((kn194).symm.trans h8); exact ⟨z209, by omega, by omega, ez209⟩), hIN192, hGN192⟩ dX12_readsRule_243
          · refine lv_istore_n (lv' := [(1, .int (zI 3)), (0, .ref (B + 146))]) hx hb dX12_readsRule_63 rfl hl (by decide) rfl (fun ls hl => ?_)
            refine lv_aload_n hx hb dX12_readsRule_64 rfl (lv_at hl 1 rfl) ?_
            refine f_12_17 F w (a := 146) rfl tb_676 dX12_readsRule_65 ?_
            refine lv_iconst (v := zI 0) hx hb dX12_readsRule_68 rfl ?_
            refine lv_iload_n hx hb dX12_readsRule_69 rfl (lv_at hl 0 rfl) ?_
            refine g_iast F w (a := 153) rfl (j := 0) ⟨by decide, by decide⟩ (by omega) dX12_readsRule_70 (fun H locs w => ?_)
            refine lv_iload_n hx hb dX12_readsRule_71 rfl (lv_at hl 0 rfl) ?_
            refine lv_bipush (v := zI 8) hx hb dX12_readsRule_72 (by decide) ?_
            refine z_icmp_ne (tgt := 90) hx hb (by omega) (by omega) dX12_readsRule_74 (by decide) (fun c210 => ?_) (fun c210 => False.elim (by omega))
            refine lv_iload_n hx hb dX12_readsRule_90 rfl (lv_at hl 0 rfl) ?_
            refine z_if_eq (tgt := 119) hx hb (by omega) dX12_readsRule_91 (by decide) (fun c211 => False.elim (by omega)) (fun c211 => ?_)
            refine lv_aload_n hx hb dX12_readsRule_94 rfl (lv_at hl 1 rfl) ?_
            refine f_12_17 F w (a := 146) rfl tb_676 dX12_readsRule_95 ?_
            refine lv_iconst (v := zI 2) hx hb dX12_readsRule_98 rfl ?_
            refine lv_aload_n hx hb dX12_readsRule_99 rfl (lv_at hl 1 rfl) ?_
            refine lv_bipush (v := zI 11) hx hb dX12_readsRule_100 (by decide) ?_
            refine lv_iload_n hx hb dX12_readsRule_102 rfl (lv_at hl 0 rfl) ?_
            refine lv_bipush (v := zI 9) hx hb dX12_readsRule_103 (by decide) ?_
            refine z_icmp_ne (tgt := 113) hx hb (by omega) (by omega) dX12_readsRule_105 (by decide) (fun c212 => ?_) (fun c212 => False.elim (by omega))
            refine lv_bipush (v := zI 14) hx hb dX12_readsRule_113 (by decide) ?_
            refine k_Vi F w (As := [.int (zI 11), .int (zI 14)]) (rest := [.int (zI 2), .ref (B + 153)]) (a := 146) (kd_lt (a := 146) (show kd 146 = (12, 0, 0) from rfl) (by decide)) (sh_12 rfl _ _) rfl (q_X12_needs (x := 11) ⟨by omega, by omega⟩ (x1 := 14) ⟨by omega, by omega⟩ (tk := nz80) ((st_ne (Or.inl (by decide))).trans enz80) ⟨by omega, by omega⟩ (nb := nz81) ((st_ne (Or.inl (by decide))).trans enz81) ⟨by omega, by omega⟩ (by omega) (IvR.to hIN7 (a := 153) (k := 0) (x := 3) (show ivr 153 0 = ((-99), 300) from rfl) ⟨by omega, by omega⟩ ⟨by decide, by decide, by decide, fun q9 => absurd q9 (by decide)⟩)) gv_X12_227 hv_X12_needs ⟨(Nat.le_of_ble_eq_true rfl), (Nat.le_of_ble_eq_true rfl)⟩ hl.1 rfl (Nat.le_of_ble_eq_true rfl) ⟨Nat.zero_le _, Nat.zero_le _⟩ dX12_readsRule_115 (fun r213 N214 H locs hp w => ?_)
            obtain ⟨z215, rfl, bz215, ⟨nz2150, nz2151, enz2150, enz2151, xz215⟩, hIN214, hFN214⟩ := hp
            have hGN214 := Fr.tr (Fr.to hGN7 (by first | decide | (dsimp only; first | done | decide | omega) | omega)) hFN214 (S := (fun b9 k9 => (b9 = 146 ∧ k9 = 11) ∨ (b9 = 146 ∧ k9 = 13) ∨ (b9 = 146 ∧ k9 = 14) ∨ (b9 = 146 ∧ k9 = 15) ∨ (b9 = 146 ∧ k9 = 16) ∨ (b9 = 146 ∧ k9 = 9) ∨ b9 = 153)) (fun b k h => by (try dsimp only at h ⊢); rcases h with ⟨rfl, rfl⟩ | ⟨rfl, rfl⟩ | ⟨rfl, rfl⟩ | ⟨rfl, rfl⟩ | ⟨rfl, rfl⟩ | ⟨rfl, rfl⟩ <;> first | decide | omega)
            have kn216 : N214.1 153 0 = zI 3 := (hFN214 153 0 (by first | decide | (dsimp only; first | done | decide | omega) | omega)).trans (st_at)
            refine g_iast F w (a := 153) rfl (j := 2) ⟨by decide, by decide⟩ (by omega) dX12_readsRule_118 (fun H locs w => ?_)
            refine lv_iload_n hx hb dX12_readsRule_119 rfl (lv_at hl 0 rfl) ?_
            refine lv_bipush (v := zI 7) hx hb dX12_readsRule_120 (by decide) ?_
            refine z_icmp_ne (tgt := 148) hx hb (by omega) (by omega) dX12_readsRule_122 (by decide) (fun c217 => ?_) (fun c217 => False.elim (by omega))
            refine lv_iload_n hx hb dX12_readsRule_148 rfl (lv_at hl 0 rfl) ?_
            refine k_Si F w (As := [.int (zI 3)]) (rest := []) (q_X12_hasSide (x := 3) ⟨by omega, by omega⟩  (IvR.to hIN214 (a := 153) (k := 2) (x := z215) (show ivr 153 2 = ((-99), 300) from rfl) ⟨by omega, by omega⟩ ⟨by decide, by decide, by decide, fun q9 => absurd q9 (by decide)⟩)) gs_X12_137 hs_X12_hasSide ⟨(Nat.le_of_ble_eq_true rfl), (Nat.le_of_ble_eq_true rfl)⟩ hl.1 rfl (Nat.le_of_ble_eq_true rfl) ⟨Nat.zero_le _, Nat.zero_le _⟩ dX12_readsRule_149 (fun r218 N219 H locs hp w => ?_)
            obtain ⟨z220, rfl, bz220, xz220, hMN219⟩ := hp
            rw [hMN219] at w
            refine z_if_eq (tgt := 169) hx hb (by omega) dX12_readsRule_152 (by decide) (fun c221 => ?_) (fun c221 => False.elim (by omega))
            refine lv_iload_n hx hb dX12_readsRule_169 rfl (lv_at hl 0 rfl) ?_
            refine lv_iconst (v := zI 3) hx hb dX12_readsRule_170 rfl ?_
            refine z_icmp_eq (tgt := 180) hx hb (by omega) (by omega) dX12_readsRule_171 (by decide) (fun c222 => ?_) (fun c222 => False.elim (by omega))
            refine lv_aload_n hx hb dX12_readsRule_180 rfl (lv_at hl 1 rfl) ?_
            refine f_12_17 F w (a := 146) rfl tb_676 dX12_readsRule_181 ?_
            refine lv_iconst (v := zI 4) hx hb dX12_readsRule_184 rfl ?_
            refine lv_aload_n hx hb dX12_readsRule_185 rfl (lv_at hl 1 rfl) ?_
            refine lv_bipush (v := zI 17) hx hb dX12_readsRule_186 (by decide) ?_
            refine lv_bipush (v := zI 18) hx hb dX12_readsRule_188 (by decide) ?_
            refine k_Vi F w (As := [.int (zI 17), .int (zI 18)]) (rest := [.int (zI 4), .ref (B + 153)]) (a := 146) (kd_lt (a := 146) (show kd 146 = (12, 0, 0) from rfl) (by decide)) (sh_12 rfl _ _) rfl (q_X12_needs (x := 17) ⟨by omega, by omega⟩ (x1 := 18) ⟨by omega, by omega⟩ (tk := nz2150) ((st_ne (Or.inl (by decide))).trans enz2150) ⟨by omega, by omega⟩ (nb := nz2151) ((st_ne (Or.inl (by decide))).trans enz2151) ⟨by omega, by omega⟩ (by omega) (IvR.to hIN214 (a := 153) (k := 2) (x := z215) (show ivr 153 2 = ((-99), 300) from rfl) ⟨by omega, by omega⟩ ⟨by decide, by decide, by decide, fun q9 => absurd q9 (by decide)⟩)) gv_X12_227 hv_X12_needs ⟨(Nat.le_of_ble_eq_true rfl), (Nat.le_of_ble_eq_true rfl)⟩ hl.1 rfl (Nat.le_of_ble_eq_true rfl) ⟨Nat.zero_le _, Nat.zero_le _⟩ dX12_readsRule_190 (fun r223 N224 H locs hp w => ?_)
            obtain ⟨z225, rfl, bz225, ⟨nz2250, nz2251, enz2250, enz2251, xz225⟩, hIN224, hFN224⟩ := hp
            have hGN224 := Fr.tr (Fr.to hGN214 (by first | decide | (dsimp only; first | done | decide | omega) | omega)) hFN224 (S := (fun b9 k9 => (b9 = 146 ∧ k9 = 11) ∨ (b9 = 146 ∧ k9 = 13) ∨ (b9 = 146 ∧ k9 = 14) ∨ (b9 = 146 ∧ k9 = 15) ∨ (b9 = 146 ∧ k9 = 16) ∨ (b9 = 146 ∧ k9 = 9) ∨ b9 = 153)) (fun b k h => by (try dsimp only at h ⊢); rcases h with ⟨rfl, rfl⟩ | ⟨rfl, rfl⟩ | ⟨rfl, rfl⟩ | ⟨rfl, rfl⟩ | ⟨rfl, rfl⟩ | ⟨rfl, rfl⟩ <;> first | decide | omega)
            have kn226 : N224.1 153 0 = zI 3 := (hFN224 153 0 (by first | decide | (dsimp only; first | done | decide | omega) | omega)).trans ((st_ne (Or.inr (by decide))).trans kn216)
            have kn227 : N224.1 153 2 = zI z215 := (hFN224 153 2 (by first | decide | (dsimp only; first | done | decide | omega) | omega)).trans (st_at)
            refine g_iast F w (a := 153) rfl (j := 4) ⟨by decide, by decide⟩ (by omega) dX12_readsRule_193 (fun H locs w => ?_)
            refine lv_iload_n hx hb dX12_readsRule_194 rfl (lv_at hl 0 rfl) ?_
            refine lv_iconst (v := zI 1) hx hb dX12_readsRule_195 rfl ?_
            refine z_icmp_ne (tgt := 209) hx hb (by omega) (by omega) dX12_readsRule_196 (by decide) (fun c228 => ?_) (fun c228 => False.elim (by omega))
            refine lv_aload_n hx hb dX12_readsRule_209 rfl (lv_at hl 1 rfl) ?_
            refine f_12_16 F w (a := 146) rfl tb_669 dX12_readsRule_210 ?_
            obtain ⟨z229, bz229, ez229⟩ := IvR.ld (k := 16) (IvR.to hIN224 (a := 153) (k := 4) (x := z225) (show ivr 153 4 = ((-99), 300) from rfl) ⟨by omega, by omega⟩ ⟨by decide, by decide, by decide, fun q9 => absurd q9 (by decide)⟩) (show ivr 146 16 = (0, 1) from rfl) (show 146 ≤ 146 ∧ 146 < 159 by decide)
            refine r_val ez229 ?_
            refine z_if_ne (tgt := 236) hx hb (by omega) dX12_readsRule_213 (by decide) (fun c230 => ?_) (fun c230 => ?_)
            · refine lv_aload_n hx hb dX12_readsRule_236 rfl (lv_at hl 1 rfl) ?_
              refine f_12_16 F w (a := 146) rfl tb_669 dX12_readsRule_237 ?_
              obtain ⟨z231, bz231, ez231⟩ := IvR.ld (k := 16) (IvR.to hIN224 (a := 153) (k := 4) (x := z225) (show ivr 153 4 = ((-99), 300) from rfl) ⟨by omega, by omega⟩ ⟨by decide, by decide, by decide, fun q9 => absurd q9 (by decide)⟩) (show ivr 146 16 = (0, 1) from rfl) (show 146 ≤ 146 ∧ 146 < 159 by decide)
              refine r_val ez231 ?_
              refine z_if_eq (tgt := 244) hx hb (by omega) dX12_readsRule_240 (by decide) (fun c232 => ?_) (fun c232 => ?_)
              · refine lv_aload_n hx hb dX12_readsRule_244 rfl (lv_at hl 1 rfl) ?_
                refine f_12_13 F w (a := 146) rfl tb_602 dX12_readsRule_245 ?_
                refine r_val (v := zI nz2250) ((st_ne (Or.inl (by decide))).trans enz2250) ?_
                refine lv_iconst (v := zI 3) hx hb dX12_readsRule_248 rfl ?_
                refine z_icmp_ne (tgt := 259) hx hb (by omega) (by omega) dX12_readsRule_249 (by decide) (fun c233 => ?_) (fun c233 => ?_)
                · refine lv_aload_n hx hb dX12_readsRule_259 rfl (lv_at hl 1 rfl) ?_
                  refine lv_iconst (v := zI 1) hx hb dX12_readsRule_260 rfl ?_
                  refine u_12_16 F w (a := 146) rfl (nar_z (by omega)) (fit_z (by omega)) tb_669 dX12_readsRule_261 (fun H locs w => ?_)
                  obtain ⟨z234, bz234, ez234⟩ := IvR.ld (k := 3) (IvR.to (IvR.to hIN224 (a := 153) (k := 4) (x := z225) (show ivr 153 4 = ((-99), 300) from rfl) ⟨by omega, by omega⟩ ⟨by decide, by decide, by decide, fun q9 => absurd q9 (by decide)⟩) (a := 146) (k := 16) (x := 1) (show ivr 146 16 = (0, 1) from rfl) ⟨by omega, by omega⟩ ⟨by decide, by decide, by decide, fun q9 => absurd q9 (by decide)⟩) (show ivr 153 3 = (-99, 300) from rfl) (by decide)
                  rw [hQ]
                  exact e_v F w hr hlocks ⟨⟨nz2250, nz2251, 1, ((st_ne (Or.inr (by decide))).trans ((st_ne (Or.inl (by decide))).trans enz2250)), ((st_ne (Or.inr (by decide))).trans ((st_ne (Or.inl (by decide))).trans enz2251)), (st_at), ⟨by omega, by omega⟩, ⟨by omega, by omega⟩, ⟨by omega, by omega⟩, (by omega)⟩, (fun h8 => by have h9 := (zI_eq (a := 3) (b := 8) (by constructor <;> omega) (by constructor <;> omega)).mp (((st_ne (Or.inl (by decide))).trans ((st_ne (Or.inr (by decide))).trans kn226)).symm.trans h8); exact ⟨z234, by omega, by omega, ez234⟩), (IvR.to (IvR.to hIN224 (a := 153) (k := 4) (x := z225) (show ivr 153 4 = ((-99), 300) from rfl) ⟨by omega, by omega⟩ ⟨by decide, by decide, by decide, fun q9 => absurd q9 (by decide)⟩) (a := 146) (k := 16) (x := 1) (show ivr 146 16 = (0, 1) from rfl) ⟨by omega, by omega⟩ ⟨by decide, by decide, by decide, fun q9 => absurd q9 (by decide)⟩), (Fr.to (Fr.to hGN224 (by first | decide | (dsimp only; first | done | decide | omega) | omega)) (by first | decide | (dsimp only; first | done | decide | omega) | omega))⟩ dX12_readsRule_264
                · refine lv_aload_n hx hb dX12_readsRule_252 rfl (lv_at hl 1 rfl) ?_
                  refine k_Vv F w (As := []) (rest := []) (a := 146) (kd_lt (a := 146) (show kd 146 = (12, 0, 0) from rfl) (by decide)) (sh_12 rfl _ _) rfl (q_X12_goesOn   (IvR.to hIN224 (a := 153) (k := 4) (x := z225) (show ivr 153 4 = ((-99), 300) from rfl) ⟨by omega, by omega⟩ ⟨by decide, by decide, by decide, fun q9 => absurd q9 (by decide)⟩)) gv_X12_221 hv_X12_goesOn ⟨(Nat.le_of_ble_eq_true rfl), (Nat.le_of_ble_eq_true rfl)⟩ hl.1 rfl (Nat.le_of_ble_eq_true rfl) ⟨Nat.zero_le _, Nat.zero_le _⟩ dX12_readsRule_253 (fun N236 H locs hp w => ?_)
                  obtain ⟨⟨nz2370, nz2371, enz2370, enz2371, xz237⟩, hIN236, hFN236⟩ := hp
                  have hGN236 := Fr.tr (Fr.to hGN224 (by first | decide | (dsimp only; first | done | decide | omega) | omega)) hFN236 (S := (fun b9 k9 => (b9 = 146 ∧ k9 = 11) ∨ (b9 = 146 ∧ k9 = 13) ∨ (b9 = 146 ∧ k9 = 14) ∨ (b9 = 146 ∧ k9 = 15) ∨ (b9 = 146 ∧ k9 = 16) ∨ (b9 = 146 ∧ k9 = 9) ∨ b9 = 153)) (fun b k h => by (try dsimp only at h ⊢); rcases h with ⟨rfl, rfl⟩ | ⟨rfl, rfl⟩ | ⟨rfl, rfl⟩ | ⟨rfl, rfl⟩ | ⟨rfl, rfl⟩ <;> first | decide | omega)
                  have kn238 : N236.1 153 0 = zI 3 := (hFN236 153 0 (by first | decide | (dsimp only; first | done | decide | omega) | omega)).trans ((st_ne (Or.inr (by decide))).trans kn226)
                  have kn239 : N236.1 153 2 = zI z215 := (hFN236 153 2 (by first | decide | (dsimp only; first | done | decide | omega) | omega)).trans ((st_ne (Or.inr (by decide))).trans kn227)
                  have kn240 : N236.1 153 4 = zI z225 := (hFN236 153 4 (by first | decide | (dsimp only; first | done | decide | omega) | omega)).trans (st_at)
                  refine lv_goto (tgt := 264) hx hb dX12_readsRule_256 (by decide) ?_
                  obtain ⟨z241, bz241, ez241⟩ := IvR.ld (k := 16) hIN236 (show ivr 146 16 = (0, 1) from rfl) (show 146 ≤ 146 ∧ 146 < 159 by decide)
                  obtain ⟨z242, bz242, ez242⟩ := IvR.ld (k := 3) hIN236 (show ivr 153 3 = (-99, 300) from rfl) (by decide)
                  rw [hQ]
                  exact e_v F w hr hlocks ⟨⟨nz2370, nz2371, z241, (enz2370), (enz2371), (ez241), ⟨by omega, by omega⟩, ⟨by omega, by omega⟩, ⟨by omega, by omega⟩, (by omega)⟩, (fun h8 => by have h9 := (zI_eq (a := 3) (b := 8) (by constructor <;> omega) (by constructor <;> omega)).mp ((kn238).symm.trans h8); exact ⟨z242, by omega, by omega, ez242⟩), hIN236, hGN236⟩ dX12_readsRule_264
              · obtain ⟨z243, bz243, ez243⟩ := IvR.ld (k := 16) (IvR.to hIN224 (a := 153) (k := 4) (x := z225) (show ivr 153 4 = ((-99), 300) from rfl) ⟨by omega, by omega⟩ ⟨by decide, by decide, by decide, fun q9 => absurd q9 (by decide)⟩) (show ivr 146 16 = (0, 1) from rfl) (show 146 ≤ 146 ∧ 146 < 159 by decide)
                obtain ⟨z244, bz244, ez244⟩ := IvR.ld (k := 3) (IvR.to hIN224 (a := 153) (k := 4) (x := z225) (show ivr 153 4 = ((-99), 300) from rfl) ⟨by omega, by omega⟩ ⟨by decide, by decide, by decide, fun q9 => absurd q9 (by decide)⟩) (show ivr 153 3 = (-99, 300) from rfl) (by decide)
                rw [hQ]
                exact e_v F w hr hlocks ⟨⟨nz2250, nz2251, z243, ((st_ne (Or.inl (by decide))).trans enz2250), ((st_ne (Or.inl (by decide))).trans enz2251), (ez243), ⟨by omega, by omega⟩, ⟨by omega, by omega⟩, ⟨by omega, by omega⟩, (by omega)⟩, (fun h8 => by have h9 := (zI_eq (a := 3) (b := 8) (by constructor <;> omega) (by constructor <;> omega)).mp (((st_ne (Or.inr (by decide))).trans kn226).symm.trans h8); exact ⟨z244, by omega, by omega, ez244⟩), (IvR.to hIN224 (a := 153) (k := 4) (x := z225) (show ivr 153 4 = ((-99), 300) from rfl) ⟨by omega, by omega⟩ ⟨by decide, by decide, by decide, fun q9 => absurd q9 (by decide)⟩), (Fr.to hGN224 (by first | decide | (dsimp only; first | done | decide | omega) | omega))⟩ dX12_readsRule_243
            · refine lv_iload_n hx hb dX12_readsRule_216 rfl (lv_at hl 0 rfl) ?_
              refine k_Si F w (As := [.int (zI 3)]) (rest := []) (q_X12_isBySyllables (x := 3) ⟨by omega, by omega⟩  (IvR.to hIN224 (a := 153) (k := 4) (x := z225) (show ivr 153 4 = ((-99), 300) from rfl) ⟨by omega, by omega⟩ ⟨by decide, by decide, by decide, fun q9 => absurd q9 (by decide)⟩)) gs_X12_140 hs_X12_isBySyllables ⟨(Nat.le_of_ble_eq_true rfl), (Nat.le_of_ble_eq_true rfl)⟩ hl.1 rfl (Nat.le_of_ble_eq_true rfl) ⟨Nat.zero_le _, Nat.zero_le _⟩ dX12_readsRule_217 (fun r245 N246 H locs hp w => ?_)
              obtain ⟨z247, rfl, bz247, xz247, hMN246⟩ := hp
              rw [hMN246] at w
              refine z_if_ne (tgt := 236) hx hb (by omega) dX12_readsRule_220 (by decide) (fun c248 => False.elim (by omega)) (fun c248 => ?_)
              refine lv_aload_n hx hb dX12_readsRule_223 rfl (lv_at hl 1 rfl) ?_
              refine lv_bipush (v := zI 20) hx hb dX12_readsRule_224 (by decide) ?_
              refine k_Vi F w (As := [.int (zI 20)]) (rest := []) (a := 146) (kd_lt (a := 146) (show kd 146 = (12, 0, 0) from rfl) (by decide)) (sh_12 rfl _ _) rfl (q_X12_isWord (x := 20) ⟨by omega, by omega⟩  (IvR.to hIN224 (a := 153) (k := 4) (x := z225) (show ivr 153 4 = ((-99), 300) from rfl) ⟨by omega, by omega⟩ ⟨by decide, by decide, by decide, fun q9 => absurd q9 (by decide)⟩)) gv_X12_224 hv_X12_isWord ⟨(Nat.le_of_ble_eq_true rfl), (Nat.le_of_ble_eq_true rfl)⟩ hl.1 rfl (Nat.le_of_ble_eq_true rfl) ⟨Nat.zero_le _, Nat.zero_le _⟩ dX12_readsRule_226 (fun r249 N250 H locs hp w => ?_)
              obtain ⟨z251, rfl, bz251, hMN250⟩ := hp
              rw [hMN250] at w
              refine z_if_eq (tgt := 236) hx hb (by omega) dX12_readsRule_229 (by decide) (fun c252 => ?_) (fun c252 => ?_)
              · refine lv_aload_n hx hb dX12_readsRule_236 rfl (lv_at hl 1 rfl) ?_
                refine f_12_16 F w (a := 146) rfl tb_669 dX12_readsRule_237 ?_
                obtain ⟨z253, bz253, ez253⟩ := IvR.ld (k := 16) (IvR.to hIN224 (a := 153) (k := 4) (x := z225) (show ivr 153 4 = ((-99), 300) from rfl) ⟨by omega, by omega⟩ ⟨by decide, by decide, by decide, fun q9 => absurd q9 (by decide)⟩) (show ivr 146 16 = (0, 1) from rfl) (show 146 ≤ 146 ∧ 146 < 159 by decide)
                refine r_val ez253 ?_
                refine z_if_eq (tgt := 244) hx hb (by omega) dX12_readsRule_240 (by decide) (fun c254 => ?_) (fun c254 => ?_)
                · refine lv_aload_n hx hb dX12_readsRule_244 rfl (lv_at hl 1 rfl) ?_
                  refine f_12_13 F w (a := 146) rfl tb_602 dX12_readsRule_245 ?_
                  refine r_val (v := zI nz2250) ((st_ne (Or.inl (by decide))).trans enz2250) ?_
                  refine lv_iconst (v := zI 3) hx hb dX12_readsRule_248 rfl ?_
                  refine z_icmp_ne (tgt := 259) hx hb (by omega) (by omega) dX12_readsRule_249 (by decide) (fun c255 => ?_) (fun c255 => ?_)
                  · refine lv_aload_n hx hb dX12_readsRule_259 rfl (lv_at hl 1 rfl) ?_
                    refine lv_iconst (v := zI 1) hx hb dX12_readsRule_260 rfl ?_
                    refine u_12_16 F w (a := 146) rfl (nar_z (by omega)) (fit_z (by omega)) tb_669 dX12_readsRule_261 (fun H locs w => ?_)
                    obtain ⟨z256, bz256, ez256⟩ := IvR.ld (k := 3) (IvR.to (IvR.to hIN224 (a := 153) (k := 4) (x := z225) (show ivr 153 4 = ((-99), 300) from rfl) ⟨by omega, by omega⟩ ⟨by decide, by decide, by decide, fun q9 => absurd q9 (by decide)⟩) (a := 146) (k := 16) (x := 1) (show ivr 146 16 = (0, 1) from rfl) ⟨by omega, by omega⟩ ⟨by decide, by decide, by decide, fun q9 => absurd q9 (by decide)⟩) (show ivr 153 3 = (-99, 300) from rfl) (by decide)
                    rw [hQ]
                    exact e_v F w hr hlocks ⟨⟨nz2250, nz2251, 1, ((st_ne (Or.inr (by decide))).trans ((st_ne (Or.inl (by decide))).trans enz2250)), ((st_ne (Or.inr (by decide))).trans ((st_ne (Or.inl (by decide))).trans enz2251)), (st_at), ⟨by omega, by omega⟩, ⟨by omega, by omega⟩, ⟨by omega, by omega⟩, (by omega)⟩, (fun h8 => by have h9 := (zI_eq (a := 3) (b := 8) (by constructor <;> omega) (by constructor <;> omega)).mp (((st_ne (Or.inl (by decide))).trans ((st_ne (Or.inr (by decide))).trans kn226)).symm.trans h8); exact ⟨z256, by omega, by omega, ez256⟩), (IvR.to (IvR.to hIN224 (a := 153) (k := 4) (x := z225) (show ivr 153 4 = ((-99), 300) from rfl) ⟨by omega, by omega⟩ ⟨by decide, by decide, by decide, fun q9 => absurd q9 (by decide)⟩) (a := 146) (k := 16) (x := 1) (show ivr 146 16 = (0, 1) from rfl) ⟨by omega, by omega⟩ ⟨by decide, by decide, by decide, fun q9 => absurd q9 (by decide)⟩), (Fr.to (Fr.to hGN224 (by first | decide | (dsimp only; first | done | decide | omega) | omega)) (by first | decide | (dsimp only; first | done | decide | omega) | omega))⟩ dX12_readsRule_264
                  · refine lv_aload_n hx hb dX12_readsRule_252 rfl (lv_at hl 1 rfl) ?_
                    refine k_Vv F w (As := []) (rest := []) (a := 146) (kd_lt (a := 146) (show kd 146 = (12, 0, 0) from rfl) (by decide)) (sh_12 rfl _ _) rfl (q_X12_goesOn   (IvR.to hIN224 (a := 153) (k := 4) (x := z225) (show ivr 153 4 = ((-99), 300) from rfl) ⟨by omega, by omega⟩ ⟨by decide, by decide, by decide, fun q9 => absurd q9 (by decide)⟩)) gv_X12_221 hv_X12_goesOn ⟨(Nat.le_of_ble_eq_true rfl), (Nat.le_of_ble_eq_true rfl)⟩ hl.1 rfl (Nat.le_of_ble_eq_true rfl) ⟨Nat.zero_le _, Nat.zero_le _⟩ dX12_readsRule_253 (fun N258 H locs hp w => ?_)
                    obtain ⟨⟨nz2590, nz2591, enz2590, enz2591, xz259⟩, hIN258, hFN258⟩ := hp
                    have hGN258 := Fr.tr (Fr.to hGN224 (by first | decide | (dsimp only; first | done | decide | omega) | omega)) hFN258 (S := (fun b9 k9 => (b9 = 146 ∧ k9 = 11) ∨ (b9 = 146 ∧ k9 = 13) ∨ (b9 = 146 ∧ k9 = 14) ∨ (b9 = 146 ∧ k9 = 15) ∨ (b9 = 146 ∧ k9 = 16) ∨ (b9 = 146 ∧ k9 = 9) ∨ b9 = 153)) (fun b k h => by (try dsimp only at h ⊢); rcases h with ⟨rfl, rfl⟩ | ⟨rfl, rfl⟩ | ⟨rfl, rfl⟩ | ⟨rfl, rfl⟩ | ⟨rfl, rfl⟩ <;> first | decide | omega)
                    have kn260 : N258.1 153 0 = zI 3 := (hFN258 153 0 (by first | decide | (dsimp only; first | done | decide | omega) | omega)).trans ((st_ne (Or.inr (by decide))).trans kn226)
                    have kn261 : N258.1 153 2 = zI z215 := (hFN258 153 2 (by first | decide | (dsimp only; first | done | decide | omega) | omega)).trans ((st_ne (Or.inr (by decide))).trans kn227)
                    have kn262 : N258.1 153 4 = zI z225 := (hFN258 153 4 (by first | decide | (dsimp only; first | done | decide | omega) | omega)).trans (st_at)
                    refine lv_goto (tgt := 264) hx hb dX12_readsRule_256 (by decide) ?_
                    obtain ⟨z263, bz263, ez263⟩ := IvR.ld (k := 16) hIN258 (show ivr 146 16 = (0, 1) from rfl) (show 146 ≤ 146 ∧ 146 < 159 by decide)
                    obtain ⟨z264, bz264, ez264⟩ := IvR.ld (k := 3) hIN258 (show ivr 153 3 = (-99, 300) from rfl) (by decide)
                    rw [hQ]
                    exact e_v F w hr hlocks ⟨⟨nz2590, nz2591, z263, (enz2590), (enz2591), (ez263), ⟨by omega, by omega⟩, ⟨by omega, by omega⟩, ⟨by omega, by omega⟩, (by omega)⟩, (fun h8 => by have h9 := (zI_eq (a := 3) (b := 8) (by constructor <;> omega) (by constructor <;> omega)).mp ((kn260).symm.trans h8); exact ⟨z264, by omega, by omega, ez264⟩), hIN258, hGN258⟩ dX12_readsRule_264
                · obtain ⟨z265, bz265, ez265⟩ := IvR.ld (k := 16) (IvR.to hIN224 (a := 153) (k := 4) (x := z225) (show ivr 153 4 = ((-99), 300) from rfl) ⟨by omega, by omega⟩ ⟨by decide, by decide, by decide, fun q9 => absurd q9 (by decide)⟩) (show ivr 146 16 = (0, 1) from rfl) (show 146 ≤ 146 ∧ 146 < 159 by decide)
                  obtain ⟨z266, bz266, ez266⟩ := IvR.ld (k := 3) (IvR.to hIN224 (a := 153) (k := 4) (x := z225) (show ivr 153 4 = ((-99), 300) from rfl) ⟨by omega, by omega⟩ ⟨by decide, by decide, by decide, fun q9 => absurd q9 (by decide)⟩) (show ivr 153 3 = (-99, 300) from rfl) (by decide)
                  rw [hQ]
                  exact e_v F w hr hlocks ⟨⟨nz2250, nz2251, z265, ((st_ne (Or.inl (by decide))).trans enz2250), ((st_ne (Or.inl (by decide))).trans enz2251), (ez265), ⟨by omega, by omega⟩, ⟨by omega, by omega⟩, ⟨by omega, by omega⟩, (by omega)⟩, (fun h8 => by have h9 := (zI_eq (a := 3) (b := 8) (by constructor <;> omega) (by constructor <;> omega)).mp (((st_ne (Or.inr (by decide))).trans kn226).symm.trans h8); exact ⟨z266, by omega, by omega, ez266⟩), (IvR.to hIN224 (a := 153) (k := 4) (x := z225) (show ivr 153 4 = ((-99), 300) from rfl) ⟨by omega, by omega⟩ ⟨by decide, by decide, by decide, fun q9 => absurd q9 (by decide)⟩), (Fr.to hGN224 (by first | decide | (dsimp only; first | done | decide | omega) | omega))⟩ dX12_readsRule_243
              · refine lv_aload_n hx hb dX12_readsRule_232 rfl (lv_at hl 1 rfl) ?_
                refine k_Vv F w (As := []) (rest := []) (a := 146) (kd_lt (a := 146) (show kd 146 = (12, 0, 0) from rfl) (by decide)) (sh_12 rfl _ _) rfl (q_X12_readsTest   (IvR.to hIN224 (a := 153) (k := 4) (x := z225) (show ivr 153 4 = ((-99), 300) from rfl) ⟨by omega, by omega⟩ ⟨by decide, by decide, by decide, fun q9 => absurd q9 (by decide)⟩)) gv_X12_233 hv_X12_readsTest ⟨(Nat.le_of_ble_eq_true rfl), (Nat.le_of_ble_eq_true rfl)⟩ hl.1 rfl (Nat.le_of_ble_eq_true rfl) ⟨Nat.zero_le _, Nat.zero_le _⟩ dX12_readsRule_233 (fun N268 H locs hp w => ?_)
                obtain ⟨⟨nz2690, nz2691, enz2690, enz2691, xz269⟩, hIN268, hFN268⟩ := hp
                have hGN268 := Fr.tr (Fr.to hGN224 (by first | decide | (dsimp only; first | done | decide | omega) | omega)) hFN268 (S := (fun b9 k9 => (b9 = 146 ∧ k9 = 11) ∨ (b9 = 146 ∧ k9 = 13) ∨ (b9 = 146 ∧ k9 = 14) ∨ (b9 = 146 ∧ k9 = 15) ∨ (b9 = 146 ∧ k9 = 16) ∨ (b9 = 146 ∧ k9 = 9) ∨ b9 = 153)) (fun b k h => by (try dsimp only at h ⊢); rcases h with ⟨rfl, rfl⟩ | ⟨rfl, rfl⟩ | ⟨rfl, rfl⟩ | ⟨rfl, rfl⟩ | ⟨rfl, rfl⟩ | ⟨rfl, rfl⟩ | ⟨rfl, q1, q2⟩ | ⟨rfl, q1, q2⟩ | ⟨rfl, q1, q2⟩ <;> first | decide | omega)
                have kn270 : N268.1 153 0 = zI 3 := (hFN268 153 0 (by first | decide | (dsimp only; first | done | decide | omega) | omega)).trans ((st_ne (Or.inr (by decide))).trans kn226)
                have kn271 : N268.1 153 2 = zI z215 := (hFN268 153 2 (by first | decide | (dsimp only; first | done | decide | omega) | omega)).trans ((st_ne (Or.inr (by decide))).trans kn227)
                have kn272 : N268.1 153 4 = zI z225 := (hFN268 153 4 (by first | decide | (dsimp only; first | done | decide | omega) | omega)).trans (st_at)
                refine lv_aload_n hx hb dX12_readsRule_236 rfl (lv_at hl 1 rfl) ?_
                refine f_12_16 F w (a := 146) rfl tb_669 dX12_readsRule_237 ?_
                obtain ⟨z273, bz273, ez273⟩ := IvR.ld (k := 16) hIN268 (show ivr 146 16 = (0, 1) from rfl) (show 146 ≤ 146 ∧ 146 < 159 by decide)
                refine r_val ez273 ?_
                refine z_if_eq (tgt := 244) hx hb (by omega) dX12_readsRule_240 (by decide) (fun c274 => ?_) (fun c274 => ?_)
                · refine lv_aload_n hx hb dX12_readsRule_244 rfl (lv_at hl 1 rfl) ?_
                  refine f_12_13 F w (a := 146) rfl tb_602 dX12_readsRule_245 ?_
                  refine r_val (v := zI nz2690) (enz2690) ?_
                  refine lv_iconst (v := zI 3) hx hb dX12_readsRule_248 rfl ?_
                  refine z_icmp_ne (tgt := 259) hx hb (by omega) (by omega) dX12_readsRule_249 (by decide) (fun c275 => ?_) (fun c275 => ?_)
                  · refine lv_aload_n hx hb dX12_readsRule_259 rfl (lv_at hl 1 rfl) ?_
                    refine lv_iconst (v := zI 1) hx hb dX12_readsRule_260 rfl ?_
                    refine u_12_16 F w (a := 146) rfl (nar_z (by omega)) (fit_z (by omega)) tb_669 dX12_readsRule_261 (fun H locs w => ?_)
                    obtain ⟨z276, bz276, ez276⟩ := IvR.ld (k := 3) (IvR.to hIN268 (a := 146) (k := 16) (x := 1) (show ivr 146 16 = (0, 1) from rfl) ⟨by omega, by omega⟩ ⟨by decide, by decide, by decide, fun q9 => absurd q9 (by decide)⟩) (show ivr 153 3 = (-99, 300) from rfl) (by decide)
                    rw [hQ]
                    exact e_v F w hr hlocks ⟨⟨nz2690, nz2691, 1, ((st_ne (Or.inr (by decide))).trans enz2690), ((st_ne (Or.inr (by decide))).trans enz2691), (st_at), ⟨by omega, by omega⟩, ⟨by omega, by omega⟩, ⟨by omega, by omega⟩, (by omega)⟩, (fun h8 => by have h9 := (zI_eq (a := 3) (b := 8) (by constructor <;> omega) (by constructor <;> omega)).mp (((st_ne (Or.inl (by decide))).trans kn270).symm.trans h8); exact ⟨z276, by omega, by omega, ez276⟩), (IvR.to hIN268 (a := 146) (k := 16) (x := 1) (show ivr 146 16 = (0, 1) from rfl) ⟨by omega, by omega⟩ ⟨by decide, by decide, by decide, fun q9 => absurd q9 (by decide)⟩), (Fr.to hGN268 (by first | decide | (dsimp only; first | done | decide | omega) | omega))⟩ dX12_readsRule_264
                  · refine lv_aload_n hx hb dX12_readsRule_252 rfl (lv_at hl 1 rfl) ?_
                    refine k_Vv F w (As := []) (rest := []) (a := 146) (kd_lt (a := 146) (show kd 146 = (12, 0, 0) from rfl) (by decide)) (sh_12 rfl _ _) rfl (q_X12_goesOn   hIN268) gv_X12_221 hv_X12_goesOn ⟨(Nat.le_of_ble_eq_true rfl), (Nat.le_of_ble_eq_true rfl)⟩ hl.1 rfl (Nat.le_of_ble_eq_true rfl) ⟨Nat.zero_le _, Nat.zero_le _⟩ dX12_readsRule_253 (fun N278 H locs hp w => ?_)
                    obtain ⟨⟨nz2790, nz2791, enz2790, enz2791, xz279⟩, hIN278, hFN278⟩ := hp
                    have hGN278 := Fr.tr hGN268 hFN278 (S := (fun b9 k9 => (b9 = 146 ∧ k9 = 11) ∨ (b9 = 146 ∧ k9 = 13) ∨ (b9 = 146 ∧ k9 = 14) ∨ (b9 = 146 ∧ k9 = 15) ∨ (b9 = 146 ∧ k9 = 16) ∨ (b9 = 146 ∧ k9 = 9) ∨ b9 = 153)) (fun b k h => by (try dsimp only at h ⊢); rcases h with ⟨rfl, rfl⟩ | ⟨rfl, rfl⟩ | ⟨rfl, rfl⟩ | ⟨rfl, rfl⟩ | ⟨rfl, rfl⟩ <;> first | decide | omega)
                    have kn280 : N278.1 153 0 = zI 3 := (hFN278 153 0 (by first | decide | (dsimp only; first | done | decide | omega) | omega)).trans (kn270)
                    have kn281 : N278.1 153 2 = zI z215 := (hFN278 153 2 (by first | decide | (dsimp only; first | done | decide | omega) | omega)).trans (kn271)
                    have kn282 : N278.1 153 4 = zI z225 := (hFN278 153 4 (by first | decide | (dsimp only; first | done | decide | omega) | omega)).trans (kn272)
                    have kn283 : N278.1 146 16 = zI z273 := (hFN278 146 16 (by first | decide | (dsimp only; first | done | decide | omega) | omega)).trans (ez273)
                    refine lv_goto (tgt := 264) hx hb dX12_readsRule_256 (by decide) ?_
                    obtain ⟨z284, bz284, ez284⟩ := IvR.ld (k := 3) hIN278 (show ivr 153 3 = (-99, 300) from rfl) (by decide)
                    rw [hQ]
                    exact e_v F w hr hlocks ⟨⟨nz2790, nz2791, z273, (enz2790), (enz2791), (kn283), ⟨by omega, by omega⟩, ⟨by omega, by omega⟩, ⟨by omega, by omega⟩, (by omega)⟩, (fun h8 => by have h9 := (zI_eq (a := 3) (b := 8) (by constructor <;> omega) (by constructor <;> omega)).mp ((kn280).symm.trans h8); exact ⟨z284, by omega, by omega, ez284⟩), hIN278, hGN278⟩ dX12_readsRule_264
                · obtain ⟨z285, bz285, ez285⟩ := IvR.ld (k := 3) hIN268 (show ivr 153 3 = (-99, 300) from rfl) (by decide)
                  rw [hQ]
                  exact e_v F w hr hlocks ⟨⟨nz2690, nz2691, z273, (enz2690), (enz2691), (ez273), ⟨by omega, by omega⟩, ⟨by omega, by omega⟩, ⟨by omega, by omega⟩, (by omega)⟩, (fun h8 => by have h9 := (zI_eq (a := 3) (b := 8) (by constructor <;> omega) (by constructor <;> omega)).mp ((kn270).symm.trans h8); exact ⟨z285, by omega, by omega, ez285⟩), hIN268, hGN268⟩ dX12_readsRule_243
          · refine lv_istore_n (lv' := [(1, .int (zI 4)), (0, .ref (B + 146))]) hx hb dX12_readsRule_63 rfl hl (by decide) rfl (fun ls hl => ?_)
            refine lv_aload_n hx hb dX12_readsRule_64 rfl (lv_at hl 1 rfl) ?_
            refine f_12_17 F w (a := 146) rfl tb_676 dX12_readsRule_65 ?_
            refine lv_iconst (v := zI 0) hx hb dX12_readsRule_68 rfl ?_
            refine lv_iload_n hx hb dX12_readsRule_69 rfl (lv_at hl 0 rfl) ?_
            refine g_iast F w (a := 153) rfl (j := 0) ⟨by decide, by decide⟩ (by omega) dX12_readsRule_70 (fun H locs w => ?_)
            refine lv_iload_n hx hb dX12_readsRule_71 rfl (lv_at hl 0 rfl) ?_
            refine lv_bipush (v := zI 8) hx hb dX12_readsRule_72 (by decide) ?_
            refine z_icmp_ne (tgt := 90) hx hb (by omega) (by omega) dX12_readsRule_74 (by decide) (fun c286 => ?_) (fun c286 => False.elim (by omega))
            refine lv_iload_n hx hb dX12_readsRule_90 rfl (lv_at hl 0 rfl) ?_
            refine z_if_eq (tgt := 119) hx hb (by omega) dX12_readsRule_91 (by decide) (fun c287 => False.elim (by omega)) (fun c287 => ?_)
            refine lv_aload_n hx hb dX12_readsRule_94 rfl (lv_at hl 1 rfl) ?_
            refine f_12_17 F w (a := 146) rfl tb_676 dX12_readsRule_95 ?_
            refine lv_iconst (v := zI 2) hx hb dX12_readsRule_98 rfl ?_
            refine lv_aload_n hx hb dX12_readsRule_99 rfl (lv_at hl 1 rfl) ?_
            refine lv_bipush (v := zI 11) hx hb dX12_readsRule_100 (by decide) ?_
            refine lv_iload_n hx hb dX12_readsRule_102 rfl (lv_at hl 0 rfl) ?_
            refine lv_bipush (v := zI 9) hx hb dX12_readsRule_103 (by decide) ?_
            refine z_icmp_ne (tgt := 113) hx hb (by omega) (by omega) dX12_readsRule_105 (by decide) (fun c288 => ?_) (fun c288 => False.elim (by omega))
            refine lv_bipush (v := zI 14) hx hb dX12_readsRule_113 (by decide) ?_
            refine k_Vi F w (As := [.int (zI 11), .int (zI 14)]) (rest := [.int (zI 2), .ref (B + 153)]) (a := 146) (kd_lt (a := 146) (show kd 146 = (12, 0, 0) from rfl) (by decide)) (sh_12 rfl _ _) rfl (q_X12_needs (x := 11) ⟨by omega, by omega⟩ (x1 := 14) ⟨by omega, by omega⟩ (tk := nz80) ((st_ne (Or.inl (by decide))).trans enz80) ⟨by omega, by omega⟩ (nb := nz81) ((st_ne (Or.inl (by decide))).trans enz81) ⟨by omega, by omega⟩ (by omega) (IvR.to hIN7 (a := 153) (k := 0) (x := 4) (show ivr 153 0 = ((-99), 300) from rfl) ⟨by omega, by omega⟩ ⟨by decide, by decide, by decide, fun q9 => absurd q9 (by decide)⟩)) gv_X12_227 hv_X12_needs ⟨(Nat.le_of_ble_eq_true rfl), (Nat.le_of_ble_eq_true rfl)⟩ hl.1 rfl (Nat.le_of_ble_eq_true rfl) ⟨Nat.zero_le _, Nat.zero_le _⟩ dX12_readsRule_115 (fun r289 N290 H locs hp w => ?_)
            obtain ⟨z291, rfl, bz291, ⟨nz2910, nz2911, enz2910, enz2911, xz291⟩, hIN290, hFN290⟩ := hp
            have hGN290 := Fr.tr (Fr.to hGN7 (by first | decide | (dsimp only; first | done | decide | omega) | omega)) hFN290 (S := (fun b9 k9 => (b9 = 146 ∧ k9 = 11) ∨ (b9 = 146 ∧ k9 = 13) ∨ (b9 = 146 ∧ k9 = 14) ∨ (b9 = 146 ∧ k9 = 15) ∨ (b9 = 146 ∧ k9 = 16) ∨ (b9 = 146 ∧ k9 = 9) ∨ b9 = 153)) (fun b k h => by (try dsimp only at h ⊢); rcases h with ⟨rfl, rfl⟩ | ⟨rfl, rfl⟩ | ⟨rfl, rfl⟩ | ⟨rfl, rfl⟩ | ⟨rfl, rfl⟩ | ⟨rfl, rfl⟩ <;> first | decide | omega)
            have kn292 : N290.1 153 0 = zI 4 := (hFN290 153 0 (by first | decide | (dsimp only; first | done | decide | omega) | omega)).trans (st_at)
            refine g_iast F w (a := 153) rfl (j := 2) ⟨by decide, by decide⟩ (by omega) dX12_readsRule_118 (fun H locs w => ?_)
            refine lv_iload_n hx hb dX12_readsRule_119 rfl (lv_at hl 0 rfl) ?_
            refine lv_bipush (v := zI 7) hx hb dX12_readsRule_120 (by decide) ?_
            refine z_icmp_ne (tgt := 148) hx hb (by omega) (by omega) dX12_readsRule_122 (by decide) (fun c293 => ?_) (fun c293 => False.elim (by omega))
            refine lv_iload_n hx hb dX12_readsRule_148 rfl (lv_at hl 0 rfl) ?_
            refine k_Si F w (As := [.int (zI 4)]) (rest := []) (q_X12_hasSide (x := 4) ⟨by omega, by omega⟩  (IvR.to hIN290 (a := 153) (k := 2) (x := z291) (show ivr 153 2 = ((-99), 300) from rfl) ⟨by omega, by omega⟩ ⟨by decide, by decide, by decide, fun q9 => absurd q9 (by decide)⟩)) gs_X12_137 hs_X12_hasSide ⟨(Nat.le_of_ble_eq_true rfl), (Nat.le_of_ble_eq_true rfl)⟩ hl.1 rfl (Nat.le_of_ble_eq_true rfl) ⟨Nat.zero_le _, Nat.zero_le _⟩ dX12_readsRule_149 (fun r294 N295 H locs hp w => ?_)
            obtain ⟨z296, rfl, bz296, xz296, hMN295⟩ := hp
            rw [hMN295] at w
            refine z_if_eq (tgt := 169) hx hb (by omega) dX12_readsRule_152 (by decide) (fun c297 => False.elim (by omega)) (fun c297 => ?_)
            refine lv_aload_n hx hb dX12_readsRule_155 rfl (lv_at hl 1 rfl) ?_
            refine f_12_17 F w (a := 146) rfl tb_676 dX12_readsRule_156 ?_
            refine lv_iconst (v := zI 4) hx hb dX12_readsRule_159 rfl ?_
            refine lv_aload_n hx hb dX12_readsRule_160 rfl (lv_at hl 1 rfl) ?_
            refine lv_bipush (v := zI 15) hx hb dX12_readsRule_161 (by decide) ?_
            refine lv_bipush (v := zI 16) hx hb dX12_readsRule_163 (by decide) ?_
            refine k_Vi F w (As := [.int (zI 15), .int (zI 16)]) (rest := [.int (zI 4), .ref (B + 153)]) (a := 146) (kd_lt (a := 146) (show kd 146 = (12, 0, 0) from rfl) (by decide)) (sh_12 rfl _ _) rfl (q_X12_needs (x := 15) ⟨by omega, by omega⟩ (x1 := 16) ⟨by omega, by omega⟩ (tk := nz2910) ((st_ne (Or.inl (by decide))).trans enz2910) ⟨by omega, by omega⟩ (nb := nz2911) ((st_ne (Or.inl (by decide))).trans enz2911) ⟨by omega, by omega⟩ (by omega) (IvR.to hIN290 (a := 153) (k := 2) (x := z291) (show ivr 153 2 = ((-99), 300) from rfl) ⟨by omega, by omega⟩ ⟨by decide, by decide, by decide, fun q9 => absurd q9 (by decide)⟩)) gv_X12_227 hv_X12_needs ⟨(Nat.le_of_ble_eq_true rfl), (Nat.le_of_ble_eq_true rfl)⟩ hl.1 rfl (Nat.le_of_ble_eq_true rfl) ⟨Nat.zero_le _, Nat.zero_le _⟩ dX12_readsRule_165 (fun r298 N299 H locs hp w => ?_)
            obtain ⟨z300, rfl, bz300, ⟨nz3000, nz3001, enz3000, enz3001, xz300⟩, hIN299, hFN299⟩ := hp
            have hGN299 := Fr.tr (Fr.to hGN290 (by first | decide | (dsimp only; first | done | decide | omega) | omega)) hFN299 (S := (fun b9 k9 => (b9 = 146 ∧ k9 = 11) ∨ (b9 = 146 ∧ k9 = 13) ∨ (b9 = 146 ∧ k9 = 14) ∨ (b9 = 146 ∧ k9 = 15) ∨ (b9 = 146 ∧ k9 = 16) ∨ (b9 = 146 ∧ k9 = 9) ∨ b9 = 153)) (fun b k h => by (try dsimp only at h ⊢); rcases h with ⟨rfl, rfl⟩ | ⟨rfl, rfl⟩ | ⟨rfl, rfl⟩ | ⟨rfl, rfl⟩ | ⟨rfl, rfl⟩ | ⟨rfl, rfl⟩ <;> first | decide | omega)
            have kn301 : N299.1 153 0 = zI 4 := (hFN299 153 0 (by first | decide | (dsimp only; first | done | decide | omega) | omega)).trans ((st_ne (Or.inr (by decide))).trans kn292)
            have kn302 : N299.1 153 2 = zI z291 := (hFN299 153 2 (by first | decide | (dsimp only; first | done | decide | omega) | omega)).trans (st_at)
            refine g_iast F w (a := 153) rfl (j := 4) ⟨by decide, by decide⟩ (by omega) dX12_readsRule_168 (fun H locs w => ?_)
            refine lv_iload_n hx hb dX12_readsRule_169 rfl (lv_at hl 0 rfl) ?_
            refine lv_iconst (v := zI 3) hx hb dX12_readsRule_170 rfl ?_
            refine z_icmp_eq (tgt := 180) hx hb (by omega) (by omega) dX12_readsRule_171 (by decide) (fun c303 => False.elim (by omega)) (fun c303 => ?_)
            refine lv_iload_n hx hb dX12_readsRule_174 rfl (lv_at hl 0 rfl) ?_
            refine lv_bipush (v := zI 8) hx hb dX12_readsRule_175 (by decide) ?_
            refine z_icmp_ne (tgt := 194) hx hb (by omega) (by omega) dX12_readsRule_177 (by decide) (fun c304 => ?_) (fun c304 => False.elim (by omega))
            refine lv_iload_n hx hb dX12_readsRule_194 rfl (lv_at hl 0 rfl) ?_
            refine lv_iconst (v := zI 1) hx hb dX12_readsRule_195 rfl ?_
            refine z_icmp_ne (tgt := 209) hx hb (by omega) (by omega) dX12_readsRule_196 (by decide) (fun c305 => ?_) (fun c305 => False.elim (by omega))
            refine lv_aload_n hx hb dX12_readsRule_209 rfl (lv_at hl 1 rfl) ?_
            refine f_12_16 F w (a := 146) rfl tb_669 dX12_readsRule_210 ?_
            obtain ⟨z306, bz306, ez306⟩ := IvR.ld (k := 16) (IvR.to hIN299 (a := 153) (k := 4) (x := z300) (show ivr 153 4 = ((-99), 300) from rfl) ⟨by omega, by omega⟩ ⟨by decide, by decide, by decide, fun q9 => absurd q9 (by decide)⟩) (show ivr 146 16 = (0, 1) from rfl) (show 146 ≤ 146 ∧ 146 < 159 by decide)
            refine r_val ez306 ?_
            refine z_if_ne (tgt := 236) hx hb (by omega) dX12_readsRule_213 (by decide) (fun c307 => ?_) (fun c307 => ?_)
            · refine lv_aload_n hx hb dX12_readsRule_236 rfl (lv_at hl 1 rfl) ?_
              refine f_12_16 F w (a := 146) rfl tb_669 dX12_readsRule_237 ?_
              obtain ⟨z308, bz308, ez308⟩ := IvR.ld (k := 16) (IvR.to hIN299 (a := 153) (k := 4) (x := z300) (show ivr 153 4 = ((-99), 300) from rfl) ⟨by omega, by omega⟩ ⟨by decide, by decide, by decide, fun q9 => absurd q9 (by decide)⟩) (show ivr 146 16 = (0, 1) from rfl) (show 146 ≤ 146 ∧ 146 < 159 by decide)
              refine r_val ez308 ?_
              refine z_if_eq (tgt := 244) hx hb (by omega) dX12_readsRule_240 (by decide) (fun c309 => ?_) (fun c309 => ?_)
              · refine lv_aload_n hx hb dX12_readsRule_244 rfl (lv_at hl 1 rfl) ?_
                refine f_12_13 F w (a := 146) rfl tb_602 dX12_readsRule_245 ?_
                refine r_val (v := zI nz3000) ((st_ne (Or.inl (by decide))).trans enz3000) ?_
                refine lv_iconst (v := zI 3) hx hb dX12_readsRule_248 rfl ?_
                refine z_icmp_ne (tgt := 259) hx hb (by omega) (by omega) dX12_readsRule_249 (by decide) (fun c310 => ?_) (fun c310 => ?_)
                · refine lv_aload_n hx hb dX12_readsRule_259 rfl (lv_at hl 1 rfl) ?_
                  refine lv_iconst (v := zI 1) hx hb dX12_readsRule_260 rfl ?_
                  refine u_12_16 F w (a := 146) rfl (nar_z (by omega)) (fit_z (by omega)) tb_669 dX12_readsRule_261 (fun H locs w => ?_)
                  obtain ⟨z311, bz311, ez311⟩ := IvR.ld (k := 3) (IvR.to (IvR.to hIN299 (a := 153) (k := 4) (x := z300) (show ivr 153 4 = ((-99), 300) from rfl) ⟨by omega, by omega⟩ ⟨by decide, by decide, by decide, fun q9 => absurd q9 (by decide)⟩) (a := 146) (k := 16) (x := 1) (show ivr 146 16 = (0, 1) from rfl) ⟨by omega, by omega⟩ ⟨by decide, by decide, by decide, fun q9 => absurd q9 (by decide)⟩) (show ivr 153 3 = (-99, 300) from rfl) (by decide)
                  rw [hQ]
                  exact e_v F w hr hlocks ⟨⟨nz3000, nz3001, 1, ((st_ne (Or.inr (by decide))).trans ((st_ne (Or.inl (by decide))).trans enz3000)), ((st_ne (Or.inr (by decide))).trans ((st_ne (Or.inl (by decide))).trans enz3001)), (st_at), ⟨by omega, by omega⟩, ⟨by omega, by omega⟩, ⟨by omega, by omega⟩, (by omega)⟩, (fun h8 => by have h9 := (zI_eq (a := 4) (b := 8) (by constructor <;> omega) (by constructor <;> omega)).mp (((st_ne (Or.inl (by decide))).trans ((st_ne (Or.inr (by decide))).trans kn301)).symm.trans h8); exact ⟨z311, by omega, by omega, ez311⟩), (IvR.to (IvR.to hIN299 (a := 153) (k := 4) (x := z300) (show ivr 153 4 = ((-99), 300) from rfl) ⟨by omega, by omega⟩ ⟨by decide, by decide, by decide, fun q9 => absurd q9 (by decide)⟩) (a := 146) (k := 16) (x := 1) (show ivr 146 16 = (0, 1) from rfl) ⟨by omega, by omega⟩ ⟨by decide, by decide, by decide, fun q9 => absurd q9 (by decide)⟩), (Fr.to (Fr.to hGN299 (by first | decide | (dsimp only; first | done | decide | omega) | omega)) (by first | decide | (dsimp only; first | done | decide | omega) | omega))⟩ dX12_readsRule_264
                · refine lv_aload_n hx hb dX12_readsRule_252 rfl (lv_at hl 1 rfl) ?_
                  refine k_Vv F w (As := []) (rest := []) (a := 146) (kd_lt (a := 146) (show kd 146 = (12, 0, 0) from rfl) (by decide)) (sh_12 rfl _ _) rfl (q_X12_goesOn   (IvR.to hIN299 (a := 153) (k := 4) (x := z300) (show ivr 153 4 = ((-99), 300) from rfl) ⟨by omega, by omega⟩ ⟨by decide, by decide, by decide, fun q9 => absurd q9 (by decide)⟩)) gv_X12_221 hv_X12_goesOn ⟨(Nat.le_of_ble_eq_true rfl), (Nat.le_of_ble_eq_true rfl)⟩ hl.1 rfl (Nat.le_of_ble_eq_true rfl) ⟨Nat.zero_le _, Nat.zero_le _⟩ dX12_readsRule_253 (fun N313 H locs hp w => ?_)
                  obtain ⟨⟨nz3140, nz3141, enz3140, enz3141, xz314⟩, hIN313, hFN313⟩ := hp
                  have hGN313 := Fr.tr (Fr.to hGN299 (by first | decide | (dsimp only; first | done | decide | omega) | omega)) hFN313 (S := (fun b9 k9 => (b9 = 146 ∧ k9 = 11) ∨ (b9 = 146 ∧ k9 = 13) ∨ (b9 = 146 ∧ k9 = 14) ∨ (b9 = 146 ∧ k9 = 15) ∨ (b9 = 146 ∧ k9 = 16) ∨ (b9 = 146 ∧ k9 = 9) ∨ b9 = 153)) (fun b k h => by (try dsimp only at h ⊢); rcases h with ⟨rfl, rfl⟩ | ⟨rfl, rfl⟩ | ⟨rfl, rfl⟩ | ⟨rfl, rfl⟩ | ⟨rfl, rfl⟩ <;> first | decide | omega)
                  have kn315 : N313.1 153 0 = zI 4 := (hFN313 153 0 (by first | decide | (dsimp only; first | done | decide | omega) | omega)).trans ((st_ne (Or.inr (by decide))).trans kn301)
                  have kn316 : N313.1 153 2 = zI z291 := (hFN313 153 2 (by first | decide | (dsimp only; first | done | decide | omega) | omega)).trans ((st_ne (Or.inr (by decide))).trans kn302)
                  have kn317 : N313.1 153 4 = zI z300 := (hFN313 153 4 (by first | decide | (dsimp only; first | done | decide | omega) | omega)).trans (st_at)
                  refine lv_goto (tgt := 264) hx hb dX12_readsRule_256 (by decide) ?_
                  obtain ⟨z318, bz318, ez318⟩ := IvR.ld (k := 16) hIN313 (show ivr 146 16 = (0, 1) from rfl) (show 146 ≤ 146 ∧ 146 < 159 by decide)
                  obtain ⟨z319, bz319, ez319⟩ := IvR.ld (k := 3) hIN313 (show ivr 153 3 = (-99, 300) from rfl) (by decide)
                  rw [hQ]
                  exact e_v F w hr hlocks ⟨⟨nz3140, nz3141, z318, (enz3140), (enz3141), (ez318), ⟨by omega, by omega⟩, ⟨by omega, by omega⟩, ⟨by omega, by omega⟩, (by omega)⟩, (fun h8 => by have h9 := (zI_eq (a := 4) (b := 8) (by constructor <;> omega) (by constructor <;> omega)).mp ((kn315).symm.trans h8); exact ⟨z319, by omega, by omega, ez319⟩), hIN313, hGN313⟩ dX12_readsRule_264
              · obtain ⟨z320, bz320, ez320⟩ := IvR.ld (k := 16) (IvR.to hIN299 (a := 153) (k := 4) (x := z300) (show ivr 153 4 = ((-99), 300) from rfl) ⟨by omega, by omega⟩ ⟨by decide, by decide, by decide, fun q9 => absurd q9 (by decide)⟩) (show ivr 146 16 = (0, 1) from rfl) (show 146 ≤ 146 ∧ 146 < 159 by decide)
                obtain ⟨z321, bz321, ez321⟩ := IvR.ld (k := 3) (IvR.to hIN299 (a := 153) (k := 4) (x := z300) (show ivr 153 4 = ((-99), 300) from rfl) ⟨by omega, by omega⟩ ⟨by decide, by decide, by decide, fun q9 => absurd q9 (by decide)⟩) (show ivr 153 3 = (-99, 300) from rfl) (by decide)
                rw [hQ]
                exact e_v F w hr hlocks ⟨⟨nz3000, nz3001, z320, ((st_ne (Or.inl (by decide))).trans enz3000), ((st_ne (Or.inl (by decide))).trans enz3001), (ez320), ⟨by omega, by omega⟩, ⟨by omega, by omega⟩, ⟨by omega, by omega⟩, (by omega)⟩, (fun h8 => by have h9 := (zI_eq (a := 4) (b := 8) (by constructor <;> omega) (by constructor <;> omega)).mp (((st_ne (Or.inr (by decide))).trans kn301).symm.trans h8); exact ⟨z321, by omega, by omega, ez321⟩), (IvR.to hIN299 (a := 153) (k := 4) (x := z300) (show ivr 153 4 = ((-99), 300) from rfl) ⟨by omega, by omega⟩ ⟨by decide, by decide, by decide, fun q9 => absurd q9 (by decide)⟩), (Fr.to hGN299 (by first | decide | (dsimp only; first | done | decide | omega) | omega))⟩ dX12_readsRule_243
            · refine lv_iload_n hx hb dX12_readsRule_216 rfl (lv_at hl 0 rfl) ?_
              refine k_Si F w (As := [.int (zI 4)]) (rest := []) (q_X12_isBySyllables (x := 4) ⟨by omega, by omega⟩  (IvR.to hIN299 (a := 153) (k := 4) (x := z300) (show ivr 153 4 = ((-99), 300) from rfl) ⟨by omega, by omega⟩ ⟨by decide, by decide, by decide, fun q9 => absurd q9 (by decide)⟩)) gs_X12_140 hs_X12_isBySyllables ⟨(Nat.le_of_ble_eq_true rfl), (Nat.le_of_ble_eq_true rfl)⟩ hl.1 rfl (Nat.le_of_ble_eq_true rfl) ⟨Nat.zero_le _, Nat.zero_le _⟩ dX12_readsRule_217 (fun r322 N323 H locs hp w => ?_)
              obtain ⟨z324, rfl, bz324, xz324, hMN323⟩ := hp
              rw [hMN323] at w
              refine z_if_ne (tgt := 236) hx hb (by omega) dX12_readsRule_220 (by decide) (fun c325 => False.elim (by omega)) (fun c325 => ?_)
              refine lv_aload_n hx hb dX12_readsRule_223 rfl (lv_at hl 1 rfl) ?_
              refine lv_bipush (v := zI 20) hx hb dX12_readsRule_224 (by decide) ?_
              refine k_Vi F w (As := [.int (zI 20)]) (rest := []) (a := 146) (kd_lt (a := 146) (show kd 146 = (12, 0, 0) from rfl) (by decide)) (sh_12 rfl _ _) rfl (q_X12_isWord (x := 20) ⟨by omega, by omega⟩  (IvR.to hIN299 (a := 153) (k := 4) (x := z300) (show ivr 153 4 = ((-99), 300) from rfl) ⟨by omega, by omega⟩ ⟨by decide, by decide, by decide, fun q9 => absurd q9 (by decide)⟩)) gv_X12_224 hv_X12_isWord ⟨(Nat.le_of_ble_eq_true rfl), (Nat.le_of_ble_eq_true rfl)⟩ hl.1 rfl (Nat.le_of_ble_eq_true rfl) ⟨Nat.zero_le _, Nat.zero_le _⟩ dX12_readsRule_226 (fun r326 N327 H locs hp w => ?_)
              obtain ⟨z328, rfl, bz328, hMN327⟩ := hp
              rw [hMN327] at w
              refine z_if_eq (tgt := 236) hx hb (by omega) dX12_readsRule_229 (by decide) (fun c329 => ?_) (fun c329 => ?_)
              · refine lv_aload_n hx hb dX12_readsRule_236 rfl (lv_at hl 1 rfl) ?_
                refine f_12_16 F w (a := 146) rfl tb_669 dX12_readsRule_237 ?_
                obtain ⟨z330, bz330, ez330⟩ := IvR.ld (k := 16) (IvR.to hIN299 (a := 153) (k := 4) (x := z300) (show ivr 153 4 = ((-99), 300) from rfl) ⟨by omega, by omega⟩ ⟨by decide, by decide, by decide, fun q9 => absurd q9 (by decide)⟩) (show ivr 146 16 = (0, 1) from rfl) (show 146 ≤ 146 ∧ 146 < 159 by decide)
                refine r_val ez330 ?_
                refine z_if_eq (tgt := 244) hx hb (by omega) dX12_readsRule_240 (by decide) (fun c331 => ?_) (fun c331 => ?_)
                · refine lv_aload_n hx hb dX12_readsRule_244 rfl (lv_at hl 1 rfl) ?_
                  refine f_12_13 F w (a := 146) rfl tb_602 dX12_readsRule_245 ?_
                  refine r_val (v := zI nz3000) ((st_ne (Or.inl (by decide))).trans enz3000) ?_
                  refine lv_iconst (v := zI 3) hx hb dX12_readsRule_248 rfl ?_
                  refine z_icmp_ne (tgt := 259) hx hb (by omega) (by omega) dX12_readsRule_249 (by decide) (fun c332 => ?_) (fun c332 => ?_)
                  · refine lv_aload_n hx hb dX12_readsRule_259 rfl (lv_at hl 1 rfl) ?_
                    refine lv_iconst (v := zI 1) hx hb dX12_readsRule_260 rfl ?_
                    refine u_12_16 F w (a := 146) rfl (nar_z (by omega)) (fit_z (by omega)) tb_669 dX12_readsRule_261 (fun H locs w => ?_)
                    obtain ⟨z333, bz333, ez333⟩ := IvR.ld (k := 3) (IvR.to (IvR.to hIN299 (a := 153) (k := 4) (x := z300) (show ivr 153 4 = ((-99), 300) from rfl) ⟨by omega, by omega⟩ ⟨by decide, by decide, by decide, fun q9 => absurd q9 (by decide)⟩) (a := 146) (k := 16) (x := 1) (show ivr 146 16 = (0, 1) from rfl) ⟨by omega, by omega⟩ ⟨by decide, by decide, by decide, fun q9 => absurd q9 (by decide)⟩) (show ivr 153 3 = (-99, 300) from rfl) (by decide)
                    rw [hQ]
                    exact e_v F w hr hlocks ⟨⟨nz3000, nz3001, 1, ((st_ne (Or.inr (by decide))).trans ((st_ne (Or.inl (by decide))).trans enz3000)), ((st_ne (Or.inr (by decide))).trans ((st_ne (Or.inl (by decide))).trans enz3001)), (st_at), ⟨by omega, by omega⟩, ⟨by omega, by omega⟩, ⟨by omega, by omega⟩, (by omega)⟩, (fun h8 => by have h9 := (zI_eq (a := 4) (b := 8) (by constructor <;> omega) (by constructor <;> omega)).mp (((st_ne (Or.inl (by decide))).trans ((st_ne (Or.inr (by decide))).trans kn301)).symm.trans h8); exact ⟨z333, by omega, by omega, ez333⟩), (IvR.to (IvR.to hIN299 (a := 153) (k := 4) (x := z300) (show ivr 153 4 = ((-99), 300) from rfl) ⟨by omega, by omega⟩ ⟨by decide, by decide, by decide, fun q9 => absurd q9 (by decide)⟩) (a := 146) (k := 16) (x := 1) (show ivr 146 16 = (0, 1) from rfl) ⟨by omega, by omega⟩ ⟨by decide, by decide, by decide, fun q9 => absurd q9 (by decide)⟩), (Fr.to (Fr.to hGN299 (by first | decide | (dsimp only; first | done | decide | omega) | omega)) (by first | decide | (dsimp only; first | done | decide | omega) | omega))⟩ dX12_readsRule_264
                  · refine lv_aload_n hx hb dX12_readsRule_252 rfl (lv_at hl 1 rfl) ?_
                    refine k_Vv F w (As := []) (rest := []) (a := 146) (kd_lt (a := 146) (show kd 146 = (12, 0, 0) from rfl) (by decide)) (sh_12 rfl _ _) rfl (q_X12_goesOn   (IvR.to hIN299 (a := 153) (k := 4) (x := z300) (show ivr 153 4 = ((-99), 300) from rfl) ⟨by omega, by omega⟩ ⟨by decide, by decide, by decide, fun q9 => absurd q9 (by decide)⟩)) gv_X12_221 hv_X12_goesOn ⟨(Nat.le_of_ble_eq_true rfl), (Nat.le_of_ble_eq_true rfl)⟩ hl.1 rfl (Nat.le_of_ble_eq_true rfl) ⟨Nat.zero_le _, Nat.zero_le _⟩ dX12_readsRule_253 (fun N335 H locs hp w => ?_)
                    obtain ⟨⟨nz3360, nz3361, enz3360, enz3361, xz336⟩, hIN335, hFN335⟩ := hp
                    have hGN335 := Fr.tr (Fr.to hGN299 (by first | decide | (dsimp only; first | done | decide | omega) | omega)) hFN335 (S := (fun b9 k9 => (b9 = 146 ∧ k9 = 11) ∨ (b9 = 146 ∧ k9 = 13) ∨ (b9 = 146 ∧ k9 = 14) ∨ (b9 = 146 ∧ k9 = 15) ∨ (b9 = 146 ∧ k9 = 16) ∨ (b9 = 146 ∧ k9 = 9) ∨ b9 = 153)) (fun b k h => by (try dsimp only at h ⊢); rcases h with ⟨rfl, rfl⟩ | ⟨rfl, rfl⟩ | ⟨rfl, rfl⟩ | ⟨rfl, rfl⟩ | ⟨rfl, rfl⟩ <;> first | decide | omega)
                    have kn337 : N335.1 153 0 = zI 4 := (hFN335 153 0 (by first | decide | (dsimp only; first | done | decide | omega) | omega)).trans ((st_ne (Or.inr (by decide))).trans kn301)
                    have kn338 : N335.1 153 2 = zI z291 := (hFN335 153 2 (by first | decide | (dsimp only; first | done | decide | omega) | omega)).trans ((st_ne (Or.inr (by decide))).trans kn302)
                    have kn339 : N335.1 153 4 = zI z300 := (hFN335 153 4 (by first | decide | (dsimp only; first | done | decide | omega) | omega)).trans (st_at)
                    refine lv_goto (tgt := 264) hx hb dX12_readsRule_256 (by decide) ?_
                    obtain ⟨z340, bz340, ez340⟩ := IvR.ld (k := 16) hIN335 (show ivr 146 16 = (0, 1) from rfl) (show 146 ≤ 146 ∧ 146 < 159 by decide)
                    obtain ⟨z341, bz341, ez341⟩ := IvR.ld (k := 3) hIN335 (show ivr 153 3 = (-99, 300) from rfl) (by decide)
                    rw [hQ]
                    exact e_v F w hr hlocks ⟨⟨nz3360, nz3361, z340, (enz3360), (enz3361), (ez340), ⟨by omega, by omega⟩, ⟨by omega, by omega⟩, ⟨by omega, by omega⟩, (by omega)⟩, (fun h8 => by have h9 := (zI_eq (a := 4) (b := 8) (by constructor <;> omega) (by constructor <;> omega)).mp ((kn337).symm.trans h8); exact ⟨z341, by omega, by omega, ez341⟩), hIN335, hGN335⟩ dX12_readsRule_264
                · obtain ⟨z342, bz342, ez342⟩ := IvR.ld (k := 16) (IvR.to hIN299 (a := 153) (k := 4) (x := z300) (show ivr 153 4 = ((-99), 300) from rfl) ⟨by omega, by omega⟩ ⟨by decide, by decide, by decide, fun q9 => absurd q9 (by decide)⟩) (show ivr 146 16 = (0, 1) from rfl) (show 146 ≤ 146 ∧ 146 < 159 by decide)
                  obtain ⟨z343, bz343, ez343⟩ := IvR.ld (k := 3) (IvR.to hIN299 (a := 153) (k := 4) (x := z300) (show ivr 153 4 = ((-99), 300) from rfl) ⟨by omega, by omega⟩ ⟨by decide, by decide, by decide, fun q9 => absurd q9 (by decide)⟩) (show ivr 153 3 = (-99, 300) from rfl) (by decide)
                  rw [hQ]
                  exact e_v F w hr hlocks ⟨⟨nz3000, nz3001, z342, ((st_ne (Or.inl (by decide))).trans enz3000), ((st_ne (Or.inl (by decide))).trans enz3001), (ez342), ⟨by omega, by omega⟩, ⟨by omega, by omega⟩, ⟨by omega, by omega⟩, (by omega)⟩, (fun h8 => by have h9 := (zI_eq (a := 4) (b := 8) (by constructor <;> omega) (by constructor <;> omega)).mp (((st_ne (Or.inr (by decide))).trans kn301).symm.trans h8); exact ⟨z343, by omega, by omega, ez343⟩), (IvR.to hIN299 (a := 153) (k := 4) (x := z300) (show ivr 153 4 = ((-99), 300) from rfl) ⟨by omega, by omega⟩ ⟨by decide, by decide, by decide, fun q9 => absurd q9 (by decide)⟩), (Fr.to hGN299 (by first | decide | (dsimp only; first | done | decide | omega) | omega))⟩ dX12_readsRule_243
              · refine lv_aload_n hx hb dX12_readsRule_232 rfl (lv_at hl 1 rfl) ?_
                refine k_Vv F w (As := []) (rest := []) (a := 146) (kd_lt (a := 146) (show kd 146 = (12, 0, 0) from rfl) (by decide)) (sh_12 rfl _ _) rfl (q_X12_readsTest   (IvR.to hIN299 (a := 153) (k := 4) (x := z300) (show ivr 153 4 = ((-99), 300) from rfl) ⟨by omega, by omega⟩ ⟨by decide, by decide, by decide, fun q9 => absurd q9 (by decide)⟩)) gv_X12_233 hv_X12_readsTest ⟨(Nat.le_of_ble_eq_true rfl), (Nat.le_of_ble_eq_true rfl)⟩ hl.1 rfl (Nat.le_of_ble_eq_true rfl) ⟨Nat.zero_le _, Nat.zero_le _⟩ dX12_readsRule_233 (fun N345 H locs hp w => ?_)
                obtain ⟨⟨nz3460, nz3461, enz3460, enz3461, xz346⟩, hIN345, hFN345⟩ := hp
                have hGN345 := Fr.tr (Fr.to hGN299 (by first | decide | (dsimp only; first | done | decide | omega) | omega)) hFN345 (S := (fun b9 k9 => (b9 = 146 ∧ k9 = 11) ∨ (b9 = 146 ∧ k9 = 13) ∨ (b9 = 146 ∧ k9 = 14) ∨ (b9 = 146 ∧ k9 = 15) ∨ (b9 = 146 ∧ k9 = 16) ∨ (b9 = 146 ∧ k9 = 9) ∨ b9 = 153)) (fun b k h => by (try dsimp only at h ⊢); rcases h with ⟨rfl, rfl⟩ | ⟨rfl, rfl⟩ | ⟨rfl, rfl⟩ | ⟨rfl, rfl⟩ | ⟨rfl, rfl⟩ | ⟨rfl, rfl⟩ | ⟨rfl, q1, q2⟩ | ⟨rfl, q1, q2⟩ | ⟨rfl, q1, q2⟩ <;> first | decide | omega)
                have kn347 : N345.1 153 0 = zI 4 := (hFN345 153 0 (by first | decide | (dsimp only; first | done | decide | omega) | omega)).trans ((st_ne (Or.inr (by decide))).trans kn301)
                have kn348 : N345.1 153 2 = zI z291 := (hFN345 153 2 (by first | decide | (dsimp only; first | done | decide | omega) | omega)).trans ((st_ne (Or.inr (by decide))).trans kn302)
                have kn349 : N345.1 153 4 = zI z300 := (hFN345 153 4 (by first | decide | (dsimp only; first | done | decide | omega) | omega)).trans (st_at)
                refine lv_aload_n hx hb dX12_readsRule_236 rfl (lv_at hl 1 rfl) ?_
                refine f_12_16 F w (a := 146) rfl tb_669 dX12_readsRule_237 ?_
                obtain ⟨z350, bz350, ez350⟩ := IvR.ld (k := 16) hIN345 (show ivr 146 16 = (0, 1) from rfl) (show 146 ≤ 146 ∧ 146 < 159 by decide)
                refine r_val ez350 ?_
                refine z_if_eq (tgt := 244) hx hb (by omega) dX12_readsRule_240 (by decide) (fun c351 => ?_) (fun c351 => ?_)
                · refine lv_aload_n hx hb dX12_readsRule_244 rfl (lv_at hl 1 rfl) ?_
                  refine f_12_13 F w (a := 146) rfl tb_602 dX12_readsRule_245 ?_
                  refine r_val (v := zI nz3460) (enz3460) ?_
                  refine lv_iconst (v := zI 3) hx hb dX12_readsRule_248 rfl ?_
                  refine z_icmp_ne (tgt := 259) hx hb (by omega) (by omega) dX12_readsRule_249 (by decide) (fun c352 => ?_) (fun c352 => ?_)
                  · refine lv_aload_n hx hb dX12_readsRule_259 rfl (lv_at hl 1 rfl) ?_
                    refine lv_iconst (v := zI 1) hx hb dX12_readsRule_260 rfl ?_
                    refine u_12_16 F w (a := 146) rfl (nar_z (by omega)) (fit_z (by omega)) tb_669 dX12_readsRule_261 (fun H locs w => ?_)
                    obtain ⟨z353, bz353, ez353⟩ := IvR.ld (k := 3) (IvR.to hIN345 (a := 146) (k := 16) (x := 1) (show ivr 146 16 = (0, 1) from rfl) ⟨by omega, by omega⟩ ⟨by decide, by decide, by decide, fun q9 => absurd q9 (by decide)⟩) (show ivr 153 3 = (-99, 300) from rfl) (by decide)
                    rw [hQ]
                    exact e_v F w hr hlocks ⟨⟨nz3460, nz3461, 1, ((st_ne (Or.inr (by decide))).trans enz3460), ((st_ne (Or.inr (by decide))).trans enz3461), (st_at), ⟨by omega, by omega⟩, ⟨by omega, by omega⟩, ⟨by omega, by omega⟩, (by omega)⟩, (fun h8 => by have h9 := (zI_eq (a := 4) (b := 8) (by constructor <;> omega) (by constructor <;> omega)).mp (((st_ne (Or.inl (by decide))).trans kn347).symm.trans h8); exact ⟨z353, by omega, by omega, ez353⟩), (IvR.to hIN345 (a := 146) (k := 16) (x := 1) (show ivr 146 16 = (0, 1) from rfl) ⟨by omega, by omega⟩ ⟨by decide, by decide, by decide, fun q9 => absurd q9 (by decide)⟩), (Fr.to hGN345 (by first | decide | (dsimp only; first | done | decide | omega) | omega))⟩ dX12_readsRule_264
                  · refine lv_aload_n hx hb dX12_readsRule_252 rfl (lv_at hl 1 rfl) ?_
                    refine k_Vv F w (As := []) (rest := []) (a := 146) (kd_lt (a := 146) (show kd 146 = (12, 0, 0) from rfl) (by decide)) (sh_12 rfl _ _) rfl (q_X12_goesOn   hIN345) gv_X12_221 hv_X12_goesOn ⟨(Nat.le_of_ble_eq_true rfl), (Nat.le_of_ble_eq_true rfl)⟩ hl.1 rfl (Nat.le_of_ble_eq_true rfl) ⟨Nat.zero_le _, Nat.zero_le _⟩ dX12_readsRule_253 (fun N355 H locs hp w => ?_)
                    obtain ⟨⟨nz3560, nz3561, enz3560, enz3561, xz356⟩, hIN355, hFN355⟩ := hp
                    have hGN355 := Fr.tr hGN345 hFN355 (S := (fun b9 k9 => (b9 = 146 ∧ k9 = 11) ∨ (b9 = 146 ∧ k9 = 13) ∨ (b9 = 146 ∧ k9 = 14) ∨ (b9 = 146 ∧ k9 = 15) ∨ (b9 = 146 ∧ k9 = 16) ∨ (b9 = 146 ∧ k9 = 9) ∨ b9 = 153)) (fun b k h => by (try dsimp only at h ⊢); rcases h with ⟨rfl, rfl⟩ | ⟨rfl, rfl⟩ | ⟨rfl, rfl⟩ | ⟨rfl, rfl⟩ | ⟨rfl, rfl⟩ <;> first | decide | omega)
                    have kn357 : N355.1 153 0 = zI 4 := (hFN355 153 0 (by first | decide | (dsimp only; first | done | decide | omega) | omega)).trans (kn347)
                    have kn358 : N355.1 153 2 = zI z291 := (hFN355 153 2 (by first | decide | (dsimp only; first | done | decide | omega) | omega)).trans (kn348)
                    have kn359 : N355.1 153 4 = zI z300 := (hFN355 153 4 (by first | decide | (dsimp only; first | done | decide | omega) | omega)).trans (kn349)
                    have kn360 : N355.1 146 16 = zI z350 := (hFN355 146 16 (by first | decide | (dsimp only; first | done | decide | omega) | omega)).trans (ez350)
                    refine lv_goto (tgt := 264) hx hb dX12_readsRule_256 (by decide) ?_
                    obtain ⟨z361, bz361, ez361⟩ := IvR.ld (k := 3) hIN355 (show ivr 153 3 = (-99, 300) from rfl) (by decide)
                    rw [hQ]
                    exact e_v F w hr hlocks ⟨⟨nz3560, nz3561, z350, (enz3560), (enz3561), (kn360), ⟨by omega, by omega⟩, ⟨by omega, by omega⟩, ⟨by omega, by omega⟩, (by omega)⟩, (fun h8 => by have h9 := (zI_eq (a := 4) (b := 8) (by constructor <;> omega) (by constructor <;> omega)).mp ((kn357).symm.trans h8); exact ⟨z361, by omega, by omega, ez361⟩), hIN355, hGN355⟩ dX12_readsRule_264
                · obtain ⟨z362, bz362, ez362⟩ := IvR.ld (k := 3) hIN345 (show ivr 153 3 = (-99, 300) from rfl) (by decide)
                  rw [hQ]
                  exact e_v F w hr hlocks ⟨⟨nz3460, nz3461, z350, (enz3460), (enz3461), (ez350), ⟨by omega, by omega⟩, ⟨by omega, by omega⟩, ⟨by omega, by omega⟩, (by omega)⟩, (fun h8 => by have h9 := (zI_eq (a := 4) (b := 8) (by constructor <;> omega) (by constructor <;> omega)).mp ((kn347).symm.trans h8); exact ⟨z362, by omega, by omega, ez362⟩), hIN345, hGN345⟩ dX12_readsRule_243
          · refine lv_istore_n (lv' := [(1, .int (zI 5)), (0, .ref (B + 146))]) hx hb dX12_readsRule_63 rfl hl (by decide) rfl (fun ls hl => ?_)
            refine lv_aload_n hx hb dX12_readsRule_64 rfl (lv_at hl 1 rfl) ?_
            refine f_12_17 F w (a := 146) rfl tb_676 dX12_readsRule_65 ?_
            refine lv_iconst (v := zI 0) hx hb dX12_readsRule_68 rfl ?_
            refine lv_iload_n hx hb dX12_readsRule_69 rfl (lv_at hl 0 rfl) ?_
            refine g_iast F w (a := 153) rfl (j := 0) ⟨by decide, by decide⟩ (by omega) dX12_readsRule_70 (fun H locs w => ?_)
            refine lv_iload_n hx hb dX12_readsRule_71 rfl (lv_at hl 0 rfl) ?_
            refine lv_bipush (v := zI 8) hx hb dX12_readsRule_72 (by decide) ?_
            refine z_icmp_ne (tgt := 90) hx hb (by omega) (by omega) dX12_readsRule_74 (by decide) (fun c363 => ?_) (fun c363 => False.elim (by omega))
            refine lv_iload_n hx hb dX12_readsRule_90 rfl (lv_at hl 0 rfl) ?_
            refine z_if_eq (tgt := 119) hx hb (by omega) dX12_readsRule_91 (by decide) (fun c364 => False.elim (by omega)) (fun c364 => ?_)
            refine lv_aload_n hx hb dX12_readsRule_94 rfl (lv_at hl 1 rfl) ?_
            refine f_12_17 F w (a := 146) rfl tb_676 dX12_readsRule_95 ?_
            refine lv_iconst (v := zI 2) hx hb dX12_readsRule_98 rfl ?_
            refine lv_aload_n hx hb dX12_readsRule_99 rfl (lv_at hl 1 rfl) ?_
            refine lv_bipush (v := zI 11) hx hb dX12_readsRule_100 (by decide) ?_
            refine lv_iload_n hx hb dX12_readsRule_102 rfl (lv_at hl 0 rfl) ?_
            refine lv_bipush (v := zI 9) hx hb dX12_readsRule_103 (by decide) ?_
            refine z_icmp_ne (tgt := 113) hx hb (by omega) (by omega) dX12_readsRule_105 (by decide) (fun c365 => ?_) (fun c365 => False.elim (by omega))
            refine lv_bipush (v := zI 14) hx hb dX12_readsRule_113 (by decide) ?_
            refine k_Vi F w (As := [.int (zI 11), .int (zI 14)]) (rest := [.int (zI 2), .ref (B + 153)]) (a := 146) (kd_lt (a := 146) (show kd 146 = (12, 0, 0) from rfl) (by decide)) (sh_12 rfl _ _) rfl (q_X12_needs (x := 11) ⟨by omega, by omega⟩ (x1 := 14) ⟨by omega, by omega⟩ (tk := nz80) ((st_ne (Or.inl (by decide))).trans enz80) ⟨by omega, by omega⟩ (nb := nz81) ((st_ne (Or.inl (by decide))).trans enz81) ⟨by omega, by omega⟩ (by omega) (IvR.to hIN7 (a := 153) (k := 0) (x := 5) (show ivr 153 0 = ((-99), 300) from rfl) ⟨by omega, by omega⟩ ⟨by decide, by decide, by decide, fun q9 => absurd q9 (by decide)⟩)) gv_X12_227 hv_X12_needs ⟨(Nat.le_of_ble_eq_true rfl), (Nat.le_of_ble_eq_true rfl)⟩ hl.1 rfl (Nat.le_of_ble_eq_true rfl) ⟨Nat.zero_le _, Nat.zero_le _⟩ dX12_readsRule_115 (fun r366 N367 H locs hp w => ?_)
            obtain ⟨z368, rfl, bz368, ⟨nz3680, nz3681, enz3680, enz3681, xz368⟩, hIN367, hFN367⟩ := hp
            have hGN367 := Fr.tr (Fr.to hGN7 (by first | decide | (dsimp only; first | done | decide | omega) | omega)) hFN367 (S := (fun b9 k9 => (b9 = 146 ∧ k9 = 11) ∨ (b9 = 146 ∧ k9 = 13) ∨ (b9 = 146 ∧ k9 = 14) ∨ (b9 = 146 ∧ k9 = 15) ∨ (b9 = 146 ∧ k9 = 16) ∨ (b9 = 146 ∧ k9 = 9) ∨ b9 = 153)) (fun b k h => by (try dsimp only at h ⊢); rcases h with ⟨rfl, rfl⟩ | ⟨rfl, rfl⟩ | ⟨rfl, rfl⟩ | ⟨rfl, rfl⟩ | ⟨rfl, rfl⟩ | ⟨rfl, rfl⟩ <;> first | decide | omega)
            have kn369 : N367.1 153 0 = zI 5 := (hFN367 153 0 (by first | decide | (dsimp only; first | done | decide | omega) | omega)).trans (st_at)
            refine g_iast F w (a := 153) rfl (j := 2) ⟨by decide, by decide⟩ (by omega) dX12_readsRule_118 (fun H locs w => ?_)
            refine lv_iload_n hx hb dX12_readsRule_119 rfl (lv_at hl 0 rfl) ?_
            refine lv_bipush (v := zI 7) hx hb dX12_readsRule_120 (by decide) ?_
            refine z_icmp_ne (tgt := 148) hx hb (by omega) (by omega) dX12_readsRule_122 (by decide) (fun c370 => ?_) (fun c370 => False.elim (by omega))
            refine lv_iload_n hx hb dX12_readsRule_148 rfl (lv_at hl 0 rfl) ?_
            refine k_Si F w (As := [.int (zI 5)]) (rest := []) (q_X12_hasSide (x := 5) ⟨by omega, by omega⟩  (IvR.to hIN367 (a := 153) (k := 2) (x := z368) (show ivr 153 2 = ((-99), 300) from rfl) ⟨by omega, by omega⟩ ⟨by decide, by decide, by decide, fun q9 => absurd q9 (by decide)⟩)) gs_X12_137 hs_X12_hasSide ⟨(Nat.le_of_ble_eq_true rfl), (Nat.le_of_ble_eq_true rfl)⟩ hl.1 rfl (Nat.le_of_ble_eq_true rfl) ⟨Nat.zero_le _, Nat.zero_le _⟩ dX12_readsRule_149 (fun r371 N372 H locs hp w => ?_)
            obtain ⟨z373, rfl, bz373, xz373, hMN372⟩ := hp
            rw [hMN372] at w
            refine z_if_eq (tgt := 169) hx hb (by omega) dX12_readsRule_152 (by decide) (fun c374 => ?_) (fun c374 => False.elim (by omega))
            refine lv_iload_n hx hb dX12_readsRule_169 rfl (lv_at hl 0 rfl) ?_
            refine lv_iconst (v := zI 3) hx hb dX12_readsRule_170 rfl ?_
            refine z_icmp_eq (tgt := 180) hx hb (by omega) (by omega) dX12_readsRule_171 (by decide) (fun c375 => False.elim (by omega)) (fun c375 => ?_)
            refine lv_iload_n hx hb dX12_readsRule_174 rfl (lv_at hl 0 rfl) ?_
            refine lv_bipush (v := zI 8) hx hb dX12_readsRule_175 (by decide) ?_
            refine z_icmp_ne (tgt := 194) hx hb (by omega) (by omega) dX12_readsRule_177 (by decide) (fun c376 => ?_) (fun c376 => False.elim (by omega))
            refine lv_iload_n hx hb dX12_readsRule_194 rfl (lv_at hl 0 rfl) ?_
            refine lv_iconst (v := zI 1) hx hb dX12_readsRule_195 rfl ?_
            refine z_icmp_ne (tgt := 209) hx hb (by omega) (by omega) dX12_readsRule_196 (by decide) (fun c377 => ?_) (fun c377 => False.elim (by omega))
            refine lv_aload_n hx hb dX12_readsRule_209 rfl (lv_at hl 1 rfl) ?_
            refine f_12_16 F w (a := 146) rfl tb_669 dX12_readsRule_210 ?_
            obtain ⟨z378, bz378, ez378⟩ := IvR.ld (k := 16) (IvR.to hIN367 (a := 153) (k := 2) (x := z368) (show ivr 153 2 = ((-99), 300) from rfl) ⟨by omega, by omega⟩ ⟨by decide, by decide, by decide, fun q9 => absurd q9 (by decide)⟩) (show ivr 146 16 = (0, 1) from rfl) (show 146 ≤ 146 ∧ 146 < 159 by decide)
            refine r_val ez378 ?_
            refine z_if_ne (tgt := 236) hx hb (by omega) dX12_readsRule_213 (by decide) (fun c379 => ?_) (fun c379 => ?_)
            · refine lv_aload_n hx hb dX12_readsRule_236 rfl (lv_at hl 1 rfl) ?_
              refine f_12_16 F w (a := 146) rfl tb_669 dX12_readsRule_237 ?_
              obtain ⟨z380, bz380, ez380⟩ := IvR.ld (k := 16) (IvR.to hIN367 (a := 153) (k := 2) (x := z368) (show ivr 153 2 = ((-99), 300) from rfl) ⟨by omega, by omega⟩ ⟨by decide, by decide, by decide, fun q9 => absurd q9 (by decide)⟩) (show ivr 146 16 = (0, 1) from rfl) (show 146 ≤ 146 ∧ 146 < 159 by decide)
              refine r_val ez380 ?_
              refine z_if_eq (tgt := 244) hx hb (by omega) dX12_readsRule_240 (by decide) (fun c381 => ?_) (fun c381 => ?_)
              · refine lv_aload_n hx hb dX12_readsRule_244 rfl (lv_at hl 1 rfl) ?_
                refine f_12_13 F w (a := 146) rfl tb_602 dX12_readsRule_245 ?_
                refine r_val (v := zI nz3680) ((st_ne (Or.inl (by decide))).trans enz3680) ?_
                refine lv_iconst (v := zI 3) hx hb dX12_readsRule_248 rfl ?_
                refine z_icmp_ne (tgt := 259) hx hb (by omega) (by omega) dX12_readsRule_249 (by decide) (fun c382 => ?_) (fun c382 => ?_)
                · refine lv_aload_n hx hb dX12_readsRule_259 rfl (lv_at hl 1 rfl) ?_
                  refine lv_iconst (v := zI 1) hx hb dX12_readsRule_260 rfl ?_
                  refine u_12_16 F w (a := 146) rfl (nar_z (by omega)) (fit_z (by omega)) tb_669 dX12_readsRule_261 (fun H locs w => ?_)
                  obtain ⟨z383, bz383, ez383⟩ := IvR.ld (k := 3) (IvR.to (IvR.to hIN367 (a := 153) (k := 2) (x := z368) (show ivr 153 2 = ((-99), 300) from rfl) ⟨by omega, by omega⟩ ⟨by decide, by decide, by decide, fun q9 => absurd q9 (by decide)⟩) (a := 146) (k := 16) (x := 1) (show ivr 146 16 = (0, 1) from rfl) ⟨by omega, by omega⟩ ⟨by decide, by decide, by decide, fun q9 => absurd q9 (by decide)⟩) (show ivr 153 3 = (-99, 300) from rfl) (by decide)
                  rw [hQ]
                  exact e_v F w hr hlocks ⟨⟨nz3680, nz3681, 1, ((st_ne (Or.inr (by decide))).trans ((st_ne (Or.inl (by decide))).trans enz3680)), ((st_ne (Or.inr (by decide))).trans ((st_ne (Or.inl (by decide))).trans enz3681)), (st_at), ⟨by omega, by omega⟩, ⟨by omega, by omega⟩, ⟨by omega, by omega⟩, (by omega)⟩, (fun h8 => by have h9 := (zI_eq (a := 5) (b := 8) (by constructor <;> omega) (by constructor <;> omega)).mp (((st_ne (Or.inl (by decide))).trans ((st_ne (Or.inr (by decide))).trans kn369)).symm.trans h8); exact ⟨z383, by omega, by omega, ez383⟩), (IvR.to (IvR.to hIN367 (a := 153) (k := 2) (x := z368) (show ivr 153 2 = ((-99), 300) from rfl) ⟨by omega, by omega⟩ ⟨by decide, by decide, by decide, fun q9 => absurd q9 (by decide)⟩) (a := 146) (k := 16) (x := 1) (show ivr 146 16 = (0, 1) from rfl) ⟨by omega, by omega⟩ ⟨by decide, by decide, by decide, fun q9 => absurd q9 (by decide)⟩), (Fr.to (Fr.to hGN367 (by first | decide | (dsimp only; first | done | decide | omega) | omega)) (by first | decide | (dsimp only; first | done | decide | omega) | omega))⟩ dX12_readsRule_264
                · refine lv_aload_n hx hb dX12_readsRule_252 rfl (lv_at hl 1 rfl) ?_
                  refine k_Vv F w (As := []) (rest := []) (a := 146) (kd_lt (a := 146) (show kd 146 = (12, 0, 0) from rfl) (by decide)) (sh_12 rfl _ _) rfl (q_X12_goesOn   (IvR.to hIN367 (a := 153) (k := 2) (x := z368) (show ivr 153 2 = ((-99), 300) from rfl) ⟨by omega, by omega⟩ ⟨by decide, by decide, by decide, fun q9 => absurd q9 (by decide)⟩)) gv_X12_221 hv_X12_goesOn ⟨(Nat.le_of_ble_eq_true rfl), (Nat.le_of_ble_eq_true rfl)⟩ hl.1 rfl (Nat.le_of_ble_eq_true rfl) ⟨Nat.zero_le _, Nat.zero_le _⟩ dX12_readsRule_253 (fun N385 H locs hp w => ?_)
                  obtain ⟨⟨nz3860, nz3861, enz3860, enz3861, xz386⟩, hIN385, hFN385⟩ := hp
                  have hGN385 := Fr.tr (Fr.to hGN367 (by first | decide | (dsimp only; first | done | decide | omega) | omega)) hFN385 (S := (fun b9 k9 => (b9 = 146 ∧ k9 = 11) ∨ (b9 = 146 ∧ k9 = 13) ∨ (b9 = 146 ∧ k9 = 14) ∨ (b9 = 146 ∧ k9 = 15) ∨ (b9 = 146 ∧ k9 = 16) ∨ (b9 = 146 ∧ k9 = 9) ∨ b9 = 153)) (fun b k h => by (try dsimp only at h ⊢); rcases h with ⟨rfl, rfl⟩ | ⟨rfl, rfl⟩ | ⟨rfl, rfl⟩ | ⟨rfl, rfl⟩ | ⟨rfl, rfl⟩ <;> first | decide | omega)
                  have kn387 : N385.1 153 0 = zI 5 := (hFN385 153 0 (by first | decide | (dsimp only; first | done | decide | omega) | omega)).trans ((st_ne (Or.inr (by decide))).trans kn369)
                  have kn388 : N385.1 153 2 = zI z368 := (hFN385 153 2 (by first | decide | (dsimp only; first | done | decide | omega) | omega)).trans (st_at)
                  refine lv_goto (tgt := 264) hx hb dX12_readsRule_256 (by decide) ?_
                  obtain ⟨z389, bz389, ez389⟩ := IvR.ld (k := 16) hIN385 (show ivr 146 16 = (0, 1) from rfl) (show 146 ≤ 146 ∧ 146 < 159 by decide)
                  obtain ⟨z390, bz390, ez390⟩ := IvR.ld (k := 3) hIN385 (show ivr 153 3 = (-99, 300) from rfl) (by decide)
                  rw [hQ]
                  exact e_v F w hr hlocks ⟨⟨nz3860, nz3861, z389, (enz3860), (enz3861), (ez389), ⟨by omega, by omega⟩, ⟨by omega, by omega⟩, ⟨by omega, by omega⟩, (by omega)⟩, (fun h8 => by have h9 := (zI_eq (a := 5) (b := 8) (by constructor <;> omega) (by constructor <;> omega)).mp ((kn387).symm.trans h8); exact ⟨z390, by omega, by omega, ez390⟩), hIN385, hGN385⟩ dX12_readsRule_264
              · obtain ⟨z391, bz391, ez391⟩ := IvR.ld (k := 16) (IvR.to hIN367 (a := 153) (k := 2) (x := z368) (show ivr 153 2 = ((-99), 300) from rfl) ⟨by omega, by omega⟩ ⟨by decide, by decide, by decide, fun q9 => absurd q9 (by decide)⟩) (show ivr 146 16 = (0, 1) from rfl) (show 146 ≤ 146 ∧ 146 < 159 by decide)
                obtain ⟨z392, bz392, ez392⟩ := IvR.ld (k := 3) (IvR.to hIN367 (a := 153) (k := 2) (x := z368) (show ivr 153 2 = ((-99), 300) from rfl) ⟨by omega, by omega⟩ ⟨by decide, by decide, by decide, fun q9 => absurd q9 (by decide)⟩) (show ivr 153 3 = (-99, 300) from rfl) (by decide)
                rw [hQ]
                exact e_v F w hr hlocks ⟨⟨nz3680, nz3681, z391, ((st_ne (Or.inl (by decide))).trans enz3680), ((st_ne (Or.inl (by decide))).trans enz3681), (ez391), ⟨by omega, by omega⟩, ⟨by omega, by omega⟩, ⟨by omega, by omega⟩, (by omega)⟩, (fun h8 => by have h9 := (zI_eq (a := 5) (b := 8) (by constructor <;> omega) (by constructor <;> omega)).mp (((st_ne (Or.inr (by decide))).trans kn369).symm.trans h8); exact ⟨z392, by omega, by omega, ez392⟩), (IvR.to hIN367 (a := 153) (k := 2) (x := z368) (show ivr 153 2 = ((-99), 300) from rfl) ⟨by omega, by omega⟩ ⟨by decide, by decide, by decide, fun q9 => absurd q9 (by decide)⟩), (Fr.to hGN367 (by first | decide | (dsimp only; first | done | decide | omega) | omega))⟩ dX12_readsRule_243
            · refine lv_iload_n hx hb dX12_readsRule_216 rfl (lv_at hl 0 rfl) ?_
              refine k_Si F w (As := [.int (zI 5)]) (rest := []) (q_X12_isBySyllables (x := 5) ⟨by omega, by omega⟩  (IvR.to hIN367 (a := 153) (k := 2) (x := z368) (show ivr 153 2 = ((-99), 300) from rfl) ⟨by omega, by omega⟩ ⟨by decide, by decide, by decide, fun q9 => absurd q9 (by decide)⟩)) gs_X12_140 hs_X12_isBySyllables ⟨(Nat.le_of_ble_eq_true rfl), (Nat.le_of_ble_eq_true rfl)⟩ hl.1 rfl (Nat.le_of_ble_eq_true rfl) ⟨Nat.zero_le _, Nat.zero_le _⟩ dX12_readsRule_217 (fun r393 N394 H locs hp w => ?_)
              obtain ⟨z395, rfl, bz395, xz395, hMN394⟩ := hp
              rw [hMN394] at w
              refine z_if_ne (tgt := 236) hx hb (by omega) dX12_readsRule_220 (by decide) (fun c396 => False.elim (by omega)) (fun c396 => ?_)
              refine lv_aload_n hx hb dX12_readsRule_223 rfl (lv_at hl 1 rfl) ?_
              refine lv_bipush (v := zI 20) hx hb dX12_readsRule_224 (by decide) ?_
              refine k_Vi F w (As := [.int (zI 20)]) (rest := []) (a := 146) (kd_lt (a := 146) (show kd 146 = (12, 0, 0) from rfl) (by decide)) (sh_12 rfl _ _) rfl (q_X12_isWord (x := 20) ⟨by omega, by omega⟩  (IvR.to hIN367 (a := 153) (k := 2) (x := z368) (show ivr 153 2 = ((-99), 300) from rfl) ⟨by omega, by omega⟩ ⟨by decide, by decide, by decide, fun q9 => absurd q9 (by decide)⟩)) gv_X12_224 hv_X12_isWord ⟨(Nat.le_of_ble_eq_true rfl), (Nat.le_of_ble_eq_true rfl)⟩ hl.1 rfl (Nat.le_of_ble_eq_true rfl) ⟨Nat.zero_le _, Nat.zero_le _⟩ dX12_readsRule_226 (fun r397 N398 H locs hp w => ?_)
              obtain ⟨z399, rfl, bz399, hMN398⟩ := hp
              rw [hMN398] at w
              refine z_if_eq (tgt := 236) hx hb (by omega) dX12_readsRule_229 (by decide) (fun c400 => ?_) (fun c400 => ?_)
              · refine lv_aload_n hx hb dX12_readsRule_236 rfl (lv_at hl 1 rfl) ?_
                refine f_12_16 F w (a := 146) rfl tb_669 dX12_readsRule_237 ?_
                obtain ⟨z401, bz401, ez401⟩ := IvR.ld (k := 16) (IvR.to hIN367 (a := 153) (k := 2) (x := z368) (show ivr 153 2 = ((-99), 300) from rfl) ⟨by omega, by omega⟩ ⟨by decide, by decide, by decide, fun q9 => absurd q9 (by decide)⟩) (show ivr 146 16 = (0, 1) from rfl) (show 146 ≤ 146 ∧ 146 < 159 by decide)
                refine r_val ez401 ?_
                refine z_if_eq (tgt := 244) hx hb (by omega) dX12_readsRule_240 (by decide) (fun c402 => ?_) (fun c402 => ?_)
                · refine lv_aload_n hx hb dX12_readsRule_244 rfl (lv_at hl 1 rfl) ?_
                  refine f_12_13 F w (a := 146) rfl tb_602 dX12_readsRule_245 ?_
                  refine r_val (v := zI nz3680) ((st_ne (Or.inl (by decide))).trans enz3680) ?_
                  refine lv_iconst (v := zI 3) hx hb dX12_readsRule_248 rfl ?_
                  refine z_icmp_ne (tgt := 259) hx hb (by omega) (by omega) dX12_readsRule_249 (by decide) (fun c403 => ?_) (fun c403 => ?_)
                  · refine lv_aload_n hx hb dX12_readsRule_259 rfl (lv_at hl 1 rfl) ?_
                    refine lv_iconst (v := zI 1) hx hb dX12_readsRule_260 rfl ?_
                    refine u_12_16 F w (a := 146) rfl (nar_z (by omega)) (fit_z (by omega)) tb_669 dX12_readsRule_261 (fun H locs w => ?_)
                    obtain ⟨z404, bz404, ez404⟩ := IvR.ld (k := 3) (IvR.to (IvR.to hIN367 (a := 153) (k := 2) (x := z368) (show ivr 153 2 = ((-99), 300) from rfl) ⟨by omega, by omega⟩ ⟨by decide, by decide, by decide, fun q9 => absurd q9 (by decide)⟩) (a := 146) (k := 16) (x := 1) (show ivr 146 16 = (0, 1) from rfl) ⟨by omega, by omega⟩ ⟨by decide, by decide, by decide, fun q9 => absurd q9 (by decide)⟩) (show ivr 153 3 = (-99, 300) from rfl) (by decide)
                    rw [hQ]
                    exact e_v F w hr hlocks ⟨⟨nz3680, nz3681, 1, ((st_ne (Or.inr (by decide))).trans ((st_ne (Or.inl (by decide))).trans enz3680)), ((st_ne (Or.inr (by decide))).trans ((st_ne (Or.inl (by decide))).trans enz3681)), (st_at), ⟨by omega, by omega⟩, ⟨by omega, by omega⟩, ⟨by omega, by omega⟩, (by omega)⟩, (fun h8 => by have h9 := (zI_eq (a := 5) (b := 8) (by constructor <;> omega) (by constructor <;> omega)).mp (((st_ne (Or.inl (by decide))).trans ((st_ne (Or.inr (by decide))).trans kn369)).symm.trans h8); exact ⟨z404, by omega, by omega, ez404⟩), (IvR.to (IvR.to hIN367 (a := 153) (k := 2) (x := z368) (show ivr 153 2 = ((-99), 300) from rfl) ⟨by omega, by omega⟩ ⟨by decide, by decide, by decide, fun q9 => absurd q9 (by decide)⟩) (a := 146) (k := 16) (x := 1) (show ivr 146 16 = (0, 1) from rfl) ⟨by omega, by omega⟩ ⟨by decide, by decide, by decide, fun q9 => absurd q9 (by decide)⟩), (Fr.to (Fr.to hGN367 (by first | decide | (dsimp only; first | done | decide | omega) | omega)) (by first | decide | (dsimp only; first | done | decide | omega) | omega))⟩ dX12_readsRule_264
                  · refine lv_aload_n hx hb dX12_readsRule_252 rfl (lv_at hl 1 rfl) ?_
                    refine k_Vv F w (As := []) (rest := []) (a := 146) (kd_lt (a := 146) (show kd 146 = (12, 0, 0) from rfl) (by decide)) (sh_12 rfl _ _) rfl (q_X12_goesOn   (IvR.to hIN367 (a := 153) (k := 2) (x := z368) (show ivr 153 2 = ((-99), 300) from rfl) ⟨by omega, by omega⟩ ⟨by decide, by decide, by decide, fun q9 => absurd q9 (by decide)⟩)) gv_X12_221 hv_X12_goesOn ⟨(Nat.le_of_ble_eq_true rfl), (Nat.le_of_ble_eq_true rfl)⟩ hl.1 rfl (Nat.le_of_ble_eq_true rfl) ⟨Nat.zero_le _, Nat.zero_le _⟩ dX12_readsRule_253 (fun N406 H locs hp w => ?_)
                    obtain ⟨⟨nz4070, nz4071, enz4070, enz4071, xz407⟩, hIN406, hFN406⟩ := hp
                    have hGN406 := Fr.tr (Fr.to hGN367 (by first | decide | (dsimp only; first | done | decide | omega) | omega)) hFN406 (S := (fun b9 k9 => (b9 = 146 ∧ k9 = 11) ∨ (b9 = 146 ∧ k9 = 13) ∨ (b9 = 146 ∧ k9 = 14) ∨ (b9 = 146 ∧ k9 = 15) ∨ (b9 = 146 ∧ k9 = 16) ∨ (b9 = 146 ∧ k9 = 9) ∨ b9 = 153)) (fun b k h => by (try dsimp only at h ⊢); rcases h with ⟨rfl, rfl⟩ | ⟨rfl, rfl⟩ | ⟨rfl, rfl⟩ | ⟨rfl, rfl⟩ | ⟨rfl, rfl⟩ <;> first | decide | omega)
                    have kn408 : N406.1 153 0 = zI 5 := (hFN406 153 0 (by first | decide | (dsimp only; first | done | decide | omega) | omega)).trans ((st_ne (Or.inr (by decide))).trans kn369)
                    have kn409 : N406.1 153 2 = zI z368 := (hFN406 153 2 (by first | decide | (dsimp only; first | done | decide | omega) | omega)).trans (st_at)
                    refine lv_goto (tgt := 264) hx hb dX12_readsRule_256 (by decide) ?_
                    obtain ⟨z410, bz410, ez410⟩ := IvR.ld (k := 16) hIN406 (show ivr 146 16 = (0, 1) from rfl) (show 146 ≤ 146 ∧ 146 < 159 by decide)
                    obtain ⟨z411, bz411, ez411⟩ := IvR.ld (k := 3) hIN406 (show ivr 153 3 = (-99, 300) from rfl) (by decide)
                    rw [hQ]
                    exact e_v F w hr hlocks ⟨⟨nz4070, nz4071, z410, (enz4070), (enz4071), (ez410), ⟨by omega, by omega⟩, ⟨by omega, by omega⟩, ⟨by omega, by omega⟩, (by omega)⟩, (fun h8 => by have h9 := (zI_eq (a := 5) (b := 8) (by constructor <;> omega) (by constructor <;> omega)).mp ((kn408).symm.trans h8); exact ⟨z411, by omega, by omega, ez411⟩), hIN406, hGN406⟩ dX12_readsRule_264
                · obtain ⟨z412, bz412, ez412⟩ := IvR.ld (k := 16) (IvR.to hIN367 (a := 153) (k := 2) (x := z368) (show ivr 153 2 = ((-99), 300) from rfl) ⟨by omega, by omega⟩ ⟨by decide, by decide, by decide, fun q9 => absurd q9 (by decide)⟩) (show ivr 146 16 = (0, 1) from rfl) (show 146 ≤ 146 ∧ 146 < 159 by decide)
                  obtain ⟨z413, bz413, ez413⟩ := IvR.ld (k := 3) (IvR.to hIN367 (a := 153) (k := 2) (x := z368) (show ivr 153 2 = ((-99), 300) from rfl) ⟨by omega, by omega⟩ ⟨by decide, by decide, by decide, fun q9 => absurd q9 (by decide)⟩) (show ivr 153 3 = (-99, 300) from rfl) (by decide)
                  rw [hQ]
                  exact e_v F w hr hlocks ⟨⟨nz3680, nz3681, z412, ((st_ne (Or.inl (by decide))).trans enz3680), ((st_ne (Or.inl (by decide))).trans enz3681), (ez412), ⟨by omega, by omega⟩, ⟨by omega, by omega⟩, ⟨by omega, by omega⟩, (by omega)⟩, (fun h8 => by have h9 := (zI_eq (a := 5) (b := 8) (by constructor <;> omega) (by constructor <;> omega)).mp (((st_ne (Or.inr (by decide))).trans kn369).symm.trans h8); exact ⟨z413, by omega, by omega, ez413⟩), (IvR.to hIN367 (a := 153) (k := 2) (x := z368) (show ivr 153 2 = ((-99), 300) from rfl) ⟨by omega, by omega⟩ ⟨by decide, by decide, by decide, fun q9 => absurd q9 (by decide)⟩), (Fr.to hGN367 (by first | decide | (dsimp only; first | done | decide | omega) | omega))⟩ dX12_readsRule_243
              · refine lv_aload_n hx hb dX12_readsRule_232 rfl (lv_at hl 1 rfl) ?_
                refine k_Vv F w (As := []) (rest := []) (a := 146) (kd_lt (a := 146) (show kd 146 = (12, 0, 0) from rfl) (by decide)) (sh_12 rfl _ _) rfl (q_X12_readsTest   (IvR.to hIN367 (a := 153) (k := 2) (x := z368) (show ivr 153 2 = ((-99), 300) from rfl) ⟨by omega, by omega⟩ ⟨by decide, by decide, by decide, fun q9 => absurd q9 (by decide)⟩)) gv_X12_233 hv_X12_readsTest ⟨(Nat.le_of_ble_eq_true rfl), (Nat.le_of_ble_eq_true rfl)⟩ hl.1 rfl (Nat.le_of_ble_eq_true rfl) ⟨Nat.zero_le _, Nat.zero_le _⟩ dX12_readsRule_233 (fun N415 H locs hp w => ?_)
                obtain ⟨⟨nz4160, nz4161, enz4160, enz4161, xz416⟩, hIN415, hFN415⟩ := hp
                have hGN415 := Fr.tr (Fr.to hGN367 (by first | decide | (dsimp only; first | done | decide | omega) | omega)) hFN415 (S := (fun b9 k9 => (b9 = 146 ∧ k9 = 11) ∨ (b9 = 146 ∧ k9 = 13) ∨ (b9 = 146 ∧ k9 = 14) ∨ (b9 = 146 ∧ k9 = 15) ∨ (b9 = 146 ∧ k9 = 16) ∨ (b9 = 146 ∧ k9 = 9) ∨ b9 = 153)) (fun b k h => by (try dsimp only at h ⊢); rcases h with ⟨rfl, rfl⟩ | ⟨rfl, rfl⟩ | ⟨rfl, rfl⟩ | ⟨rfl, rfl⟩ | ⟨rfl, rfl⟩ | ⟨rfl, rfl⟩ | ⟨rfl, q1, q2⟩ | ⟨rfl, q1, q2⟩ | ⟨rfl, q1, q2⟩ <;> first | decide | omega)
                have kn417 : N415.1 153 0 = zI 5 := (hFN415 153 0 (by first | decide | (dsimp only; first | done | decide | omega) | omega)).trans ((st_ne (Or.inr (by decide))).trans kn369)
                have kn418 : N415.1 153 2 = zI z368 := (hFN415 153 2 (by first | decide | (dsimp only; first | done | decide | omega) | omega)).trans (st_at)
                refine lv_aload_n hx hb dX12_readsRule_236 rfl (lv_at hl 1 rfl) ?_
                refine f_12_16 F w (a := 146) rfl tb_669 dX12_readsRule_237 ?_
                obtain ⟨z419, bz419, ez419⟩ := IvR.ld (k := 16) hIN415 (show ivr 146 16 = (0, 1) from rfl) (show 146 ≤ 146 ∧ 146 < 159 by decide)
                refine r_val ez419 ?_
                refine z_if_eq (tgt := 244) hx hb (by omega) dX12_readsRule_240 (by decide) (fun c420 => ?_) (fun c420 => ?_)
                · refine lv_aload_n hx hb dX12_readsRule_244 rfl (lv_at hl 1 rfl) ?_
                  refine f_12_13 F w (a := 146) rfl tb_602 dX12_readsRule_245 ?_
                  refine r_val (v := zI nz4160) (enz4160) ?_
                  refine lv_iconst (v := zI 3) hx hb dX12_readsRule_248 rfl ?_
                  refine z_icmp_ne (tgt := 259) hx hb (by omega) (by omega) dX12_readsRule_249 (by decide) (fun c421 => ?_) (fun c421 => ?_)
                  · refine lv_aload_n hx hb dX12_readsRule_259 rfl (lv_at hl 1 rfl) ?_
                    refine lv_iconst (v := zI 1) hx hb dX12_readsRule_260 rfl ?_
                    refine u_12_16 F w (a := 146) rfl (nar_z (by omega)) (fit_z (by omega)) tb_669 dX12_readsRule_261 (fun H locs w => ?_)
                    obtain ⟨z422, bz422, ez422⟩ := IvR.ld (k := 3) (IvR.to hIN415 (a := 146) (k := 16) (x := 1) (show ivr 146 16 = (0, 1) from rfl) ⟨by omega, by omega⟩ ⟨by decide, by decide, by decide, fun q9 => absurd q9 (by decide)⟩) (show ivr 153 3 = (-99, 300) from rfl) (by decide)
                    rw [hQ]
                    exact e_v F w hr hlocks ⟨⟨nz4160, nz4161, 1, ((st_ne (Or.inr (by decide))).trans enz4160), ((st_ne (Or.inr (by decide))).trans enz4161), (st_at), ⟨by omega, by omega⟩, ⟨by omega, by omega⟩, ⟨by omega, by omega⟩, (by omega)⟩, (fun h8 => by have h9 := (zI_eq (a := 5) (b := 8) (by constructor <;> omega) (by constructor <;> omega)).mp (((st_ne (Or.inl (by decide))).trans kn417).symm.trans h8); exact ⟨z422, by omega, by omega, ez422⟩), (IvR.to hIN415 (a := 146) (k := 16) (x := 1) (show ivr 146 16 = (0, 1) from rfl) ⟨by omega, by omega⟩ ⟨by decide, by decide, by decide, fun q9 => absurd q9 (by decide)⟩), (Fr.to hGN415 (by first | decide | (dsimp only; first | done | decide | omega) | omega))⟩ dX12_readsRule_264
                  · refine lv_aload_n hx hb dX12_readsRule_252 rfl (lv_at hl 1 rfl) ?_
                    refine k_Vv F w (As := []) (rest := []) (a := 146) (kd_lt (a := 146) (show kd 146 = (12, 0, 0) from rfl) (by decide)) (sh_12 rfl _ _) rfl (q_X12_goesOn   hIN415) gv_X12_221 hv_X12_goesOn ⟨(Nat.le_of_ble_eq_true rfl), (Nat.le_of_ble_eq_true rfl)⟩ hl.1 rfl (Nat.le_of_ble_eq_true rfl) ⟨Nat.zero_le _, Nat.zero_le _⟩ dX12_readsRule_253 (fun N424 H locs hp w => ?_)
                    obtain ⟨⟨nz4250, nz4251, enz4250, enz4251, xz425⟩, hIN424, hFN424⟩ := hp
                    have hGN424 := Fr.tr hGN415 hFN424 (S := (fun b9 k9 => (b9 = 146 ∧ k9 = 11) ∨ (b9 = 146 ∧ k9 = 13) ∨ (b9 = 146 ∧ k9 = 14) ∨ (b9 = 146 ∧ k9 = 15) ∨ (b9 = 146 ∧ k9 = 16) ∨ (b9 = 146 ∧ k9 = 9) ∨ b9 = 153)) (fun b k h => by (try dsimp only at h ⊢); rcases h with ⟨rfl, rfl⟩ | ⟨rfl, rfl⟩ | ⟨rfl, rfl⟩ | ⟨rfl, rfl⟩ | ⟨rfl, rfl⟩ <;> first | decide | omega)
                    have kn426 : N424.1 153 0 = zI 5 := (hFN424 153 0 (by first | decide | (dsimp only; first | done | decide | omega) | omega)).trans (kn417)
                    have kn427 : N424.1 153 2 = zI z368 := (hFN424 153 2 (by first | decide | (dsimp only; first | done | decide | omega) | omega)).trans (kn418)
                    have kn428 : N424.1 146 16 = zI z419 := (hFN424 146 16 (by first | decide | (dsimp only; first | done | decide | omega) | omega)).trans (ez419)
                    refine lv_goto (tgt := 264) hx hb dX12_readsRule_256 (by decide) ?_
                    obtain ⟨z429, bz429, ez429⟩ := IvR.ld (k := 3) hIN424 (show ivr 153 3 = (-99, 300) from rfl) (by decide)
                    rw [hQ]
                    exact e_v F w hr hlocks ⟨⟨nz4250, nz4251, z419, (enz4250), (enz4251), (kn428), ⟨by omega, by omega⟩, ⟨by omega, by omega⟩, ⟨by omega, by omega⟩, (by omega)⟩, (fun h8 => by have h9 := (zI_eq (a := 5) (b := 8) (by constructor <;> omega) (by constructor <;> omega)).mp ((kn426).symm.trans h8); exact ⟨z429, by omega, by omega, ez429⟩), hIN424, hGN424⟩ dX12_readsRule_264
                · obtain ⟨z430, bz430, ez430⟩ := IvR.ld (k := 3) hIN415 (show ivr 153 3 = (-99, 300) from rfl) (by decide)
                  rw [hQ]
                  exact e_v F w hr hlocks ⟨⟨nz4160, nz4161, z419, (enz4160), (enz4161), (ez419), ⟨by omega, by omega⟩, ⟨by omega, by omega⟩, ⟨by omega, by omega⟩, (by omega)⟩, (fun h8 => by have h9 := (zI_eq (a := 5) (b := 8) (by constructor <;> omega) (by constructor <;> omega)).mp ((kn417).symm.trans h8); exact ⟨z430, by omega, by omega, ez430⟩), hIN415, hGN415⟩ dX12_readsRule_243
          · refine lv_istore_n (lv' := [(1, .int (zI 6)), (0, .ref (B + 146))]) hx hb dX12_readsRule_63 rfl hl (by decide) rfl (fun ls hl => ?_)
            refine lv_aload_n hx hb dX12_readsRule_64 rfl (lv_at hl 1 rfl) ?_
            refine f_12_17 F w (a := 146) rfl tb_676 dX12_readsRule_65 ?_
            refine lv_iconst (v := zI 0) hx hb dX12_readsRule_68 rfl ?_
            refine lv_iload_n hx hb dX12_readsRule_69 rfl (lv_at hl 0 rfl) ?_
            refine g_iast F w (a := 153) rfl (j := 0) ⟨by decide, by decide⟩ (by omega) dX12_readsRule_70 (fun H locs w => ?_)
            refine lv_iload_n hx hb dX12_readsRule_71 rfl (lv_at hl 0 rfl) ?_
            refine lv_bipush (v := zI 8) hx hb dX12_readsRule_72 (by decide) ?_
            refine z_icmp_ne (tgt := 90) hx hb (by omega) (by omega) dX12_readsRule_74 (by decide) (fun c431 => ?_) (fun c431 => False.elim (by omega))
            refine lv_iload_n hx hb dX12_readsRule_90 rfl (lv_at hl 0 rfl) ?_
            refine z_if_eq (tgt := 119) hx hb (by omega) dX12_readsRule_91 (by decide) (fun c432 => False.elim (by omega)) (fun c432 => ?_)
            refine lv_aload_n hx hb dX12_readsRule_94 rfl (lv_at hl 1 rfl) ?_
            refine f_12_17 F w (a := 146) rfl tb_676 dX12_readsRule_95 ?_
            refine lv_iconst (v := zI 2) hx hb dX12_readsRule_98 rfl ?_
            refine lv_aload_n hx hb dX12_readsRule_99 rfl (lv_at hl 1 rfl) ?_
            refine lv_bipush (v := zI 11) hx hb dX12_readsRule_100 (by decide) ?_
            refine lv_iload_n hx hb dX12_readsRule_102 rfl (lv_at hl 0 rfl) ?_
            refine lv_bipush (v := zI 9) hx hb dX12_readsRule_103 (by decide) ?_
            refine z_icmp_ne (tgt := 113) hx hb (by omega) (by omega) dX12_readsRule_105 (by decide) (fun c433 => ?_) (fun c433 => False.elim (by omega))
            refine lv_bipush (v := zI 14) hx hb dX12_readsRule_113 (by decide) ?_
            refine k_Vi F w (As := [.int (zI 11), .int (zI 14)]) (rest := [.int (zI 2), .ref (B + 153)]) (a := 146) (kd_lt (a := 146) (show kd 146 = (12, 0, 0) from rfl) (by decide)) (sh_12 rfl _ _) rfl (q_X12_needs (x := 11) ⟨by omega, by omega⟩ (x1 := 14) ⟨by omega, by omega⟩ (tk := nz80) ((st_ne (Or.inl (by decide))).trans enz80) ⟨by omega, by omega⟩ (nb := nz81) ((st_ne (Or.inl (by decide))).trans enz81) ⟨by omega, by omega⟩ (by omega) (IvR.to hIN7 (a := 153) (k := 0) (x := 6) (show ivr 153 0 = ((-99), 300) from rfl) ⟨by omega, by omega⟩ ⟨by decide, by decide, by decide, fun q9 => absurd q9 (by decide)⟩)) gv_X12_227 hv_X12_needs ⟨(Nat.le_of_ble_eq_true rfl), (Nat.le_of_ble_eq_true rfl)⟩ hl.1 rfl (Nat.le_of_ble_eq_true rfl) ⟨Nat.zero_le _, Nat.zero_le _⟩ dX12_readsRule_115 (fun r434 N435 H locs hp w => ?_)
            obtain ⟨z436, rfl, bz436, ⟨nz4360, nz4361, enz4360, enz4361, xz436⟩, hIN435, hFN435⟩ := hp
            have hGN435 := Fr.tr (Fr.to hGN7 (by first | decide | (dsimp only; first | done | decide | omega) | omega)) hFN435 (S := (fun b9 k9 => (b9 = 146 ∧ k9 = 11) ∨ (b9 = 146 ∧ k9 = 13) ∨ (b9 = 146 ∧ k9 = 14) ∨ (b9 = 146 ∧ k9 = 15) ∨ (b9 = 146 ∧ k9 = 16) ∨ (b9 = 146 ∧ k9 = 9) ∨ b9 = 153)) (fun b k h => by (try dsimp only at h ⊢); rcases h with ⟨rfl, rfl⟩ | ⟨rfl, rfl⟩ | ⟨rfl, rfl⟩ | ⟨rfl, rfl⟩ | ⟨rfl, rfl⟩ | ⟨rfl, rfl⟩ <;> first | decide | omega)
            have kn437 : N435.1 153 0 = zI 6 := (hFN435 153 0 (by first | decide | (dsimp only; first | done | decide | omega) | omega)).trans (st_at)
            refine g_iast F w (a := 153) rfl (j := 2) ⟨by decide, by decide⟩ (by omega) dX12_readsRule_118 (fun H locs w => ?_)
            refine lv_iload_n hx hb dX12_readsRule_119 rfl (lv_at hl 0 rfl) ?_
            refine lv_bipush (v := zI 7) hx hb dX12_readsRule_120 (by decide) ?_
            refine z_icmp_ne (tgt := 148) hx hb (by omega) (by omega) dX12_readsRule_122 (by decide) (fun c438 => ?_) (fun c438 => False.elim (by omega))
            refine lv_iload_n hx hb dX12_readsRule_148 rfl (lv_at hl 0 rfl) ?_
            refine k_Si F w (As := [.int (zI 6)]) (rest := []) (q_X12_hasSide (x := 6) ⟨by omega, by omega⟩  (IvR.to hIN435 (a := 153) (k := 2) (x := z436) (show ivr 153 2 = ((-99), 300) from rfl) ⟨by omega, by omega⟩ ⟨by decide, by decide, by decide, fun q9 => absurd q9 (by decide)⟩)) gs_X12_137 hs_X12_hasSide ⟨(Nat.le_of_ble_eq_true rfl), (Nat.le_of_ble_eq_true rfl)⟩ hl.1 rfl (Nat.le_of_ble_eq_true rfl) ⟨Nat.zero_le _, Nat.zero_le _⟩ dX12_readsRule_149 (fun r439 N440 H locs hp w => ?_)
            obtain ⟨z441, rfl, bz441, xz441, hMN440⟩ := hp
            rw [hMN440] at w
            refine z_if_eq (tgt := 169) hx hb (by omega) dX12_readsRule_152 (by decide) (fun c442 => ?_) (fun c442 => False.elim (by omega))
            refine lv_iload_n hx hb dX12_readsRule_169 rfl (lv_at hl 0 rfl) ?_
            refine lv_iconst (v := zI 3) hx hb dX12_readsRule_170 rfl ?_
            refine z_icmp_eq (tgt := 180) hx hb (by omega) (by omega) dX12_readsRule_171 (by decide) (fun c443 => False.elim (by omega)) (fun c443 => ?_)
            refine lv_iload_n hx hb dX12_readsRule_174 rfl (lv_at hl 0 rfl) ?_
            refine lv_bipush (v := zI 8) hx hb dX12_readsRule_175 (by decide) ?_
            refine z_icmp_ne (tgt := 194) hx hb (by omega) (by omega) dX12_readsRule_177 (by decide) (fun c444 => ?_) (fun c444 => False.elim (by omega))
            refine lv_iload_n hx hb dX12_readsRule_194 rfl (lv_at hl 0 rfl) ?_
            refine lv_iconst (v := zI 1) hx hb dX12_readsRule_195 rfl ?_
            refine z_icmp_ne (tgt := 209) hx hb (by omega) (by omega) dX12_readsRule_196 (by decide) (fun c445 => ?_) (fun c445 => False.elim (by omega))
            refine lv_aload_n hx hb dX12_readsRule_209 rfl (lv_at hl 1 rfl) ?_
            refine f_12_16 F w (a := 146) rfl tb_669 dX12_readsRule_210 ?_
            obtain ⟨z446, bz446, ez446⟩ := IvR.ld (k := 16) (IvR.to hIN435 (a := 153) (k := 2) (x := z436) (show ivr 153 2 = ((-99), 300) from rfl) ⟨by omega, by omega⟩ ⟨by decide, by decide, by decide, fun q9 => absurd q9 (by decide)⟩) (show ivr 146 16 = (0, 1) from rfl) (show 146 ≤ 146 ∧ 146 < 159 by decide)
            refine r_val ez446 ?_
            refine z_if_ne (tgt := 236) hx hb (by omega) dX12_readsRule_213 (by decide) (fun c447 => ?_) (fun c447 => ?_)
            · refine lv_aload_n hx hb dX12_readsRule_236 rfl (lv_at hl 1 rfl) ?_
              refine f_12_16 F w (a := 146) rfl tb_669 dX12_readsRule_237 ?_
              obtain ⟨z448, bz448, ez448⟩ := IvR.ld (k := 16) (IvR.to hIN435 (a := 153) (k := 2) (x := z436) (show ivr 153 2 = ((-99), 300) from rfl) ⟨by omega, by omega⟩ ⟨by decide, by decide, by decide, fun q9 => absurd q9 (by decide)⟩) (show ivr 146 16 = (0, 1) from rfl) (show 146 ≤ 146 ∧ 146 < 159 by decide)
              refine r_val ez448 ?_
              refine z_if_eq (tgt := 244) hx hb (by omega) dX12_readsRule_240 (by decide) (fun c449 => ?_) (fun c449 => ?_)
              · refine lv_aload_n hx hb dX12_readsRule_244 rfl (lv_at hl 1 rfl) ?_
                refine f_12_13 F w (a := 146) rfl tb_602 dX12_readsRule_245 ?_
                refine r_val (v := zI nz4360) ((st_ne (Or.inl (by decide))).trans enz4360) ?_
                refine lv_iconst (v := zI 3) hx hb dX12_readsRule_248 rfl ?_
                refine z_icmp_ne (tgt := 259) hx hb (by omega) (by omega) dX12_readsRule_249 (by decide) (fun c450 => ?_) (fun c450 => ?_)
                · refine lv_aload_n hx hb dX12_readsRule_259 rfl (lv_at hl 1 rfl) ?_
                  refine lv_iconst (v := zI 1) hx hb dX12_readsRule_260 rfl ?_
                  refine u_12_16 F w (a := 146) rfl (nar_z (by omega)) (fit_z (by omega)) tb_669 dX12_readsRule_261 (fun H locs w => ?_)
                  obtain ⟨z451, bz451, ez451⟩ := IvR.ld (k := 3) (IvR.to (IvR.to hIN435 (a := 153) (k := 2) (x := z436) (show ivr 153 2 = ((-99), 300) from rfl) ⟨by omega, by omega⟩ ⟨by decide, by decide, by decide, fun q9 => absurd q9 (by decide)⟩) (a := 146) (k := 16) (x := 1) (show ivr 146 16 = (0, 1) from rfl) ⟨by omega, by omega⟩ ⟨by decide, by decide, by decide, fun q9 => absurd q9 (by decide)⟩) (show ivr 153 3 = (-99, 300) from rfl) (by decide)
                  rw [hQ]
                  exact e_v F w hr hlocks ⟨⟨nz4360, nz4361, 1, ((st_ne (Or.inr (by decide))).trans ((st_ne (Or.inl (by decide))).trans enz4360)), ((st_ne (Or.inr (by decide))).trans ((st_ne (Or.inl (by decide))).trans enz4361)), (st_at), ⟨by omega, by omega⟩, ⟨by omega, by omega⟩, ⟨by omega, by omega⟩, (by omega)⟩, (fun h8 => by have h9 := (zI_eq (a := 6) (b := 8) (by constructor <;> omega) (by constructor <;> omega)).mp (((st_ne (Or.inl (by decide))).trans ((st_ne (Or.inr (by decide))).trans kn437)).symm.trans h8); exact ⟨z451, by omega, by omega, ez451⟩), (IvR.to (IvR.to hIN435 (a := 153) (k := 2) (x := z436) (show ivr 153 2 = ((-99), 300) from rfl) ⟨by omega, by omega⟩ ⟨by decide, by decide, by decide, fun q9 => absurd q9 (by decide)⟩) (a := 146) (k := 16) (x := 1) (show ivr 146 16 = (0, 1) from rfl) ⟨by omega, by omega⟩ ⟨by decide, by decide, by decide, fun q9 => absurd q9 (by decide)⟩), (Fr.to (Fr.to hGN435 (by first | decide | (dsimp only; first | done | decide | omega) | omega)) (by first | decide | (dsimp only; first | done | decide | omega) | omega))⟩ dX12_readsRule_264
                · refine lv_aload_n hx hb dX12_readsRule_252 rfl (lv_at hl 1 rfl) ?_
                  refine k_Vv F w (As := []) (rest := []) (a := 146) (kd_lt (a := 146) (show kd 146 = (12, 0, 0) from rfl) (by decide)) (sh_12 rfl _ _) rfl (q_X12_goesOn   (IvR.to hIN435 (a := 153) (k := 2) (x := z436) (show ivr 153 2 = ((-99), 300) from rfl) ⟨by omega, by omega⟩ ⟨by decide, by decide, by decide, fun q9 => absurd q9 (by decide)⟩)) gv_X12_221 hv_X12_goesOn ⟨(Nat.le_of_ble_eq_true rfl), (Nat.le_of_ble_eq_true rfl)⟩ hl.1 rfl (Nat.le_of_ble_eq_true rfl) ⟨Nat.zero_le _, Nat.zero_le _⟩ dX12_readsRule_253 (fun N453 H locs hp w => ?_)
                  obtain ⟨⟨nz4540, nz4541, enz4540, enz4541, xz454⟩, hIN453, hFN453⟩ := hp
                  have hGN453 := Fr.tr (Fr.to hGN435 (by first | decide | (dsimp only; first | done | decide | omega) | omega)) hFN453 (S := (fun b9 k9 => (b9 = 146 ∧ k9 = 11) ∨ (b9 = 146 ∧ k9 = 13) ∨ (b9 = 146 ∧ k9 = 14) ∨ (b9 = 146 ∧ k9 = 15) ∨ (b9 = 146 ∧ k9 = 16) ∨ (b9 = 146 ∧ k9 = 9) ∨ b9 = 153)) (fun b k h => by (try dsimp only at h ⊢); rcases h with ⟨rfl, rfl⟩ | ⟨rfl, rfl⟩ | ⟨rfl, rfl⟩ | ⟨rfl, rfl⟩ | ⟨rfl, rfl⟩ <;> first | decide | omega)
                  have kn455 : N453.1 153 0 = zI 6 := (hFN453 153 0 (by first | decide | (dsimp only; first | done | decide | omega) | omega)).trans ((st_ne (Or.inr (by decide))).trans kn437)
                  have kn456 : N453.1 153 2 = zI z436 := (hFN453 153 2 (by first | decide | (dsimp only; first | done | decide | omega) | omega)).trans (st_at)
                  refine lv_goto (tgt := 264) hx hb dX12_readsRule_256 (by decide) ?_
                  obtain ⟨z457, bz457, ez457⟩ := IvR.ld (k := 16) hIN453 (show ivr 146 16 = (0, 1) from rfl) (show 146 ≤ 146 ∧ 146 < 159 by decide)
                  obtain ⟨z458, bz458, ez458⟩ := IvR.ld (k := 3) hIN453 (show ivr 153 3 = (-99, 300) from rfl) (by decide)
                  rw [hQ]
                  exact e_v F w hr hlocks ⟨⟨nz4540, nz4541, z457, (enz4540), (enz4541), (ez457), ⟨by omega, by omega⟩, ⟨by omega, by omega⟩, ⟨by omega, by omega⟩, (by omega)⟩, (fun h8 => by have h9 := (zI_eq (a := 6) (b := 8) (by constructor <;> omega) (by constructor <;> omega)).mp ((kn455).symm.trans h8); exact ⟨z458, by omega, by omega, ez458⟩), hIN453, hGN453⟩ dX12_readsRule_264
              · obtain ⟨z459, bz459, ez459⟩ := IvR.ld (k := 16) (IvR.to hIN435 (a := 153) (k := 2) (x := z436) (show ivr 153 2 = ((-99), 300) from rfl) ⟨by omega, by omega⟩ ⟨by decide, by decide, by decide, fun q9 => absurd q9 (by decide)⟩) (show ivr 146 16 = (0, 1) from rfl) (show 146 ≤ 146 ∧ 146 < 159 by decide)
                obtain ⟨z460, bz460, ez460⟩ := IvR.ld (k := 3) (IvR.to hIN435 (a := 153) (k := 2) (x := z436) (show ivr 153 2 = ((-99), 300) from rfl) ⟨by omega, by omega⟩ ⟨by decide, by decide, by decide, fun q9 => absurd q9 (by decide)⟩) (show ivr 153 3 = (-99, 300) from rfl) (by decide)
                rw [hQ]
                exact e_v F w hr hlocks ⟨⟨nz4360, nz4361, z459, ((st_ne (Or.inl (by decide))).trans enz4360), ((st_ne (Or.inl (by decide))).trans enz4361), (ez459), ⟨by omega, by omega⟩, ⟨by omega, by omega⟩, ⟨by omega, by omega⟩, (by omega)⟩, (fun h8 => by have h9 := (zI_eq (a := 6) (b := 8) (by constructor <;> omega) (by constructor <;> omega)).mp (((st_ne (Or.inr (by decide))).trans kn437).symm.trans h8); exact ⟨z460, by omega, by omega, ez460⟩), (IvR.to hIN435 (a := 153) (k := 2) (x := z436) (show ivr 153 2 = ((-99), 300) from rfl) ⟨by omega, by omega⟩ ⟨by decide, by decide, by decide, fun q9 => absurd q9 (by decide)⟩), (Fr.to hGN435 (by first | decide | (dsimp only; first | done | decide | omega) | omega))⟩ dX12_readsRule_243
            · refine lv_iload_n hx hb dX12_readsRule_216 rfl (lv_at hl 0 rfl) ?_
              refine k_Si F w (As := [.int (zI 6)]) (rest := []) (q_X12_isBySyllables (x := 6) ⟨by omega, by omega⟩  (IvR.to hIN435 (a := 153) (k := 2) (x := z436) (show ivr 153 2 = ((-99), 300) from rfl) ⟨by omega, by omega⟩ ⟨by decide, by decide, by decide, fun q9 => absurd q9 (by decide)⟩)) gs_X12_140 hs_X12_isBySyllables ⟨(Nat.le_of_ble_eq_true rfl), (Nat.le_of_ble_eq_true rfl)⟩ hl.1 rfl (Nat.le_of_ble_eq_true rfl) ⟨Nat.zero_le _, Nat.zero_le _⟩ dX12_readsRule_217 (fun r461 N462 H locs hp w => ?_)
              obtain ⟨z463, rfl, bz463, xz463, hMN462⟩ := hp
              rw [hMN462] at w
              refine z_if_ne (tgt := 236) hx hb (by omega) dX12_readsRule_220 (by decide) (fun c464 => False.elim (by omega)) (fun c464 => ?_)
              refine lv_aload_n hx hb dX12_readsRule_223 rfl (lv_at hl 1 rfl) ?_
              refine lv_bipush (v := zI 20) hx hb dX12_readsRule_224 (by decide) ?_
              refine k_Vi F w (As := [.int (zI 20)]) (rest := []) (a := 146) (kd_lt (a := 146) (show kd 146 = (12, 0, 0) from rfl) (by decide)) (sh_12 rfl _ _) rfl (q_X12_isWord (x := 20) ⟨by omega, by omega⟩  (IvR.to hIN435 (a := 153) (k := 2) (x := z436) (show ivr 153 2 = ((-99), 300) from rfl) ⟨by omega, by omega⟩ ⟨by decide, by decide, by decide, fun q9 => absurd q9 (by decide)⟩)) gv_X12_224 hv_X12_isWord ⟨(Nat.le_of_ble_eq_true rfl), (Nat.le_of_ble_eq_true rfl)⟩ hl.1 rfl (Nat.le_of_ble_eq_true rfl) ⟨Nat.zero_le _, Nat.zero_le _⟩ dX12_readsRule_226 (fun r465 N466 H locs hp w => ?_)
              obtain ⟨z467, rfl, bz467, hMN466⟩ := hp
              rw [hMN466] at w
              refine z_if_eq (tgt := 236) hx hb (by omega) dX12_readsRule_229 (by decide) (fun c468 => ?_) (fun c468 => ?_)
              · refine lv_aload_n hx hb dX12_readsRule_236 rfl (lv_at hl 1 rfl) ?_
                refine f_12_16 F w (a := 146) rfl tb_669 dX12_readsRule_237 ?_
                obtain ⟨z469, bz469, ez469⟩ := IvR.ld (k := 16) (IvR.to hIN435 (a := 153) (k := 2) (x := z436) (show ivr 153 2 = ((-99), 300) from rfl) ⟨by omega, by omega⟩ ⟨by decide, by decide, by decide, fun q9 => absurd q9 (by decide)⟩) (show ivr 146 16 = (0, 1) from rfl) (show 146 ≤ 146 ∧ 146 < 159 by decide)
                refine r_val ez469 ?_
                refine z_if_eq (tgt := 244) hx hb (by omega) dX12_readsRule_240 (by decide) (fun c470 => ?_) (fun c470 => ?_)
                · refine lv_aload_n hx hb dX12_readsRule_244 rfl (lv_at hl 1 rfl) ?_
                  refine f_12_13 F w (a := 146) rfl tb_602 dX12_readsRule_245 ?_
                  refine r_val (v := zI nz4360) ((st_ne (Or.inl (by decide))).trans enz4360) ?_
                  refine lv_iconst (v := zI 3) hx hb dX12_readsRule_248 rfl ?_
                  refine z_icmp_ne (tgt := 259) hx hb (by omega) (by omega) dX12_readsRule_249 (by decide) (fun c471 => ?_) (fun c471 => ?_)
                  · refine lv_aload_n hx hb dX12_readsRule_259 rfl (lv_at hl 1 rfl) ?_
                    refine lv_iconst (v := zI 1) hx hb dX12_readsRule_260 rfl ?_
                    refine u_12_16 F w (a := 146) rfl (nar_z (by omega)) (fit_z (by omega)) tb_669 dX12_readsRule_261 (fun H locs w => ?_)
                    obtain ⟨z472, bz472, ez472⟩ := IvR.ld (k := 3) (IvR.to (IvR.to hIN435 (a := 153) (k := 2) (x := z436) (show ivr 153 2 = ((-99), 300) from rfl) ⟨by omega, by omega⟩ ⟨by decide, by decide, by decide, fun q9 => absurd q9 (by decide)⟩) (a := 146) (k := 16) (x := 1) (show ivr 146 16 = (0, 1) from rfl) ⟨by omega, by omega⟩ ⟨by decide, by decide, by decide, fun q9 => absurd q9 (by decide)⟩) (show ivr 153 3 = (-99, 300) from rfl) (by decide)
                    rw [hQ]
                    exact e_v F w hr hlocks ⟨⟨nz4360, nz4361, 1, ((st_ne (Or.inr (by decide))).trans ((st_ne (Or.inl (by decide))).trans enz4360)), ((st_ne (Or.inr (by decide))).trans ((st_ne (Or.inl (by decide))).trans enz4361)), (st_at), ⟨by omega, by omega⟩, ⟨by omega, by omega⟩, ⟨by omega, by omega⟩, (by omega)⟩, (fun h8 => by have h9 := (zI_eq (a := 6) (b := 8) (by constructor <;> omega) (by constructor <;> omega)).mp (((st_ne (Or.inl (by decide))).trans ((st_ne (Or.inr (by decide))).trans kn437)).symm.trans h8); exact ⟨z472, by omega, by omega, ez472⟩), (IvR.to (IvR.to hIN435 (a := 153) (k := 2) (x := z436) (show ivr 153 2 = ((-99), 300) from rfl) ⟨by omega, by omega⟩ ⟨by decide, by decide, by decide, fun q9 => absurd q9 (by decide)⟩) (a := 146) (k := 16) (x := 1) (show ivr 146 16 = (0, 1) from rfl) ⟨by omega, by omega⟩ ⟨by decide, by decide, by decide, fun q9 => absurd q9 (by decide)⟩), (Fr.to (Fr.to hGN435 (by first | decide | (dsimp only; first | done | decide | omega) | omega)) (by first | decide | (dsimp only; first | done | decide | omega) | omega))⟩ dX12_readsRule_264
                  · refine lv_aload_n hx hb dX12_readsRule_252 rfl (lv_at hl 1 rfl) ?_
                    refine k_Vv F w (As := []) (rest := []) (a := 146) (kd_lt (a := 146) (show kd 146 = (12, 0, 0) from rfl) (by decide)) (sh_12 rfl _ _) rfl (q_X12_goesOn   (IvR.to hIN435 (a := 153) (k := 2) (x := z436) (show ivr 153 2 = ((-99), 300) from rfl) ⟨by omega, by omega⟩ ⟨by decide, by decide, by decide, fun q9 => absurd q9 (by decide)⟩)) gv_X12_221 hv_X12_goesOn ⟨(Nat.le_of_ble_eq_true rfl), (Nat.le_of_ble_eq_true rfl)⟩ hl.1 rfl (Nat.le_of_ble_eq_true rfl) ⟨Nat.zero_le _, Nat.zero_le _⟩ dX12_readsRule_253 (fun N474 H locs hp w => ?_)
                    obtain ⟨⟨nz4750, nz4751, enz4750, enz4751, xz475⟩, hIN474, hFN474⟩ := hp
                    have hGN474 := Fr.tr (Fr.to hGN435 (by first | decide | (dsimp only; first | done | decide | omega) | omega)) hFN474 (S := (fun b9 k9 => (b9 = 146 ∧ k9 = 11) ∨ (b9 = 146 ∧ k9 = 13) ∨ (b9 = 146 ∧ k9 = 14) ∨ (b9 = 146 ∧ k9 = 15) ∨ (b9 = 146 ∧ k9 = 16) ∨ (b9 = 146 ∧ k9 = 9) ∨ b9 = 153)) (fun b k h => by (try dsimp only at h ⊢); rcases h with ⟨rfl, rfl⟩ | ⟨rfl, rfl⟩ | ⟨rfl, rfl⟩ | ⟨rfl, rfl⟩ | ⟨rfl, rfl⟩ <;> first | decide | omega)
                    have kn476 : N474.1 153 0 = zI 6 := (hFN474 153 0 (by first | decide | (dsimp only; first | done | decide | omega) | omega)).trans ((st_ne (Or.inr (by decide))).trans kn437)
                    have kn477 : N474.1 153 2 = zI z436 := (hFN474 153 2 (by first | decide | (dsimp only; first | done | decide | omega) | omega)).trans (st_at)
                    refine lv_goto (tgt := 264) hx hb dX12_readsRule_256 (by decide) ?_
                    obtain ⟨z478, bz478, ez478⟩ := IvR.ld (k := 16) hIN474 (show ivr 146 16 = (0, 1) from rfl) (show 146 ≤ 146 ∧ 146 < 159 by decide)
                    obtain ⟨z479, bz479, ez479⟩ := IvR.ld (k := 3) hIN474 (show ivr 153 3 = (-99, 300) from rfl) (by decide)
                    rw [hQ]
                    exact e_v F w hr hlocks ⟨⟨nz4750, nz4751, z478, (enz4750), (enz4751), (ez478), ⟨by omega, by omega⟩, ⟨by omega, by omega⟩, ⟨by omega, by omega⟩, (by omega)⟩, (fun h8 => by have h9 := (zI_eq (a := 6) (b := 8) (by constructor <;> omega) (by constructor <;> omega)).mp ((kn476).symm.trans h8); exact ⟨z479, by omega, by omega, ez479⟩), hIN474, hGN474⟩ dX12_readsRule_264
                · obtain ⟨z480, bz480, ez480⟩ := IvR.ld (k := 16) (IvR.to hIN435 (a := 153) (k := 2) (x := z436) (show ivr 153 2 = ((-99), 300) from rfl) ⟨by omega, by omega⟩ ⟨by decide, by decide, by decide, fun q9 => absurd q9 (by decide)⟩) (show ivr 146 16 = (0, 1) from rfl) (show 146 ≤ 146 ∧ 146 < 159 by decide)
                  obtain ⟨z481, bz481, ez481⟩ := IvR.ld (k := 3) (IvR.to hIN435 (a := 153) (k := 2) (x := z436) (show ivr 153 2 = ((-99), 300) from rfl) ⟨by omega, by omega⟩ ⟨by decide, by decide, by decide, fun q9 => absurd q9 (by decide)⟩) (show ivr 153 3 = (-99, 300) from rfl) (by decide)
                  rw [hQ]
                  exact e_v F w hr hlocks ⟨⟨nz4360, nz4361, z480, ((st_ne (Or.inl (by decide))).trans enz4360), ((st_ne (Or.inl (by decide))).trans enz4361), (ez480), ⟨by omega, by omega⟩, ⟨by omega, by omega⟩, ⟨by omega, by omega⟩, (by omega)⟩, (fun h8 => by have h9 := (zI_eq (a := 6) (b := 8) (by constructor <;> omega) (by constructor <;> omega)).mp (((st_ne (Or.inr (by decide))).trans kn437).symm.trans h8); exact ⟨z481, by omega, by omega, ez481⟩), (IvR.to hIN435 (a := 153) (k := 2) (x := z436) (show ivr 153 2 = ((-99), 300) from rfl) ⟨by omega, by omega⟩ ⟨by decide, by decide, by decide, fun q9 => absurd q9 (by decide)⟩), (Fr.to hGN435 (by first | decide | (dsimp only; first | done | decide | omega) | omega))⟩ dX12_readsRule_243
              · refine lv_aload_n hx hb dX12_readsRule_232 rfl (lv_at hl 1 rfl) ?_
                refine k_Vv F w (As := []) (rest := []) (a := 146) (kd_lt (a := 146) (show kd 146 = (12, 0, 0) from rfl) (by decide)) (sh_12 rfl _ _) rfl (q_X12_readsTest   (IvR.to hIN435 (a := 153) (k := 2) (x := z436) (show ivr 153 2 = ((-99), 300) from rfl) ⟨by omega, by omega⟩ ⟨by decide, by decide, by decide, fun q9 => absurd q9 (by decide)⟩)) gv_X12_233 hv_X12_readsTest ⟨(Nat.le_of_ble_eq_true rfl), (Nat.le_of_ble_eq_true rfl)⟩ hl.1 rfl (Nat.le_of_ble_eq_true rfl) ⟨Nat.zero_le _, Nat.zero_le _⟩ dX12_readsRule_233 (fun N483 H locs hp w => ?_)
                obtain ⟨⟨nz4840, nz4841, enz4840, enz4841, xz484⟩, hIN483, hFN483⟩ := hp
                have hGN483 := Fr.tr (Fr.to hGN435 (by first | decide | (dsimp only; first | done | decide | omega) | omega)) hFN483 (S := (fun b9 k9 => (b9 = 146 ∧ k9 = 11) ∨ (b9 = 146 ∧ k9 = 13) ∨ (b9 = 146 ∧ k9 = 14) ∨ (b9 = 146 ∧ k9 = 15) ∨ (b9 = 146 ∧ k9 = 16) ∨ (b9 = 146 ∧ k9 = 9) ∨ b9 = 153)) (fun b k h => by (try dsimp only at h ⊢); rcases h with ⟨rfl, rfl⟩ | ⟨rfl, rfl⟩ | ⟨rfl, rfl⟩ | ⟨rfl, rfl⟩ | ⟨rfl, rfl⟩ | ⟨rfl, rfl⟩ | ⟨rfl, q1, q2⟩ | ⟨rfl, q1, q2⟩ | ⟨rfl, q1, q2⟩ <;> first | decide | omega)
                have kn485 : N483.1 153 0 = zI 6 := (hFN483 153 0 (by first | decide | (dsimp only; first | done | decide | omega) | omega)).trans ((st_ne (Or.inr (by decide))).trans kn437)
                have kn486 : N483.1 153 2 = zI z436 := (hFN483 153 2 (by first | decide | (dsimp only; first | done | decide | omega) | omega)).trans (st_at)
                refine lv_aload_n hx hb dX12_readsRule_236 rfl (lv_at hl 1 rfl) ?_
                refine f_12_16 F w (a := 146) rfl tb_669 dX12_readsRule_237 ?_
                obtain ⟨z487, bz487, ez487⟩ := IvR.ld (k := 16) hIN483 (show ivr 146 16 = (0, 1) from rfl) (show 146 ≤ 146 ∧ 146 < 159 by decide)
                refine r_val ez487 ?_
                refine z_if_eq (tgt := 244) hx hb (by omega) dX12_readsRule_240 (by decide) (fun c488 => ?_) (fun c488 => ?_)
                · refine lv_aload_n hx hb dX12_readsRule_244 rfl (lv_at hl 1 rfl) ?_
                  refine f_12_13 F w (a := 146) rfl tb_602 dX12_readsRule_245 ?_
                  refine r_val (v := zI nz4840) (enz4840) ?_
                  refine lv_iconst (v := zI 3) hx hb dX12_readsRule_248 rfl ?_
                  refine z_icmp_ne (tgt := 259) hx hb (by omega) (by omega) dX12_readsRule_249 (by decide) (fun c489 => ?_) (fun c489 => ?_)
                  · refine lv_aload_n hx hb dX12_readsRule_259 rfl (lv_at hl 1 rfl) ?_
                    refine lv_iconst (v := zI 1) hx hb dX12_readsRule_260 rfl ?_
                    refine u_12_16 F w (a := 146) rfl (nar_z (by omega)) (fit_z (by omega)) tb_669 dX12_readsRule_261 (fun H locs w => ?_)
                    obtain ⟨z490, bz490, ez490⟩ := IvR.ld (k := 3) (IvR.to hIN483 (a := 146) (k := 16) (x := 1) (show ivr 146 16 = (0, 1) from rfl) ⟨by omega, by omega⟩ ⟨by decide, by decide, by decide, fun q9 => absurd q9 (by decide)⟩) (show ivr 153 3 = (-99, 300) from rfl) (by decide)
                    rw [hQ]
                    exact e_v F w hr hlocks ⟨⟨nz4840, nz4841, 1, ((st_ne (Or.inr (by decide))).trans enz4840), ((st_ne (Or.inr (by decide))).trans enz4841), (st_at), ⟨by omega, by omega⟩, ⟨by omega, by omega⟩, ⟨by omega, by omega⟩, (by omega)⟩, (fun h8 => by have h9 := (zI_eq (a := 6) (b := 8) (by constructor <;> omega) (by constructor <;> omega)).mp (((st_ne (Or.inl (by decide))).trans kn485).symm.trans h8); exact ⟨z490, by omega, by omega, ez490⟩), (IvR.to hIN483 (a := 146) (k := 16) (x := 1) (show ivr 146 16 = (0, 1) from rfl) ⟨by omega, by omega⟩ ⟨by decide, by decide, by decide, fun q9 => absurd q9 (by decide)⟩), (Fr.to hGN483 (by first | decide | (dsimp only; first | done | decide | omega) | omega))⟩ dX12_readsRule_264
                  · refine lv_aload_n hx hb dX12_readsRule_252 rfl (lv_at hl 1 rfl) ?_
                    refine k_Vv F w (As := []) (rest := []) (a := 146) (kd_lt (a := 146) (show kd 146 = (12, 0, 0) from rfl) (by decide)) (sh_12 rfl _ _) rfl (q_X12_goesOn   hIN483) gv_X12_221 hv_X12_goesOn ⟨(Nat.le_of_ble_eq_true rfl), (Nat.le_of_ble_eq_true rfl)⟩ hl.1 rfl (Nat.le_of_ble_eq_true rfl) ⟨Nat.zero_le _, Nat.zero_le _⟩ dX12_readsRule_253 (fun N492 H locs hp w => ?_)
                    obtain ⟨⟨nz4930, nz4931, enz4930, enz4931, xz493⟩, hIN492, hFN492⟩ := hp
                    have hGN492 := Fr.tr hGN483 hFN492 (S := (fun b9 k9 => (b9 = 146 ∧ k9 = 11) ∨ (b9 = 146 ∧ k9 = 13) ∨ (b9 = 146 ∧ k9 = 14) ∨ (b9 = 146 ∧ k9 = 15) ∨ (b9 = 146 ∧ k9 = 16) ∨ (b9 = 146 ∧ k9 = 9) ∨ b9 = 153)) (fun b k h => by (try dsimp only at h ⊢); rcases h with ⟨rfl, rfl⟩ | ⟨rfl, rfl⟩ | ⟨rfl, rfl⟩ | ⟨rfl, rfl⟩ | ⟨rfl, rfl⟩ <;> first | decide | omega)
                    have kn494 : N492.1 153 0 = zI 6 := (hFN492 153 0 (by first | decide | (dsimp only; first | done | decide | omega) | omega)).trans (kn485)
                    have kn495 : N492.1 153 2 = zI z436 := (hFN492 153 2 (by first | decide | (dsimp only; first | done | decide | omega) | omega)).trans (kn486)
                    have kn496 : N492.1 146 16 = zI z487 := (hFN492 146 16 (by first | decide | (dsimp only; first | done | decide | omega) | omega)).trans (ez487)
                    refine lv_goto (tgt := 264) hx hb dX12_readsRule_256 (by decide) ?_
                    obtain ⟨z497, bz497, ez497⟩ := IvR.ld (k := 3) hIN492 (show ivr 153 3 = (-99, 300) from rfl) (by decide)
                    rw [hQ]
                    exact e_v F w hr hlocks ⟨⟨nz4930, nz4931, z487, (enz4930), (enz4931), (kn496), ⟨by omega, by omega⟩, ⟨by omega, by omega⟩, ⟨by omega, by omega⟩, (by omega)⟩, (fun h8 => by have h9 := (zI_eq (a := 6) (b := 8) (by constructor <;> omega) (by constructor <;> omega)).mp ((kn494).symm.trans h8); exact ⟨z497, by omega, by omega, ez497⟩), hIN492, hGN492⟩ dX12_readsRule_264
                · obtain ⟨z498, bz498, ez498⟩ := IvR.ld (k := 3) hIN483 (show ivr 153 3 = (-99, 300) from rfl) (by decide)
                  rw [hQ]
                  exact e_v F w hr hlocks ⟨⟨nz4840, nz4841, z487, (enz4840), (enz4841), (ez487), ⟨by omega, by omega⟩, ⟨by omega, by omega⟩, ⟨by omega, by omega⟩, (by omega)⟩, (fun h8 => by have h9 := (zI_eq (a := 6) (b := 8) (by constructor <;> omega) (by constructor <;> omega)).mp ((kn485).symm.trans h8); exact ⟨z498, by omega, by omega, ez498⟩), hIN483, hGN483⟩ dX12_readsRule_243
          · refine lv_istore_n (lv' := [(1, .int (zI 7)), (0, .ref (B + 146))]) hx hb dX12_readsRule_63 rfl hl (by decide) rfl (fun ls hl => ?_)
            refine lv_aload_n hx hb dX12_readsRule_64 rfl (lv_at hl 1 rfl) ?_
            refine f_12_17 F w (a := 146) rfl tb_676 dX12_readsRule_65 ?_
            refine lv_iconst (v := zI 0) hx hb dX12_readsRule_68 rfl ?_
            refine lv_iload_n hx hb dX12_readsRule_69 rfl (lv_at hl 0 rfl) ?_
            refine g_iast F w (a := 153) rfl (j := 0) ⟨by decide, by decide⟩ (by omega) dX12_readsRule_70 (fun H locs w => ?_)
            refine lv_iload_n hx hb dX12_readsRule_71 rfl (lv_at hl 0 rfl) ?_
            refine lv_bipush (v := zI 8) hx hb dX12_readsRule_72 (by decide) ?_
            refine z_icmp_ne (tgt := 90) hx hb (by omega) (by omega) dX12_readsRule_74 (by decide) (fun c499 => ?_) (fun c499 => False.elim (by omega))
            refine lv_iload_n hx hb dX12_readsRule_90 rfl (lv_at hl 0 rfl) ?_
            refine z_if_eq (tgt := 119) hx hb (by omega) dX12_readsRule_91 (by decide) (fun c500 => False.elim (by omega)) (fun c500 => ?_)
            refine lv_aload_n hx hb dX12_readsRule_94 rfl (lv_at hl 1 rfl) ?_
            refine f_12_17 F w (a := 146) rfl tb_676 dX12_readsRule_95 ?_
            refine lv_iconst (v := zI 2) hx hb dX12_readsRule_98 rfl ?_
            refine lv_aload_n hx hb dX12_readsRule_99 rfl (lv_at hl 1 rfl) ?_
            refine lv_bipush (v := zI 11) hx hb dX12_readsRule_100 (by decide) ?_
            refine lv_iload_n hx hb dX12_readsRule_102 rfl (lv_at hl 0 rfl) ?_
            refine lv_bipush (v := zI 9) hx hb dX12_readsRule_103 (by decide) ?_
            refine z_icmp_ne (tgt := 113) hx hb (by omega) (by omega) dX12_readsRule_105 (by decide) (fun c501 => ?_) (fun c501 => False.elim (by omega))
            refine lv_bipush (v := zI 14) hx hb dX12_readsRule_113 (by decide) ?_
            refine k_Vi F w (As := [.int (zI 11), .int (zI 14)]) (rest := [.int (zI 2), .ref (B + 153)]) (a := 146) (kd_lt (a := 146) (show kd 146 = (12, 0, 0) from rfl) (by decide)) (sh_12 rfl _ _) rfl (q_X12_needs (x := 11) ⟨by omega, by omega⟩ (x1 := 14) ⟨by omega, by omega⟩ (tk := nz80) ((st_ne (Or.inl (by decide))).trans enz80) ⟨by omega, by omega⟩ (nb := nz81) ((st_ne (Or.inl (by decide))).trans enz81) ⟨by omega, by omega⟩ (by omega) (IvR.to hIN7 (a := 153) (k := 0) (x := 7) (show ivr 153 0 = ((-99), 300) from rfl) ⟨by omega, by omega⟩ ⟨by decide, by decide, by decide, fun q9 => absurd q9 (by decide)⟩)) gv_X12_227 hv_X12_needs ⟨(Nat.le_of_ble_eq_true rfl), (Nat.le_of_ble_eq_true rfl)⟩ hl.1 rfl (Nat.le_of_ble_eq_true rfl) ⟨Nat.zero_le _, Nat.zero_le _⟩ dX12_readsRule_115 (fun r502 N503 H locs hp w => ?_)
            obtain ⟨z504, rfl, bz504, ⟨nz5040, nz5041, enz5040, enz5041, xz504⟩, hIN503, hFN503⟩ := hp
            have hGN503 := Fr.tr (Fr.to hGN7 (by first | decide | (dsimp only; first | done | decide | omega) | omega)) hFN503 (S := (fun b9 k9 => (b9 = 146 ∧ k9 = 11) ∨ (b9 = 146 ∧ k9 = 13) ∨ (b9 = 146 ∧ k9 = 14) ∨ (b9 = 146 ∧ k9 = 15) ∨ (b9 = 146 ∧ k9 = 16) ∨ (b9 = 146 ∧ k9 = 9) ∨ b9 = 153)) (fun b k h => by (try dsimp only at h ⊢); rcases h with ⟨rfl, rfl⟩ | ⟨rfl, rfl⟩ | ⟨rfl, rfl⟩ | ⟨rfl, rfl⟩ | ⟨rfl, rfl⟩ | ⟨rfl, rfl⟩ <;> first | decide | omega)
            have kn505 : N503.1 153 0 = zI 7 := (hFN503 153 0 (by first | decide | (dsimp only; first | done | decide | omega) | omega)).trans (st_at)
            refine g_iast F w (a := 153) rfl (j := 2) ⟨by decide, by decide⟩ (by omega) dX12_readsRule_118 (fun H locs w => ?_)
            refine lv_iload_n hx hb dX12_readsRule_119 rfl (lv_at hl 0 rfl) ?_
            refine lv_bipush (v := zI 7) hx hb dX12_readsRule_120 (by decide) ?_
            refine z_icmp_ne (tgt := 148) hx hb (by omega) (by omega) dX12_readsRule_122 (by decide) (fun c506 => False.elim (by omega)) (fun c506 => ?_)
            refine lv_aload_n hx hb dX12_readsRule_125 rfl (lv_at hl 1 rfl) ?_
            refine lv_bipush (v := zI 19) hx hb dX12_readsRule_126 (by decide) ?_
            refine lv_bipush (v := zI 19) hx hb dX12_readsRule_128 (by decide) ?_
            refine k_Vi F w (As := [.int (zI 19), .int (zI 19)]) (rest := []) (a := 146) (kd_lt (a := 146) (show kd 146 = (12, 0, 0) from rfl) (by decide)) (sh_12 rfl _ _) rfl (q_X12_needs (x := 19) ⟨by omega, by omega⟩ (x1 := 19) ⟨by omega, by omega⟩ (tk := nz5040) ((st_ne (Or.inl (by decide))).trans enz5040) ⟨by omega, by omega⟩ (nb := nz5041) ((st_ne (Or.inl (by decide))).trans enz5041) ⟨by omega, by omega⟩ (by omega) (IvR.to hIN503 (a := 153) (k := 2) (x := z504) (show ivr 153 2 = ((-99), 300) from rfl) ⟨by omega, by omega⟩ ⟨by decide, by decide, by decide, fun q9 => absurd q9 (by decide)⟩)) gv_X12_227 hv_X12_needs ⟨(Nat.le_of_ble_eq_true rfl), (Nat.le_of_ble_eq_true rfl)⟩ hl.1 rfl (Nat.le_of_ble_eq_true rfl) ⟨Nat.zero_le _, Nat.zero_le _⟩ dX12_readsRule_130 (fun r507 N508 H locs hp w => ?_)
            obtain ⟨z509, rfl, bz509, ⟨nz5090, nz5091, enz5090, enz5091, xz509⟩, hIN508, hFN508⟩ := hp
            have hGN508 := Fr.tr (Fr.to hGN503 (by first | decide | (dsimp only; first | done | decide | omega) | omega)) hFN508 (S := (fun b9 k9 => (b9 = 146 ∧ k9 = 11) ∨ (b9 = 146 ∧ k9 = 13) ∨ (b9 = 146 ∧ k9 = 14) ∨ (b9 = 146 ∧ k9 = 15) ∨ (b9 = 146 ∧ k9 = 16) ∨ (b9 = 146 ∧ k9 = 9) ∨ b9 = 153)) (fun b k h => by (try dsimp only at h ⊢); rcases h with ⟨rfl, rfl⟩ | ⟨rfl, rfl⟩ | ⟨rfl, rfl⟩ | ⟨rfl, rfl⟩ | ⟨rfl, rfl⟩ | ⟨rfl, rfl⟩ <;> first | decide | omega)
            have kn510 : N508.1 153 0 = zI 7 := (hFN508 153 0 (by first | decide | (dsimp only; first | done | decide | omega) | omega)).trans ((st_ne (Or.inr (by decide))).trans kn505)
            have kn511 : N508.1 153 2 = zI z504 := (hFN508 153 2 (by first | decide | (dsimp only; first | done | decide | omega) | omega)).trans (st_at)
            refine lv_pop hx hb dX12_readsRule_133 rfl ?_
            refine lv_aload_n hx hb dX12_readsRule_134 rfl (lv_at hl 1 rfl) ?_
            refine f_12_17 F w (a := 146) rfl tb_676 dX12_readsRule_135 ?_
            refine lv_iconst (v := zI 3) hx hb dX12_readsRule_138 rfl ?_
            refine lv_aload_n hx hb dX12_readsRule_139 rfl (lv_at hl 1 rfl) ?_
            refine lv_bipush (v := zI 11) hx hb dX12_readsRule_140 (by decide) ?_
            refine lv_bipush (v := zI 13) hx hb dX12_readsRule_142 (by decide) ?_
            refine k_Vi F w (As := [.int (zI 11), .int (zI 13)]) (rest := [.int (zI 3), .ref (B + 153)]) (a := 146) (kd_lt (a := 146) (show kd 146 = (12, 0, 0) from rfl) (by decide)) (sh_12 rfl _ _) rfl (q_X12_needs (x := 11) ⟨by omega, by omega⟩ (x1 := 13) ⟨by omega, by omega⟩ (tk := nz5090) (enz5090) ⟨by omega, by omega⟩ (nb := nz5091) (enz5091) ⟨by omega, by omega⟩ (by omega) hIN508) gv_X12_227 hv_X12_needs ⟨(Nat.le_of_ble_eq_true rfl), (Nat.le_of_ble_eq_true rfl)⟩ hl.1 rfl (Nat.le_of_ble_eq_true rfl) ⟨Nat.zero_le _, Nat.zero_le _⟩ dX12_readsRule_144 (fun r512 N513 H locs hp w => ?_)
            obtain ⟨z514, rfl, bz514, ⟨nz5140, nz5141, enz5140, enz5141, xz514⟩, hIN513, hFN513⟩ := hp
            have hGN513 := Fr.tr hGN508 hFN513 (S := (fun b9 k9 => (b9 = 146 ∧ k9 = 11) ∨ (b9 = 146 ∧ k9 = 13) ∨ (b9 = 146 ∧ k9 = 14) ∨ (b9 = 146 ∧ k9 = 15) ∨ (b9 = 146 ∧ k9 = 16) ∨ (b9 = 146 ∧ k9 = 9) ∨ b9 = 153)) (fun b k h => by (try dsimp only at h ⊢); rcases h with ⟨rfl, rfl⟩ | ⟨rfl, rfl⟩ | ⟨rfl, rfl⟩ | ⟨rfl, rfl⟩ | ⟨rfl, rfl⟩ | ⟨rfl, rfl⟩ <;> first | decide | omega)
            have kn515 : N513.1 153 0 = zI 7 := (hFN513 153 0 (by first | decide | (dsimp only; first | done | decide | omega) | omega)).trans (kn510)
            have kn516 : N513.1 153 2 = zI z504 := (hFN513 153 2 (by first | decide | (dsimp only; first | done | decide | omega) | omega)).trans (kn511)
            refine g_iast F w (a := 153) rfl (j := 3) ⟨by decide, by decide⟩ (by omega) dX12_readsRule_147 (fun H locs w => ?_)
            refine lv_iload_n hx hb dX12_readsRule_148 rfl (lv_at hl 0 rfl) ?_
            refine k_Si F w (As := [.int (zI 7)]) (rest := []) (q_X12_hasSide (x := 7) ⟨by omega, by omega⟩  (IvR.to hIN513 (a := 153) (k := 3) (x := z514) (show ivr 153 3 = ((-99), 300) from rfl) ⟨by omega, by omega⟩ ⟨by decide, by decide, by decide, fun q9 => absurd q9 (by decide)⟩)) gs_X12_137 hs_X12_hasSide ⟨(Nat.le_of_ble_eq_true rfl), (Nat.le_of_ble_eq_true rfl)⟩ hl.1 rfl (Nat.le_of_ble_eq_true rfl) ⟨Nat.zero_le _, Nat.zero_le _⟩ dX12_readsRule_149 (fun r517 N518 H locs hp w => ?_)
            obtain ⟨z519, rfl, bz519, xz519, hMN518⟩ := hp
            rw [hMN518] at w
            refine z_if_eq (tgt := 169) hx hb (by omega) dX12_readsRule_152 (by decide) (fun c520 => ?_) (fun c520 => False.elim (by omega))
            refine lv_iload_n hx hb dX12_readsRule_169 rfl (lv_at hl 0 rfl) ?_
            refine lv_iconst (v := zI 3) hx hb dX12_readsRule_170 rfl ?_
            refine z_icmp_eq (tgt := 180) hx hb (by omega) (by omega) dX12_readsRule_171 (by decide) (fun c521 => False.elim (by omega)) (fun c521 => ?_)
            refine lv_iload_n hx hb dX12_readsRule_174 rfl (lv_at hl 0 rfl) ?_
            refine lv_bipush (v := zI 8) hx hb dX12_readsRule_175 (by decide) ?_
            refine z_icmp_ne (tgt := 194) hx hb (by omega) (by omega) dX12_readsRule_177 (by decide) (fun c522 => ?_) (fun c522 => False.elim (by omega))
            refine lv_iload_n hx hb dX12_readsRule_194 rfl (lv_at hl 0 rfl) ?_
            refine lv_iconst (v := zI 1) hx hb dX12_readsRule_195 rfl ?_
            refine z_icmp_ne (tgt := 209) hx hb (by omega) (by omega) dX12_readsRule_196 (by decide) (fun c523 => ?_) (fun c523 => False.elim (by omega))
            refine lv_aload_n hx hb dX12_readsRule_209 rfl (lv_at hl 1 rfl) ?_
            refine f_12_16 F w (a := 146) rfl tb_669 dX12_readsRule_210 ?_
            obtain ⟨z524, bz524, ez524⟩ := IvR.ld (k := 16) (IvR.to hIN513 (a := 153) (k := 3) (x := z514) (show ivr 153 3 = ((-99), 300) from rfl) ⟨by omega, by omega⟩ ⟨by decide, by decide, by decide, fun q9 => absurd q9 (by decide)⟩) (show ivr 146 16 = (0, 1) from rfl) (show 146 ≤ 146 ∧ 146 < 159 by decide)
            refine r_val ez524 ?_
            refine z_if_ne (tgt := 236) hx hb (by omega) dX12_readsRule_213 (by decide) (fun c525 => ?_) (fun c525 => ?_)
            · refine lv_aload_n hx hb dX12_readsRule_236 rfl (lv_at hl 1 rfl) ?_
              refine f_12_16 F w (a := 146) rfl tb_669 dX12_readsRule_237 ?_
              obtain ⟨z526, bz526, ez526⟩ := IvR.ld (k := 16) (IvR.to hIN513 (a := 153) (k := 3) (x := z514) (show ivr 153 3 = ((-99), 300) from rfl) ⟨by omega, by omega⟩ ⟨by decide, by decide, by decide, fun q9 => absurd q9 (by decide)⟩) (show ivr 146 16 = (0, 1) from rfl) (show 146 ≤ 146 ∧ 146 < 159 by decide)
              refine r_val ez526 ?_
              refine z_if_eq (tgt := 244) hx hb (by omega) dX12_readsRule_240 (by decide) (fun c527 => ?_) (fun c527 => ?_)
              · refine lv_aload_n hx hb dX12_readsRule_244 rfl (lv_at hl 1 rfl) ?_
                refine f_12_13 F w (a := 146) rfl tb_602 dX12_readsRule_245 ?_
                refine r_val (v := zI nz5140) ((st_ne (Or.inl (by decide))).trans enz5140) ?_
                refine lv_iconst (v := zI 3) hx hb dX12_readsRule_248 rfl ?_
                refine z_icmp_ne (tgt := 259) hx hb (by omega) (by omega) dX12_readsRule_249 (by decide) (fun c528 => ?_) (fun c528 => ?_)
                · refine lv_aload_n hx hb dX12_readsRule_259 rfl (lv_at hl 1 rfl) ?_
                  refine lv_iconst (v := zI 1) hx hb dX12_readsRule_260 rfl ?_
                  refine u_12_16 F w (a := 146) rfl (nar_z (by omega)) (fit_z (by omega)) tb_669 dX12_readsRule_261 (fun H locs w => ?_)
                  rw [hQ]
                  exact e_v F w hr hlocks ⟨⟨nz5140, nz5141, 1, ((st_ne (Or.inr (by decide))).trans ((st_ne (Or.inl (by decide))).trans enz5140)), ((st_ne (Or.inr (by decide))).trans ((st_ne (Or.inl (by decide))).trans enz5141)), (st_at), ⟨by omega, by omega⟩, ⟨by omega, by omega⟩, ⟨by omega, by omega⟩, (by omega)⟩, (fun h8 => by have h9 := (zI_eq (a := 7) (b := 8) (by constructor <;> omega) (by constructor <;> omega)).mp (((st_ne (Or.inl (by decide))).trans ((st_ne (Or.inr (by decide))).trans kn515)).symm.trans h8); exact ⟨z514, by omega, by omega, (st_ne (Or.inl (by decide))).trans st_at⟩), (IvR.to (IvR.to hIN513 (a := 153) (k := 3) (x := z514) (show ivr 153 3 = ((-99), 300) from rfl) ⟨by omega, by omega⟩ ⟨by decide, by decide, by decide, fun q9 => absurd q9 (by decide)⟩) (a := 146) (k := 16) (x := 1) (show ivr 146 16 = (0, 1) from rfl) ⟨by omega, by omega⟩ ⟨by decide, by decide, by decide, fun q9 => absurd q9 (by decide)⟩), (Fr.to (Fr.to hGN513 (by first | decide | (dsimp only; first | done | decide | omega) | omega)) (by first | decide | (dsimp only; first | done | decide | omega) | omega))⟩ dX12_readsRule_264
                · refine lv_aload_n hx hb dX12_readsRule_252 rfl (lv_at hl 1 rfl) ?_
                  refine k_Vv F w (As := []) (rest := []) (a := 146) (kd_lt (a := 146) (show kd 146 = (12, 0, 0) from rfl) (by decide)) (sh_12 rfl _ _) rfl (q_X12_goesOn   (IvR.to hIN513 (a := 153) (k := 3) (x := z514) (show ivr 153 3 = ((-99), 300) from rfl) ⟨by omega, by omega⟩ ⟨by decide, by decide, by decide, fun q9 => absurd q9 (by decide)⟩)) gv_X12_221 hv_X12_goesOn ⟨(Nat.le_of_ble_eq_true rfl), (Nat.le_of_ble_eq_true rfl)⟩ hl.1 rfl (Nat.le_of_ble_eq_true rfl) ⟨Nat.zero_le _, Nat.zero_le _⟩ dX12_readsRule_253 (fun N530 H locs hp w => ?_)
                  obtain ⟨⟨nz5310, nz5311, enz5310, enz5311, xz531⟩, hIN530, hFN530⟩ := hp
                  have hGN530 := Fr.tr (Fr.to hGN513 (by first | decide | (dsimp only; first | done | decide | omega) | omega)) hFN530 (S := (fun b9 k9 => (b9 = 146 ∧ k9 = 11) ∨ (b9 = 146 ∧ k9 = 13) ∨ (b9 = 146 ∧ k9 = 14) ∨ (b9 = 146 ∧ k9 = 15) ∨ (b9 = 146 ∧ k9 = 16) ∨ (b9 = 146 ∧ k9 = 9) ∨ b9 = 153)) (fun b k h => by (try dsimp only at h ⊢); rcases h with ⟨rfl, rfl⟩ | ⟨rfl, rfl⟩ | ⟨rfl, rfl⟩ | ⟨rfl, rfl⟩ | ⟨rfl, rfl⟩ <;> first | decide | omega)
                  have kn532 : N530.1 153 0 = zI 7 := (hFN530 153 0 (by first | decide | (dsimp only; first | done | decide | omega) | omega)).trans ((st_ne (Or.inr (by decide))).trans kn515)
                  have kn533 : N530.1 153 2 = zI z504 := (hFN530 153 2 (by first | decide | (dsimp only; first | done | decide | omega) | omega)).trans ((st_ne (Or.inr (by decide))).trans kn516)
                  have kn534 : N530.1 153 3 = zI z514 := (hFN530 153 3 (by first | decide | (dsimp only; first | done | decide | omega) | omega)).trans (st_at)
                  refine lv_goto (tgt := 264) hx hb dX12_readsRule_256 (by decide) ?_
                  obtain ⟨z535, bz535, ez535⟩ := IvR.ld (k := 16) hIN530 (show ivr 146 16 = (0, 1) from rfl) (show 146 ≤ 146 ∧ 146 < 159 by decide)
                  rw [hQ]
                  exact e_v F w hr hlocks ⟨⟨nz5310, nz5311, z535, (enz5310), (enz5311), (ez535), ⟨by omega, by omega⟩, ⟨by omega, by omega⟩, ⟨by omega, by omega⟩, (by omega)⟩, (fun h8 => by have h9 := (zI_eq (a := 7) (b := 8) (by constructor <;> omega) (by constructor <;> omega)).mp ((kn532).symm.trans h8); exact ⟨z514, by omega, by omega, kn534⟩), hIN530, hGN530⟩ dX12_readsRule_264
              · obtain ⟨z536, bz536, ez536⟩ := IvR.ld (k := 16) (IvR.to hIN513 (a := 153) (k := 3) (x := z514) (show ivr 153 3 = ((-99), 300) from rfl) ⟨by omega, by omega⟩ ⟨by decide, by decide, by decide, fun q9 => absurd q9 (by decide)⟩) (show ivr 146 16 = (0, 1) from rfl) (show 146 ≤ 146 ∧ 146 < 159 by decide)
                rw [hQ]
                exact e_v F w hr hlocks ⟨⟨nz5140, nz5141, z536, ((st_ne (Or.inl (by decide))).trans enz5140), ((st_ne (Or.inl (by decide))).trans enz5141), (ez536), ⟨by omega, by omega⟩, ⟨by omega, by omega⟩, ⟨by omega, by omega⟩, (by omega)⟩, (fun h8 => by have h9 := (zI_eq (a := 7) (b := 8) (by constructor <;> omega) (by constructor <;> omega)).mp (((st_ne (Or.inr (by decide))).trans kn515).symm.trans h8); exact ⟨z514, by omega, by omega, st_at⟩), (IvR.to hIN513 (a := 153) (k := 3) (x := z514) (show ivr 153 3 = ((-99), 300) from rfl) ⟨by omega, by omega⟩ ⟨by decide, by decide, by decide, fun q9 => absurd q9 (by decide)⟩), (Fr.to hGN513 (by first | decide | (dsimp only; first | done | decide | omega) | omega))⟩ dX12_readsRule_243
            · refine lv_iload_n hx hb dX12_readsRule_216 rfl (lv_at hl 0 rfl) ?_
              refine k_Si F w (As := [.int (zI 7)]) (rest := []) (q_X12_isBySyllables (x := 7) ⟨by omega, by omega⟩  (IvR.to hIN513 (a := 153) (k := 3) (x := z514) (show ivr 153 3 = ((-99), 300) from rfl) ⟨by omega, by omega⟩ ⟨by decide, by decide, by decide, fun q9 => absurd q9 (by decide)⟩)) gs_X12_140 hs_X12_isBySyllables ⟨(Nat.le_of_ble_eq_true rfl), (Nat.le_of_ble_eq_true rfl)⟩ hl.1 rfl (Nat.le_of_ble_eq_true rfl) ⟨Nat.zero_le _, Nat.zero_le _⟩ dX12_readsRule_217 (fun r537 N538 H locs hp w => ?_)
              obtain ⟨z539, rfl, bz539, xz539, hMN538⟩ := hp
              rw [hMN538] at w
              refine z_if_ne (tgt := 236) hx hb (by omega) dX12_readsRule_220 (by decide) (fun c540 => False.elim (by omega)) (fun c540 => ?_)
              refine lv_aload_n hx hb dX12_readsRule_223 rfl (lv_at hl 1 rfl) ?_
              refine lv_bipush (v := zI 20) hx hb dX12_readsRule_224 (by decide) ?_
              refine k_Vi F w (As := [.int (zI 20)]) (rest := []) (a := 146) (kd_lt (a := 146) (show kd 146 = (12, 0, 0) from rfl) (by decide)) (sh_12 rfl _ _) rfl (q_X12_isWord (x := 20) ⟨by omega, by omega⟩  (IvR.to hIN513 (a := 153) (k := 3) (x := z514) (show ivr 153 3 = ((-99), 300) from rfl) ⟨by omega, by omega⟩ ⟨by decide, by decide, by decide, fun q9 => absurd q9 (by decide)⟩)) gv_X12_224 hv_X12_isWord ⟨(Nat.le_of_ble_eq_true rfl), (Nat.le_of_ble_eq_true rfl)⟩ hl.1 rfl (Nat.le_of_ble_eq_true rfl) ⟨Nat.zero_le _, Nat.zero_le _⟩ dX12_readsRule_226 (fun r541 N542 H locs hp w => ?_)
              obtain ⟨z543, rfl, bz543, hMN542⟩ := hp
              rw [hMN542] at w
              refine z_if_eq (tgt := 236) hx hb (by omega) dX12_readsRule_229 (by decide) (fun c544 => ?_) (fun c544 => ?_)
              · refine lv_aload_n hx hb dX12_readsRule_236 rfl (lv_at hl 1 rfl) ?_
                refine f_12_16 F w (a := 146) rfl tb_669 dX12_readsRule_237 ?_
                obtain ⟨z545, bz545, ez545⟩ := IvR.ld (k := 16) (IvR.to hIN513 (a := 153) (k := 3) (x := z514) (show ivr 153 3 = ((-99), 300) from rfl) ⟨by omega, by omega⟩ ⟨by decide, by decide, by decide, fun q9 => absurd q9 (by decide)⟩) (show ivr 146 16 = (0, 1) from rfl) (show 146 ≤ 146 ∧ 146 < 159 by decide)
                refine r_val ez545 ?_
                refine z_if_eq (tgt := 244) hx hb (by omega) dX12_readsRule_240 (by decide) (fun c546 => ?_) (fun c546 => ?_)
                · refine lv_aload_n hx hb dX12_readsRule_244 rfl (lv_at hl 1 rfl) ?_
                  refine f_12_13 F w (a := 146) rfl tb_602 dX12_readsRule_245 ?_
                  refine r_val (v := zI nz5140) ((st_ne (Or.inl (by decide))).trans enz5140) ?_
                  refine lv_iconst (v := zI 3) hx hb dX12_readsRule_248 rfl ?_
                  refine z_icmp_ne (tgt := 259) hx hb (by omega) (by omega) dX12_readsRule_249 (by decide) (fun c547 => ?_) (fun c547 => ?_)
                  · refine lv_aload_n hx hb dX12_readsRule_259 rfl (lv_at hl 1 rfl) ?_
                    refine lv_iconst (v := zI 1) hx hb dX12_readsRule_260 rfl ?_
                    refine u_12_16 F w (a := 146) rfl (nar_z (by omega)) (fit_z (by omega)) tb_669 dX12_readsRule_261 (fun H locs w => ?_)
                    rw [hQ]
                    exact e_v F w hr hlocks ⟨⟨nz5140, nz5141, 1, ((st_ne (Or.inr (by decide))).trans ((st_ne (Or.inl (by decide))).trans enz5140)), ((st_ne (Or.inr (by decide))).trans ((st_ne (Or.inl (by decide))).trans enz5141)), (st_at), ⟨by omega, by omega⟩, ⟨by omega, by omega⟩, ⟨by omega, by omega⟩, (by omega)⟩, (fun h8 => by have h9 := (zI_eq (a := 7) (b := 8) (by constructor <;> omega) (by constructor <;> omega)).mp (((st_ne (Or.inl (by decide))).trans ((st_ne (Or.inr (by decide))).trans kn515)).symm.trans h8); exact ⟨z514, by omega, by omega, (st_ne (Or.inl (by decide))).trans st_at⟩), (IvR.to (IvR.to hIN513 (a := 153) (k := 3) (x := z514) (show ivr 153 3 = ((-99), 300) from rfl) ⟨by omega, by omega⟩ ⟨by decide, by decide, by decide, fun q9 => absurd q9 (by decide)⟩) (a := 146) (k := 16) (x := 1) (show ivr 146 16 = (0, 1) from rfl) ⟨by omega, by omega⟩ ⟨by decide, by decide, by decide, fun q9 => absurd q9 (by decide)⟩), (Fr.to (Fr.to hGN513 (by first | decide | (dsimp only; first | done | decide | omega) | omega)) (by first | decide | (dsimp only; first | done | decide | omega) | omega))⟩ dX12_readsRule_264
                  · refine lv_aload_n hx hb dX12_readsRule_252 rfl (lv_at hl 1 rfl) ?_
                    refine k_Vv F w (As := []) (rest := []) (a := 146) (kd_lt (a := 146) (show kd 146 = (12, 0, 0) from rfl) (by decide)) (sh_12 rfl _ _) rfl (q_X12_goesOn   (IvR.to hIN513 (a := 153) (k := 3) (x := z514) (show ivr 153 3 = ((-99), 300) from rfl) ⟨by omega, by omega⟩ ⟨by decide, by decide, by decide, fun q9 => absurd q9 (by decide)⟩)) gv_X12_221 hv_X12_goesOn ⟨(Nat.le_of_ble_eq_true rfl), (Nat.le_of_ble_eq_true rfl)⟩ hl.1 rfl (Nat.le_of_ble_eq_true rfl) ⟨Nat.zero_le _, Nat.zero_le _⟩ dX12_readsRule_253 (fun N549 H locs hp w => ?_)
                    obtain ⟨⟨nz5500, nz5501, enz5500, enz5501, xz550⟩, hIN549, hFN549⟩ := hp
                    have hGN549 := Fr.tr (Fr.to hGN513 (by first | decide | (dsimp only; first | done | decide | omega) | omega)) hFN549 (S := (fun b9 k9 => (b9 = 146 ∧ k9 = 11) ∨ (b9 = 146 ∧ k9 = 13) ∨ (b9 = 146 ∧ k9 = 14) ∨ (b9 = 146 ∧ k9 = 15) ∨ (b9 = 146 ∧ k9 = 16) ∨ (b9 = 146 ∧ k9 = 9) ∨ b9 = 153)) (fun b k h => by (try dsimp only at h ⊢); rcases h with ⟨rfl, rfl⟩ | ⟨rfl, rfl⟩ | ⟨rfl, rfl⟩ | ⟨rfl, rfl⟩ | ⟨rfl, rfl⟩ <;> first | decide | omega)
                    have kn551 : N549.1 153 0 = zI 7 := (hFN549 153 0 (by first | decide | (dsimp only; first | done | decide | omega) | omega)).trans ((st_ne (Or.inr (by decide))).trans kn515)
                    have kn552 : N549.1 153 2 = zI z504 := (hFN549 153 2 (by first | decide | (dsimp only; first | done | decide | omega) | omega)).trans ((st_ne (Or.inr (by decide))).trans kn516)
                    have kn553 : N549.1 153 3 = zI z514 := (hFN549 153 3 (by first | decide | (dsimp only; first | done | decide | omega) | omega)).trans (st_at)
                    refine lv_goto (tgt := 264) hx hb dX12_readsRule_256 (by decide) ?_
                    obtain ⟨z554, bz554, ez554⟩ := IvR.ld (k := 16) hIN549 (show ivr 146 16 = (0, 1) from rfl) (show 146 ≤ 146 ∧ 146 < 159 by decide)
                    rw [hQ]
                    exact e_v F w hr hlocks ⟨⟨nz5500, nz5501, z554, (enz5500), (enz5501), (ez554), ⟨by omega, by omega⟩, ⟨by omega, by omega⟩, ⟨by omega, by omega⟩, (by omega)⟩, (fun h8 => by have h9 := (zI_eq (a := 7) (b := 8) (by constructor <;> omega) (by constructor <;> omega)).mp ((kn551).symm.trans h8); exact ⟨z514, by omega, by omega, kn553⟩), hIN549, hGN549⟩ dX12_readsRule_264
                · obtain ⟨z555, bz555, ez555⟩ := IvR.ld (k := 16) (IvR.to hIN513 (a := 153) (k := 3) (x := z514) (show ivr 153 3 = ((-99), 300) from rfl) ⟨by omega, by omega⟩ ⟨by decide, by decide, by decide, fun q9 => absurd q9 (by decide)⟩) (show ivr 146 16 = (0, 1) from rfl) (show 146 ≤ 146 ∧ 146 < 159 by decide)
                  rw [hQ]
                  exact e_v F w hr hlocks ⟨⟨nz5140, nz5141, z555, ((st_ne (Or.inl (by decide))).trans enz5140), ((st_ne (Or.inl (by decide))).trans enz5141), (ez555), ⟨by omega, by omega⟩, ⟨by omega, by omega⟩, ⟨by omega, by omega⟩, (by omega)⟩, (fun h8 => by have h9 := (zI_eq (a := 7) (b := 8) (by constructor <;> omega) (by constructor <;> omega)).mp (((st_ne (Or.inr (by decide))).trans kn515).symm.trans h8); exact ⟨z514, by omega, by omega, st_at⟩), (IvR.to hIN513 (a := 153) (k := 3) (x := z514) (show ivr 153 3 = ((-99), 300) from rfl) ⟨by omega, by omega⟩ ⟨by decide, by decide, by decide, fun q9 => absurd q9 (by decide)⟩), (Fr.to hGN513 (by first | decide | (dsimp only; first | done | decide | omega) | omega))⟩ dX12_readsRule_243
              · refine lv_aload_n hx hb dX12_readsRule_232 rfl (lv_at hl 1 rfl) ?_
                refine k_Vv F w (As := []) (rest := []) (a := 146) (kd_lt (a := 146) (show kd 146 = (12, 0, 0) from rfl) (by decide)) (sh_12 rfl _ _) rfl (q_X12_readsTest   (IvR.to hIN513 (a := 153) (k := 3) (x := z514) (show ivr 153 3 = ((-99), 300) from rfl) ⟨by omega, by omega⟩ ⟨by decide, by decide, by decide, fun q9 => absurd q9 (by decide)⟩)) gv_X12_233 hv_X12_readsTest ⟨(Nat.le_of_ble_eq_true rfl), (Nat.le_of_ble_eq_true rfl)⟩ hl.1 rfl (Nat.le_of_ble_eq_true rfl) ⟨Nat.zero_le _, Nat.zero_le _⟩ dX12_readsRule_233 (fun N557 H locs hp w => ?_)
                obtain ⟨⟨nz5580, nz5581, enz5580, enz5581, xz558⟩, hIN557, hFN557⟩ := hp
                have hGN557 := Fr.tr (Fr.to hGN513 (by first | decide | (dsimp only; first | done | decide | omega) | omega)) hFN557 (S := (fun b9 k9 => (b9 = 146 ∧ k9 = 11) ∨ (b9 = 146 ∧ k9 = 13) ∨ (b9 = 146 ∧ k9 = 14) ∨ (b9 = 146 ∧ k9 = 15) ∨ (b9 = 146 ∧ k9 = 16) ∨ (b9 = 146 ∧ k9 = 9) ∨ b9 = 153)) (fun b k h => by (try dsimp only at h ⊢); rcases h with ⟨rfl, rfl⟩ | ⟨rfl, rfl⟩ | ⟨rfl, rfl⟩ | ⟨rfl, rfl⟩ | ⟨rfl, rfl⟩ | ⟨rfl, rfl⟩ | ⟨rfl, q1, q2⟩ | ⟨rfl, q1, q2⟩ | ⟨rfl, q1, q2⟩ <;> first | decide | omega)
                have kn559 : N557.1 153 0 = zI 7 := (hFN557 153 0 (by first | decide | (dsimp only; first | done | decide | omega) | omega)).trans ((st_ne (Or.inr (by decide))).trans kn515)
                have kn560 : N557.1 153 2 = zI z504 := (hFN557 153 2 (by first | decide | (dsimp only; first | done | decide | omega) | omega)).trans ((st_ne (Or.inr (by decide))).trans kn516)
                have kn561 : N557.1 153 3 = zI z514 := (hFN557 153 3 (by first | decide | (dsimp only; first | done | decide | omega) | omega)).trans (st_at)
                refine lv_aload_n hx hb dX12_readsRule_236 rfl (lv_at hl 1 rfl) ?_
                refine f_12_16 F w (a := 146) rfl tb_669 dX12_readsRule_237 ?_
                obtain ⟨z562, bz562, ez562⟩ := IvR.ld (k := 16) hIN557 (show ivr 146 16 = (0, 1) from rfl) (show 146 ≤ 146 ∧ 146 < 159 by decide)
                refine r_val ez562 ?_
                refine z_if_eq (tgt := 244) hx hb (by omega) dX12_readsRule_240 (by decide) (fun c563 => ?_) (fun c563 => ?_)
                · refine lv_aload_n hx hb dX12_readsRule_244 rfl (lv_at hl 1 rfl) ?_
                  refine f_12_13 F w (a := 146) rfl tb_602 dX12_readsRule_245 ?_
                  refine r_val (v := zI nz5580) (enz5580) ?_
                  refine lv_iconst (v := zI 3) hx hb dX12_readsRule_248 rfl ?_
                  refine z_icmp_ne (tgt := 259) hx hb (by omega) (by omega) dX12_readsRule_249 (by decide) (fun c564 => ?_) (fun c564 => ?_)
                  · refine lv_aload_n hx hb dX12_readsRule_259 rfl (lv_at hl 1 rfl) ?_
                    refine lv_iconst (v := zI 1) hx hb dX12_readsRule_260 rfl ?_
                    refine u_12_16 F w (a := 146) rfl (nar_z (by omega)) (fit_z (by omega)) tb_669 dX12_readsRule_261 (fun H locs w => ?_)
                    rw [hQ]
                    exact e_v F w hr hlocks ⟨⟨nz5580, nz5581, 1, ((st_ne (Or.inr (by decide))).trans enz5580), ((st_ne (Or.inr (by decide))).trans enz5581), (st_at), ⟨by omega, by omega⟩, ⟨by omega, by omega⟩, ⟨by omega, by omega⟩, (by omega)⟩, (fun h8 => by have h9 := (zI_eq (a := 7) (b := 8) (by constructor <;> omega) (by constructor <;> omega)).mp (((st_ne (Or.inl (by decide))).trans kn559).symm.trans h8); exact ⟨z514, by omega, by omega, (st_ne (Or.inl (by decide))).trans kn561⟩), (IvR.to hIN557 (a := 146) (k := 16) (x := 1) (show ivr 146 16 = (0, 1) from rfl) ⟨by omega, by omega⟩ ⟨by decide, by decide, by decide, fun q9 => absurd q9 (by decide)⟩), (Fr.to hGN557 (by first | decide | (dsimp only; first | done | decide | omega) | omega))⟩ dX12_readsRule_264
                  · refine lv_aload_n hx hb dX12_readsRule_252 rfl (lv_at hl 1 rfl) ?_
                    refine k_Vv F w (As := []) (rest := []) (a := 146) (kd_lt (a := 146) (show kd 146 = (12, 0, 0) from rfl) (by decide)) (sh_12 rfl _ _) rfl (q_X12_goesOn   hIN557) gv_X12_221 hv_X12_goesOn ⟨(Nat.le_of_ble_eq_true rfl), (Nat.le_of_ble_eq_true rfl)⟩ hl.1 rfl (Nat.le_of_ble_eq_true rfl) ⟨Nat.zero_le _, Nat.zero_le _⟩ dX12_readsRule_253 (fun N566 H locs hp w => ?_)
                    obtain ⟨⟨nz5670, nz5671, enz5670, enz5671, xz567⟩, hIN566, hFN566⟩ := hp
                    have hGN566 := Fr.tr hGN557 hFN566 (S := (fun b9 k9 => (b9 = 146 ∧ k9 = 11) ∨ (b9 = 146 ∧ k9 = 13) ∨ (b9 = 146 ∧ k9 = 14) ∨ (b9 = 146 ∧ k9 = 15) ∨ (b9 = 146 ∧ k9 = 16) ∨ (b9 = 146 ∧ k9 = 9) ∨ b9 = 153)) (fun b k h => by (try dsimp only at h ⊢); rcases h with ⟨rfl, rfl⟩ | ⟨rfl, rfl⟩ | ⟨rfl, rfl⟩ | ⟨rfl, rfl⟩ | ⟨rfl, rfl⟩ <;> first | decide | omega)
                    have kn568 : N566.1 153 0 = zI 7 := (hFN566 153 0 (by first | decide | (dsimp only; first | done | decide | omega) | omega)).trans (kn559)
                    have kn569 : N566.1 153 2 = zI z504 := (hFN566 153 2 (by first | decide | (dsimp only; first | done | decide | omega) | omega)).trans (kn560)
                    have kn570 : N566.1 153 3 = zI z514 := (hFN566 153 3 (by first | decide | (dsimp only; first | done | decide | omega) | omega)).trans (kn561)
                    have kn571 : N566.1 146 16 = zI z562 := (hFN566 146 16 (by first | decide | (dsimp only; first | done | decide | omega) | omega)).trans (ez562)
                    refine lv_goto (tgt := 264) hx hb dX12_readsRule_256 (by decide) ?_
                    rw [hQ]
                    exact e_v F w hr hlocks ⟨⟨nz5670, nz5671, z562, (enz5670), (enz5671), (kn571), ⟨by omega, by omega⟩, ⟨by omega, by omega⟩, ⟨by omega, by omega⟩, (by omega)⟩, (fun h8 => by have h9 := (zI_eq (a := 7) (b := 8) (by constructor <;> omega) (by constructor <;> omega)).mp ((kn568).symm.trans h8); exact ⟨z514, by omega, by omega, kn570⟩), hIN566, hGN566⟩ dX12_readsRule_264
                · rw [hQ]
                  exact e_v F w hr hlocks ⟨⟨nz5580, nz5581, z562, (enz5580), (enz5581), (ez562), ⟨by omega, by omega⟩, ⟨by omega, by omega⟩, ⟨by omega, by omega⟩, (by omega)⟩, (fun h8 => by have h9 := (zI_eq (a := 7) (b := 8) (by constructor <;> omega) (by constructor <;> omega)).mp ((kn559).symm.trans h8); exact ⟨z514, by omega, by omega, kn561⟩), hIN557, hGN557⟩ dX12_readsRule_243
          · refine lv_istore_n (lv' := [(1, .int (zI 8)), (0, .ref (B + 146))]) hx hb dX12_readsRule_63 rfl hl (by decide) rfl (fun ls hl => ?_)
            refine lv_aload_n hx hb dX12_readsRule_64 rfl (lv_at hl 1 rfl) ?_
            refine f_12_17 F w (a := 146) rfl tb_676 dX12_readsRule_65 ?_
            refine lv_iconst (v := zI 0) hx hb dX12_readsRule_68 rfl ?_
            refine lv_iload_n hx hb dX12_readsRule_69 rfl (lv_at hl 0 rfl) ?_
            refine g_iast F w (a := 153) rfl (j := 0) ⟨by decide, by decide⟩ (by omega) dX12_readsRule_70 (fun H locs w => ?_)
            refine lv_iload_n hx hb dX12_readsRule_71 rfl (lv_at hl 0 rfl) ?_
            refine lv_bipush (v := zI 8) hx hb dX12_readsRule_72 (by decide) ?_
            refine z_icmp_ne (tgt := 90) hx hb (by omega) (by omega) dX12_readsRule_74 (by decide) (fun c572 => False.elim (by omega)) (fun c572 => ?_)
            refine lv_aload_n hx hb dX12_readsRule_77 rfl (lv_at hl 1 rfl) ?_
            refine f_12_17 F w (a := 146) rfl tb_676 dX12_readsRule_78 ?_
            refine lv_iconst (v := zI 3) hx hb dX12_readsRule_81 rfl ?_
            refine lv_aload_n hx hb dX12_readsRule_82 rfl (lv_at hl 1 rfl) ?_
            refine k_Vi F w (As := []) (rest := [.int (zI 3), .ref (B + 153)]) (a := 146) (kd_lt (a := 146) (show kd 146 = (12, 0, 0) from rfl) (by decide)) (sh_12 rfl _ _) rfl (q_X12_needsNumber (tk := nz80) ((st_ne (Or.inl (by decide))).trans enz80) ⟨by omega, by omega⟩ (nb := nz81) ((st_ne (Or.inl (by decide))).trans enz81) ⟨by omega, by omega⟩ (by omega) (IvR.to hIN7 (a := 153) (k := 0) (x := 8) (show ivr 153 0 = ((-99), 300) from rfl) ⟨by omega, by omega⟩ ⟨by decide, by decide, by decide, fun q9 => absurd q9 (by decide)⟩)) gv_X12_230 hv_X12_needsNumber ⟨(Nat.le_of_ble_eq_true rfl), (Nat.le_of_ble_eq_true rfl)⟩ hl.1 rfl (Nat.le_of_ble_eq_true rfl) ⟨Nat.zero_le _, Nat.zero_le _⟩ dX12_readsRule_83 (fun r573 N574 H locs hp w => ?_)
            obtain ⟨z575, rfl, bz575, ⟨nz5750, nz5751, enz5750, enz5751, xz575⟩, hIN574, hFN574⟩ := hp
            have hGN574 := Fr.tr (Fr.to hGN7 (by first | decide | (dsimp only; first | done | decide | omega) | omega)) hFN574 (S := (fun b9 k9 => (b9 = 146 ∧ k9 = 11) ∨ (b9 = 146 ∧ k9 = 13) ∨ (b9 = 146 ∧ k9 = 14) ∨ (b9 = 146 ∧ k9 = 15) ∨ (b9 = 146 ∧ k9 = 16) ∨ (b9 = 146 ∧ k9 = 9) ∨ b9 = 153)) (fun b k h => by (try dsimp only at h ⊢); rcases h with ⟨rfl, rfl⟩ | ⟨rfl, rfl⟩ | ⟨rfl, rfl⟩ | ⟨rfl, rfl⟩ | ⟨rfl, rfl⟩ | ⟨rfl, rfl⟩ <;> first | decide | omega)
            have kn576 : N574.1 153 0 = zI 8 := (hFN574 153 0 (by first | decide | (dsimp only; first | done | decide | omega) | omega)).trans (st_at)
            refine g_iast F w (a := 153) rfl (j := 3) ⟨by decide, by decide⟩ (by omega) dX12_readsRule_86 (fun H locs w => ?_)
            refine lv_goto (tgt := 119) hx hb dX12_readsRule_87 (by decide) ?_
            refine lv_iload_n hx hb dX12_readsRule_119 rfl (lv_at hl 0 rfl) ?_
            refine lv_bipush (v := zI 7) hx hb dX12_readsRule_120 (by decide) ?_
            refine z_icmp_ne (tgt := 148) hx hb (by omega) (by omega) dX12_readsRule_122 (by decide) (fun c577 => ?_) (fun c577 => False.elim (by omega))
            refine lv_iload_n hx hb dX12_readsRule_148 rfl (lv_at hl 0 rfl) ?_
            refine k_Si F w (As := [.int (zI 8)]) (rest := []) (q_X12_hasSide (x := 8) ⟨by omega, by omega⟩  (IvR.to hIN574 (a := 153) (k := 3) (x := z575) (show ivr 153 3 = ((-99), 300) from rfl) ⟨by omega, by omega⟩ ⟨by decide, by decide, by decide, fun q9 => absurd q9 (by decide)⟩)) gs_X12_137 hs_X12_hasSide ⟨(Nat.le_of_ble_eq_true rfl), (Nat.le_of_ble_eq_true rfl)⟩ hl.1 rfl (Nat.le_of_ble_eq_true rfl) ⟨Nat.zero_le _, Nat.zero_le _⟩ dX12_readsRule_149 (fun r578 N579 H locs hp w => ?_)
            obtain ⟨z580, rfl, bz580, xz580, hMN579⟩ := hp
            rw [hMN579] at w
            refine z_if_eq (tgt := 169) hx hb (by omega) dX12_readsRule_152 (by decide) (fun c581 => ?_) (fun c581 => False.elim (by omega))
            refine lv_iload_n hx hb dX12_readsRule_169 rfl (lv_at hl 0 rfl) ?_
            refine lv_iconst (v := zI 3) hx hb dX12_readsRule_170 rfl ?_
            refine z_icmp_eq (tgt := 180) hx hb (by omega) (by omega) dX12_readsRule_171 (by decide) (fun c582 => False.elim (by omega)) (fun c582 => ?_)
            refine lv_iload_n hx hb dX12_readsRule_174 rfl (lv_at hl 0 rfl) ?_
            refine lv_bipush (v := zI 8) hx hb dX12_readsRule_175 (by decide) ?_
            refine z_icmp_ne (tgt := 194) hx hb (by omega) (by omega) dX12_readsRule_177 (by decide) (fun c583 => False.elim (by omega)) (fun c583 => ?_)
            refine lv_aload_n hx hb dX12_readsRule_180 rfl (lv_at hl 1 rfl) ?_
            refine f_12_17 F w (a := 146) rfl tb_676 dX12_readsRule_181 ?_
            refine lv_iconst (v := zI 4) hx hb dX12_readsRule_184 rfl ?_
            refine lv_aload_n hx hb dX12_readsRule_185 rfl (lv_at hl 1 rfl) ?_
            refine lv_bipush (v := zI 17) hx hb dX12_readsRule_186 (by decide) ?_
            refine lv_bipush (v := zI 18) hx hb dX12_readsRule_188 (by decide) ?_
            refine k_Vi F w (As := [.int (zI 17), .int (zI 18)]) (rest := [.int (zI 4), .ref (B + 153)]) (a := 146) (kd_lt (a := 146) (show kd 146 = (12, 0, 0) from rfl) (by decide)) (sh_12 rfl _ _) rfl (q_X12_needs (x := 17) ⟨by omega, by omega⟩ (x1 := 18) ⟨by omega, by omega⟩ (tk := nz5750) ((st_ne (Or.inl (by decide))).trans enz5750) ⟨by omega, by omega⟩ (nb := nz5751) ((st_ne (Or.inl (by decide))).trans enz5751) ⟨by omega, by omega⟩ (by omega) (IvR.to hIN574 (a := 153) (k := 3) (x := z575) (show ivr 153 3 = ((-99), 300) from rfl) ⟨by omega, by omega⟩ ⟨by decide, by decide, by decide, fun q9 => absurd q9 (by decide)⟩)) gv_X12_227 hv_X12_needs ⟨(Nat.le_of_ble_eq_true rfl), (Nat.le_of_ble_eq_true rfl)⟩ hl.1 rfl (Nat.le_of_ble_eq_true rfl) ⟨Nat.zero_le _, Nat.zero_le _⟩ dX12_readsRule_190 (fun r584 N585 H locs hp w => ?_)
            obtain ⟨z586, rfl, bz586, ⟨nz5860, nz5861, enz5860, enz5861, xz586⟩, hIN585, hFN585⟩ := hp
            have hGN585 := Fr.tr (Fr.to hGN574 (by first | decide | (dsimp only; first | done | decide | omega) | omega)) hFN585 (S := (fun b9 k9 => (b9 = 146 ∧ k9 = 11) ∨ (b9 = 146 ∧ k9 = 13) ∨ (b9 = 146 ∧ k9 = 14) ∨ (b9 = 146 ∧ k9 = 15) ∨ (b9 = 146 ∧ k9 = 16) ∨ (b9 = 146 ∧ k9 = 9) ∨ b9 = 153)) (fun b k h => by (try dsimp only at h ⊢); rcases h with ⟨rfl, rfl⟩ | ⟨rfl, rfl⟩ | ⟨rfl, rfl⟩ | ⟨rfl, rfl⟩ | ⟨rfl, rfl⟩ | ⟨rfl, rfl⟩ <;> first | decide | omega)
            have kn587 : N585.1 153 0 = zI 8 := (hFN585 153 0 (by first | decide | (dsimp only; first | done | decide | omega) | omega)).trans ((st_ne (Or.inr (by decide))).trans kn576)
            have kn588 : N585.1 153 3 = zI z575 := (hFN585 153 3 (by first | decide | (dsimp only; first | done | decide | omega) | omega)).trans (st_at)
            refine g_iast F w (a := 153) rfl (j := 4) ⟨by decide, by decide⟩ (by omega) dX12_readsRule_193 (fun H locs w => ?_)
            refine lv_iload_n hx hb dX12_readsRule_194 rfl (lv_at hl 0 rfl) ?_
            refine lv_iconst (v := zI 1) hx hb dX12_readsRule_195 rfl ?_
            refine z_icmp_ne (tgt := 209) hx hb (by omega) (by omega) dX12_readsRule_196 (by decide) (fun c589 => ?_) (fun c589 => False.elim (by omega))
            refine lv_aload_n hx hb dX12_readsRule_209 rfl (lv_at hl 1 rfl) ?_
            refine f_12_16 F w (a := 146) rfl tb_669 dX12_readsRule_210 ?_
            obtain ⟨z590, bz590, ez590⟩ := IvR.ld (k := 16) (IvR.to hIN585 (a := 153) (k := 4) (x := z586) (show ivr 153 4 = ((-99), 300) from rfl) ⟨by omega, by omega⟩ ⟨by decide, by decide, by decide, fun q9 => absurd q9 (by decide)⟩) (show ivr 146 16 = (0, 1) from rfl) (show 146 ≤ 146 ∧ 146 < 159 by decide)
            refine r_val ez590 ?_
            refine z_if_ne (tgt := 236) hx hb (by omega) dX12_readsRule_213 (by decide) (fun c591 => ?_) (fun c591 => ?_)
            · refine lv_aload_n hx hb dX12_readsRule_236 rfl (lv_at hl 1 rfl) ?_
              refine f_12_16 F w (a := 146) rfl tb_669 dX12_readsRule_237 ?_
              obtain ⟨z592, bz592, ez592⟩ := IvR.ld (k := 16) (IvR.to hIN585 (a := 153) (k := 4) (x := z586) (show ivr 153 4 = ((-99), 300) from rfl) ⟨by omega, by omega⟩ ⟨by decide, by decide, by decide, fun q9 => absurd q9 (by decide)⟩) (show ivr 146 16 = (0, 1) from rfl) (show 146 ≤ 146 ∧ 146 < 159 by decide)
              refine r_val ez592 ?_
              refine z_if_eq (tgt := 244) hx hb (by omega) dX12_readsRule_240 (by decide) (fun c593 => ?_) (fun c593 => ?_)
              · refine lv_aload_n hx hb dX12_readsRule_244 rfl (lv_at hl 1 rfl) ?_
                refine f_12_13 F w (a := 146) rfl tb_602 dX12_readsRule_245 ?_
                refine r_val (v := zI nz5860) ((st_ne (Or.inl (by decide))).trans enz5860) ?_
                refine lv_iconst (v := zI 3) hx hb dX12_readsRule_248 rfl ?_
                refine z_icmp_ne (tgt := 259) hx hb (by omega) (by omega) dX12_readsRule_249 (by decide) (fun c594 => ?_) (fun c594 => ?_)
                · refine lv_aload_n hx hb dX12_readsRule_259 rfl (lv_at hl 1 rfl) ?_
                  refine lv_iconst (v := zI 1) hx hb dX12_readsRule_260 rfl ?_
                  refine u_12_16 F w (a := 146) rfl (nar_z (by omega)) (fit_z (by omega)) tb_669 dX12_readsRule_261 (fun H locs w => ?_)
                  rw [hQ]
                  exact e_v F w hr hlocks ⟨⟨nz5860, nz5861, 1, ((st_ne (Or.inr (by decide))).trans ((st_ne (Or.inl (by decide))).trans enz5860)), ((st_ne (Or.inr (by decide))).trans ((st_ne (Or.inl (by decide))).trans enz5861)), (st_at), ⟨by omega, by omega⟩, ⟨by omega, by omega⟩, ⟨by omega, by omega⟩, (by omega)⟩, (fun h8 => by have h9 := (zI_eq (a := 8) (b := 8) (by constructor <;> omega) (by constructor <;> omega)).mp (((st_ne (Or.inl (by decide))).trans ((st_ne (Or.inr (by decide))).trans kn587)).symm.trans h8); exact ⟨z575, by omega, by omega, (st_ne (Or.inl (by decide))).trans ((st_ne (Or.inr (by decide))).trans kn588)⟩), (IvR.to (IvR.to hIN585 (a := 153) (k := 4) (x := z586) (show ivr 153 4 = ((-99), 300) from rfl) ⟨by omega, by omega⟩ ⟨by decide, by decide, by decide, fun q9 => absurd q9 (by decide)⟩) (a := 146) (k := 16) (x := 1) (show ivr 146 16 = (0, 1) from rfl) ⟨by omega, by omega⟩ ⟨by decide, by decide, by decide, fun q9 => absurd q9 (by decide)⟩), (Fr.to (Fr.to hGN585 (by first | decide | (dsimp only; first | done | decide | omega) | omega)) (by first | decide | (dsimp only; first | done | decide | omega) | omega))⟩ dX12_readsRule_264
                · refine lv_aload_n hx hb dX12_readsRule_252 rfl (lv_at hl 1 rfl) ?_
                  refine k_Vv F w (As := []) (rest := []) (a := 146) (kd_lt (a := 146) (show kd 146 = (12, 0, 0) from rfl) (by decide)) (sh_12 rfl _ _) rfl (q_X12_goesOn   (IvR.to hIN585 (a := 153) (k := 4) (x := z586) (show ivr 153 4 = ((-99), 300) from rfl) ⟨by omega, by omega⟩ ⟨by decide, by decide, by decide, fun q9 => absurd q9 (by decide)⟩)) gv_X12_221 hv_X12_goesOn ⟨(Nat.le_of_ble_eq_true rfl), (Nat.le_of_ble_eq_true rfl)⟩ hl.1 rfl (Nat.le_of_ble_eq_true rfl) ⟨Nat.zero_le _, Nat.zero_le _⟩ dX12_readsRule_253 (fun N596 H locs hp w => ?_)
                  obtain ⟨⟨nz5970, nz5971, enz5970, enz5971, xz597⟩, hIN596, hFN596⟩ := hp
                  have hGN596 := Fr.tr (Fr.to hGN585 (by first | decide | (dsimp only; first | done | decide | omega) | omega)) hFN596 (S := (fun b9 k9 => (b9 = 146 ∧ k9 = 11) ∨ (b9 = 146 ∧ k9 = 13) ∨ (b9 = 146 ∧ k9 = 14) ∨ (b9 = 146 ∧ k9 = 15) ∨ (b9 = 146 ∧ k9 = 16) ∨ (b9 = 146 ∧ k9 = 9) ∨ b9 = 153)) (fun b k h => by (try dsimp only at h ⊢); rcases h with ⟨rfl, rfl⟩ | ⟨rfl, rfl⟩ | ⟨rfl, rfl⟩ | ⟨rfl, rfl⟩ | ⟨rfl, rfl⟩ <;> first | decide | omega)
                  have kn598 : N596.1 153 0 = zI 8 := (hFN596 153 0 (by first | decide | (dsimp only; first | done | decide | omega) | omega)).trans ((st_ne (Or.inr (by decide))).trans kn587)
                  have kn599 : N596.1 153 3 = zI z575 := (hFN596 153 3 (by first | decide | (dsimp only; first | done | decide | omega) | omega)).trans ((st_ne (Or.inr (by decide))).trans kn588)
                  have kn600 : N596.1 153 4 = zI z586 := (hFN596 153 4 (by first | decide | (dsimp only; first | done | decide | omega) | omega)).trans (st_at)
                  refine lv_goto (tgt := 264) hx hb dX12_readsRule_256 (by decide) ?_
                  obtain ⟨z601, bz601, ez601⟩ := IvR.ld (k := 16) hIN596 (show ivr 146 16 = (0, 1) from rfl) (show 146 ≤ 146 ∧ 146 < 159 by decide)
                  rw [hQ]
                  exact e_v F w hr hlocks ⟨⟨nz5970, nz5971, z601, (enz5970), (enz5971), (ez601), ⟨by omega, by omega⟩, ⟨by omega, by omega⟩, ⟨by omega, by omega⟩, (by omega)⟩, (fun h8 => by have h9 := (zI_eq (a := 8) (b := 8) (by constructor <;> omega) (by constructor <;> omega)).mp ((kn598).symm.trans h8); exact ⟨z575, by omega, by omega, kn599⟩), hIN596, hGN596⟩ dX12_readsRule_264
              · obtain ⟨z602, bz602, ez602⟩ := IvR.ld (k := 16) (IvR.to hIN585 (a := 153) (k := 4) (x := z586) (show ivr 153 4 = ((-99), 300) from rfl) ⟨by omega, by omega⟩ ⟨by decide, by decide, by decide, fun q9 => absurd q9 (by decide)⟩) (show ivr 146 16 = (0, 1) from rfl) (show 146 ≤ 146 ∧ 146 < 159 by decide)
                rw [hQ]
                exact e_v F w hr hlocks ⟨⟨nz5860, nz5861, z602, ((st_ne (Or.inl (by decide))).trans enz5860), ((st_ne (Or.inl (by decide))).trans enz5861), (ez602), ⟨by omega, by omega⟩, ⟨by omega, by omega⟩, ⟨by omega, by omega⟩, (by omega)⟩, (fun h8 => by have h9 := (zI_eq (a := 8) (b := 8) (by constructor <;> omega) (by constructor <;> omega)).mp (((st_ne (Or.inr (by decide))).trans kn587).symm.trans h8); exact ⟨z575, by omega, by omega, (st_ne (Or.inr (by decide))).trans kn588⟩), (IvR.to hIN585 (a := 153) (k := 4) (x := z586) (show ivr 153 4 = ((-99), 300) from rfl) ⟨by omega, by omega⟩ ⟨by decide, by decide, by decide, fun q9 => absurd q9 (by decide)⟩), (Fr.to hGN585 (by first | decide | (dsimp only; first | done | decide | omega) | omega))⟩ dX12_readsRule_243
            · refine lv_iload_n hx hb dX12_readsRule_216 rfl (lv_at hl 0 rfl) ?_
              refine k_Si F w (As := [.int (zI 8)]) (rest := []) (q_X12_isBySyllables (x := 8) ⟨by omega, by omega⟩  (IvR.to hIN585 (a := 153) (k := 4) (x := z586) (show ivr 153 4 = ((-99), 300) from rfl) ⟨by omega, by omega⟩ ⟨by decide, by decide, by decide, fun q9 => absurd q9 (by decide)⟩)) gs_X12_140 hs_X12_isBySyllables ⟨(Nat.le_of_ble_eq_true rfl), (Nat.le_of_ble_eq_true rfl)⟩ hl.1 rfl (Nat.le_of_ble_eq_true rfl) ⟨Nat.zero_le _, Nat.zero_le _⟩ dX12_readsRule_217 (fun r603 N604 H locs hp w => ?_)
              obtain ⟨z605, rfl, bz605, xz605, hMN604⟩ := hp
              rw [hMN604] at w
              refine z_if_ne (tgt := 236) hx hb (by omega) dX12_readsRule_220 (by decide) (fun c606 => ?_) (fun c606 => False.elim (by omega))
              refine lv_aload_n hx hb dX12_readsRule_236 rfl (lv_at hl 1 rfl) ?_
              refine f_12_16 F w (a := 146) rfl tb_669 dX12_readsRule_237 ?_
              obtain ⟨z607, bz607, ez607⟩ := IvR.ld (k := 16) (IvR.to hIN585 (a := 153) (k := 4) (x := z586) (show ivr 153 4 = ((-99), 300) from rfl) ⟨by omega, by omega⟩ ⟨by decide, by decide, by decide, fun q9 => absurd q9 (by decide)⟩) (show ivr 146 16 = (0, 1) from rfl) (show 146 ≤ 146 ∧ 146 < 159 by decide)
              refine r_val ez607 ?_
              refine z_if_eq (tgt := 244) hx hb (by omega) dX12_readsRule_240 (by decide) (fun c608 => ?_) (fun c608 => ?_)
              · refine lv_aload_n hx hb dX12_readsRule_244 rfl (lv_at hl 1 rfl) ?_
                refine f_12_13 F w (a := 146) rfl tb_602 dX12_readsRule_245 ?_
                refine r_val (v := zI nz5860) ((st_ne (Or.inl (by decide))).trans enz5860) ?_
                refine lv_iconst (v := zI 3) hx hb dX12_readsRule_248 rfl ?_
                refine z_icmp_ne (tgt := 259) hx hb (by omega) (by omega) dX12_readsRule_249 (by decide) (fun c609 => ?_) (fun c609 => ?_)
                · refine lv_aload_n hx hb dX12_readsRule_259 rfl (lv_at hl 1 rfl) ?_
                  refine lv_iconst (v := zI 1) hx hb dX12_readsRule_260 rfl ?_
                  refine u_12_16 F w (a := 146) rfl (nar_z (by omega)) (fit_z (by omega)) tb_669 dX12_readsRule_261 (fun H locs w => ?_)
                  rw [hQ]
                  exact e_v F w hr hlocks ⟨⟨nz5860, nz5861, 1, ((st_ne (Or.inr (by decide))).trans ((st_ne (Or.inl (by decide))).trans enz5860)), ((st_ne (Or.inr (by decide))).trans ((st_ne (Or.inl (by decide))).trans enz5861)), (st_at), ⟨by omega, by omega⟩, ⟨by omega, by omega⟩, ⟨by omega, by omega⟩, (by omega)⟩, (fun h8 => by have h9 := (zI_eq (a := 8) (b := 8) (by constructor <;> omega) (by constructor <;> omega)).mp (((st_ne (Or.inl (by decide))).trans ((st_ne (Or.inr (by decide))).trans kn587)).symm.trans h8); exact ⟨z575, by omega, by omega, (st_ne (Or.inl (by decide))).trans ((st_ne (Or.inr (by decide))).trans kn588)⟩), (IvR.to (IvR.to hIN585 (a := 153) (k := 4) (x := z586) (show ivr 153 4 = ((-99), 300) from rfl) ⟨by omega, by omega⟩ ⟨by decide, by decide, by decide, fun q9 => absurd q9 (by decide)⟩) (a := 146) (k := 16) (x := 1) (show ivr 146 16 = (0, 1) from rfl) ⟨by omega, by omega⟩ ⟨by decide, by decide, by decide, fun q9 => absurd q9 (by decide)⟩), (Fr.to (Fr.to hGN585 (by first | decide | (dsimp only; first | done | decide | omega) | omega)) (by first | decide | (dsimp only; first | done | decide | omega) | omega))⟩ dX12_readsRule_264
                · refine lv_aload_n hx hb dX12_readsRule_252 rfl (lv_at hl 1 rfl) ?_
                  refine k_Vv F w (As := []) (rest := []) (a := 146) (kd_lt (a := 146) (show kd 146 = (12, 0, 0) from rfl) (by decide)) (sh_12 rfl _ _) rfl (q_X12_goesOn   (IvR.to hIN585 (a := 153) (k := 4) (x := z586) (show ivr 153 4 = ((-99), 300) from rfl) ⟨by omega, by omega⟩ ⟨by decide, by decide, by decide, fun q9 => absurd q9 (by decide)⟩)) gv_X12_221 hv_X12_goesOn ⟨(Nat.le_of_ble_eq_true rfl), (Nat.le_of_ble_eq_true rfl)⟩ hl.1 rfl (Nat.le_of_ble_eq_true rfl) ⟨Nat.zero_le _, Nat.zero_le _⟩ dX12_readsRule_253 (fun N611 H locs hp w => ?_)
                  obtain ⟨⟨nz6120, nz6121, enz6120, enz6121, xz612⟩, hIN611, hFN611⟩ := hp
                  have hGN611 := Fr.tr (Fr.to hGN585 (by first | decide | (dsimp only; first | done | decide | omega) | omega)) hFN611 (S := (fun b9 k9 => (b9 = 146 ∧ k9 = 11) ∨ (b9 = 146 ∧ k9 = 13) ∨ (b9 = 146 ∧ k9 = 14) ∨ (b9 = 146 ∧ k9 = 15) ∨ (b9 = 146 ∧ k9 = 16) ∨ (b9 = 146 ∧ k9 = 9) ∨ b9 = 153)) (fun b k h => by (try dsimp only at h ⊢); rcases h with ⟨rfl, rfl⟩ | ⟨rfl, rfl⟩ | ⟨rfl, rfl⟩ | ⟨rfl, rfl⟩ | ⟨rfl, rfl⟩ <;> first | decide | omega)
                  have kn613 : N611.1 153 0 = zI 8 := (hFN611 153 0 (by first | decide | (dsimp only; first | done | decide | omega) | omega)).trans ((st_ne (Or.inr (by decide))).trans kn587)
                  have kn614 : N611.1 153 3 = zI z575 := (hFN611 153 3 (by first | decide | (dsimp only; first | done | decide | omega) | omega)).trans ((st_ne (Or.inr (by decide))).trans kn588)
                  have kn615 : N611.1 153 4 = zI z586 := (hFN611 153 4 (by first | decide | (dsimp only; first | done | decide | omega) | omega)).trans (st_at)
                  refine lv_goto (tgt := 264) hx hb dX12_readsRule_256 (by decide) ?_
                  obtain ⟨z616, bz616, ez616⟩ := IvR.ld (k := 16) hIN611 (show ivr 146 16 = (0, 1) from rfl) (show 146 ≤ 146 ∧ 146 < 159 by decide)
                  rw [hQ]
                  exact e_v F w hr hlocks ⟨⟨nz6120, nz6121, z616, (enz6120), (enz6121), (ez616), ⟨by omega, by omega⟩, ⟨by omega, by omega⟩, ⟨by omega, by omega⟩, (by omega)⟩, (fun h8 => by have h9 := (zI_eq (a := 8) (b := 8) (by constructor <;> omega) (by constructor <;> omega)).mp ((kn613).symm.trans h8); exact ⟨z575, by omega, by omega, kn614⟩), hIN611, hGN611⟩ dX12_readsRule_264
              · obtain ⟨z617, bz617, ez617⟩ := IvR.ld (k := 16) (IvR.to hIN585 (a := 153) (k := 4) (x := z586) (show ivr 153 4 = ((-99), 300) from rfl) ⟨by omega, by omega⟩ ⟨by decide, by decide, by decide, fun q9 => absurd q9 (by decide)⟩) (show ivr 146 16 = (0, 1) from rfl) (show 146 ≤ 146 ∧ 146 < 159 by decide)
                rw [hQ]
                exact e_v F w hr hlocks ⟨⟨nz5860, nz5861, z617, ((st_ne (Or.inl (by decide))).trans enz5860), ((st_ne (Or.inl (by decide))).trans enz5861), (ez617), ⟨by omega, by omega⟩, ⟨by omega, by omega⟩, ⟨by omega, by omega⟩, (by omega)⟩, (fun h8 => by have h9 := (zI_eq (a := 8) (b := 8) (by constructor <;> omega) (by constructor <;> omega)).mp (((st_ne (Or.inr (by decide))).trans kn587).symm.trans h8); exact ⟨z575, by omega, by omega, (st_ne (Or.inr (by decide))).trans kn588⟩), (IvR.to hIN585 (a := 153) (k := 4) (x := z586) (show ivr 153 4 = ((-99), 300) from rfl) ⟨by omega, by omega⟩ ⟨by decide, by decide, by decide, fun q9 => absurd q9 (by decide)⟩), (Fr.to hGN585 (by first | decide | (dsimp only; first | done | decide | omega) | omega))⟩ dX12_readsRule_243
          · refine lv_istore_n (lv' := [(1, .int (zI 9)), (0, .ref (B + 146))]) hx hb dX12_readsRule_63 rfl hl (by decide) rfl (fun ls hl => ?_)
            refine lv_aload_n hx hb dX12_readsRule_64 rfl (lv_at hl 1 rfl) ?_
            refine f_12_17 F w (a := 146) rfl tb_676 dX12_readsRule_65 ?_
            refine lv_iconst (v := zI 0) hx hb dX12_readsRule_68 rfl ?_
            refine lv_iload_n hx hb dX12_readsRule_69 rfl (lv_at hl 0 rfl) ?_
            refine g_iast F w (a := 153) rfl (j := 0) ⟨by decide, by decide⟩ (by omega) dX12_readsRule_70 (fun H locs w => ?_)
            refine lv_iload_n hx hb dX12_readsRule_71 rfl (lv_at hl 0 rfl) ?_
            refine lv_bipush (v := zI 8) hx hb dX12_readsRule_72 (by decide) ?_
            refine z_icmp_ne (tgt := 90) hx hb (by omega) (by omega) dX12_readsRule_74 (by decide) (fun c618 => ?_) (fun c618 => False.elim (by omega))
            refine lv_iload_n hx hb dX12_readsRule_90 rfl (lv_at hl 0 rfl) ?_
            refine z_if_eq (tgt := 119) hx hb (by omega) dX12_readsRule_91 (by decide) (fun c619 => False.elim (by omega)) (fun c619 => ?_)
            refine lv_aload_n hx hb dX12_readsRule_94 rfl (lv_at hl 1 rfl) ?_
            refine f_12_17 F w (a := 146) rfl tb_676 dX12_readsRule_95 ?_
            refine lv_iconst (v := zI 2) hx hb dX12_readsRule_98 rfl ?_
            refine lv_aload_n hx hb dX12_readsRule_99 rfl (lv_at hl 1 rfl) ?_
            refine lv_bipush (v := zI 11) hx hb dX12_readsRule_100 (by decide) ?_
            refine lv_iload_n hx hb dX12_readsRule_102 rfl (lv_at hl 0 rfl) ?_
            refine lv_bipush (v := zI 9) hx hb dX12_readsRule_103 (by decide) ?_
            refine z_icmp_ne (tgt := 113) hx hb (by omega) (by omega) dX12_readsRule_105 (by decide) (fun c620 => False.elim (by omega)) (fun c620 => ?_)
            refine lv_bipush (v := zI 13) hx hb dX12_readsRule_108 (by decide) ?_
            refine lv_goto (tgt := 115) hx hb dX12_readsRule_110 (by decide) ?_
            refine k_Vi F w (As := [.int (zI 11), .int (zI 13)]) (rest := [.int (zI 2), .ref (B + 153)]) (a := 146) (kd_lt (a := 146) (show kd 146 = (12, 0, 0) from rfl) (by decide)) (sh_12 rfl _ _) rfl (q_X12_needs (x := 11) ⟨by omega, by omega⟩ (x1 := 13) ⟨by omega, by omega⟩ (tk := nz80) ((st_ne (Or.inl (by decide))).trans enz80) ⟨by omega, by omega⟩ (nb := nz81) ((st_ne (Or.inl (by decide))).trans enz81) ⟨by omega, by omega⟩ (by omega) (IvR.to hIN7 (a := 153) (k := 0) (x := 9) (show ivr 153 0 = ((-99), 300) from rfl) ⟨by omega, by omega⟩ ⟨by decide, by decide, by decide, fun q9 => absurd q9 (by decide)⟩)) gv_X12_227 hv_X12_needs ⟨(Nat.le_of_ble_eq_true rfl), (Nat.le_of_ble_eq_true rfl)⟩ hl.1 rfl (Nat.le_of_ble_eq_true rfl) ⟨Nat.zero_le _, Nat.zero_le _⟩ dX12_readsRule_115 (fun r621 N622 H locs hp w => ?_)
            obtain ⟨z623, rfl, bz623, ⟨nz6230, nz6231, enz6230, enz6231, xz623⟩, hIN622, hFN622⟩ := hp
            have hGN622 := Fr.tr (Fr.to hGN7 (by first | decide | (dsimp only; first | done | decide | omega) | omega)) hFN622 (S := (fun b9 k9 => (b9 = 146 ∧ k9 = 11) ∨ (b9 = 146 ∧ k9 = 13) ∨ (b9 = 146 ∧ k9 = 14) ∨ (b9 = 146 ∧ k9 = 15) ∨ (b9 = 146 ∧ k9 = 16) ∨ (b9 = 146 ∧ k9 = 9) ∨ b9 = 153)) (fun b k h => by (try dsimp only at h ⊢); rcases h with ⟨rfl, rfl⟩ | ⟨rfl, rfl⟩ | ⟨rfl, rfl⟩ | ⟨rfl, rfl⟩ | ⟨rfl, rfl⟩ | ⟨rfl, rfl⟩ <;> first | decide | omega)
            have kn624 : N622.1 153 0 = zI 9 := (hFN622 153 0 (by first | decide | (dsimp only; first | done | decide | omega) | omega)).trans (st_at)
            refine g_iast F w (a := 153) rfl (j := 2) ⟨by decide, by decide⟩ (by omega) dX12_readsRule_118 (fun H locs w => ?_)
            refine lv_iload_n hx hb dX12_readsRule_119 rfl (lv_at hl 0 rfl) ?_
            refine lv_bipush (v := zI 7) hx hb dX12_readsRule_120 (by decide) ?_
            refine z_icmp_ne (tgt := 148) hx hb (by omega) (by omega) dX12_readsRule_122 (by decide) (fun c625 => ?_) (fun c625 => False.elim (by omega))
            refine lv_iload_n hx hb dX12_readsRule_148 rfl (lv_at hl 0 rfl) ?_
            refine k_Si F w (As := [.int (zI 9)]) (rest := []) (q_X12_hasSide (x := 9) ⟨by omega, by omega⟩  (IvR.to hIN622 (a := 153) (k := 2) (x := z623) (show ivr 153 2 = ((-99), 300) from rfl) ⟨by omega, by omega⟩ ⟨by decide, by decide, by decide, fun q9 => absurd q9 (by decide)⟩)) gs_X12_137 hs_X12_hasSide ⟨(Nat.le_of_ble_eq_true rfl), (Nat.le_of_ble_eq_true rfl)⟩ hl.1 rfl (Nat.le_of_ble_eq_true rfl) ⟨Nat.zero_le _, Nat.zero_le _⟩ dX12_readsRule_149 (fun r626 N627 H locs hp w => ?_)
            obtain ⟨z628, rfl, bz628, xz628, hMN627⟩ := hp
            rw [hMN627] at w
            refine z_if_eq (tgt := 169) hx hb (by omega) dX12_readsRule_152 (by decide) (fun c629 => ?_) (fun c629 => False.elim (by omega))
            refine lv_iload_n hx hb dX12_readsRule_169 rfl (lv_at hl 0 rfl) ?_
            refine lv_iconst (v := zI 3) hx hb dX12_readsRule_170 rfl ?_
            refine z_icmp_eq (tgt := 180) hx hb (by omega) (by omega) dX12_readsRule_171 (by decide) (fun c630 => False.elim (by omega)) (fun c630 => ?_)
            refine lv_iload_n hx hb dX12_readsRule_174 rfl (lv_at hl 0 rfl) ?_
            refine lv_bipush (v := zI 8) hx hb dX12_readsRule_175 (by decide) ?_
            refine z_icmp_ne (tgt := 194) hx hb (by omega) (by omega) dX12_readsRule_177 (by decide) (fun c631 => ?_) (fun c631 => False.elim (by omega))
            refine lv_iload_n hx hb dX12_readsRule_194 rfl (lv_at hl 0 rfl) ?_
            refine lv_iconst (v := zI 1) hx hb dX12_readsRule_195 rfl ?_
            refine z_icmp_ne (tgt := 209) hx hb (by omega) (by omega) dX12_readsRule_196 (by decide) (fun c632 => ?_) (fun c632 => False.elim (by omega))
            refine lv_aload_n hx hb dX12_readsRule_209 rfl (lv_at hl 1 rfl) ?_
            refine f_12_16 F w (a := 146) rfl tb_669 dX12_readsRule_210 ?_
            obtain ⟨z633, bz633, ez633⟩ := IvR.ld (k := 16) (IvR.to hIN622 (a := 153) (k := 2) (x := z623) (show ivr 153 2 = ((-99), 300) from rfl) ⟨by omega, by omega⟩ ⟨by decide, by decide, by decide, fun q9 => absurd q9 (by decide)⟩) (show ivr 146 16 = (0, 1) from rfl) (show 146 ≤ 146 ∧ 146 < 159 by decide)
            refine r_val ez633 ?_
            refine z_if_ne (tgt := 236) hx hb (by omega) dX12_readsRule_213 (by decide) (fun c634 => ?_) (fun c634 => ?_)
            · refine lv_aload_n hx hb dX12_readsRule_236 rfl (lv_at hl 1 rfl) ?_
              refine f_12_16 F w (a := 146) rfl tb_669 dX12_readsRule_237 ?_
              obtain ⟨z635, bz635, ez635⟩ := IvR.ld (k := 16) (IvR.to hIN622 (a := 153) (k := 2) (x := z623) (show ivr 153 2 = ((-99), 300) from rfl) ⟨by omega, by omega⟩ ⟨by decide, by decide, by decide, fun q9 => absurd q9 (by decide)⟩) (show ivr 146 16 = (0, 1) from rfl) (show 146 ≤ 146 ∧ 146 < 159 by decide)
              refine r_val ez635 ?_
              refine z_if_eq (tgt := 244) hx hb (by omega) dX12_readsRule_240 (by decide) (fun c636 => ?_) (fun c636 => ?_)
              · refine lv_aload_n hx hb dX12_readsRule_244 rfl (lv_at hl 1 rfl) ?_
                refine f_12_13 F w (a := 146) rfl tb_602 dX12_readsRule_245 ?_
                refine r_val (v := zI nz6230) ((st_ne (Or.inl (by decide))).trans enz6230) ?_
                refine lv_iconst (v := zI 3) hx hb dX12_readsRule_248 rfl ?_
                refine z_icmp_ne (tgt := 259) hx hb (by omega) (by omega) dX12_readsRule_249 (by decide) (fun c637 => ?_) (fun c637 => ?_)
                · refine lv_aload_n hx hb dX12_readsRule_259 rfl (lv_at hl 1 rfl) ?_
                  refine lv_iconst (v := zI 1) hx hb dX12_readsRule_260 rfl ?_
                  refine u_12_16 F w (a := 146) rfl (nar_z (by omega)) (fit_z (by omega)) tb_669 dX12_readsRule_261 (fun H locs w => ?_)
                  obtain ⟨z638, bz638, ez638⟩ := IvR.ld (k := 3) (IvR.to (IvR.to hIN622 (a := 153) (k := 2) (x := z623) (show ivr 153 2 = ((-99), 300) from rfl) ⟨by omega, by omega⟩ ⟨by decide, by decide, by decide, fun q9 => absurd q9 (by decide)⟩) (a := 146) (k := 16) (x := 1) (show ivr 146 16 = (0, 1) from rfl) ⟨by omega, by omega⟩ ⟨by decide, by decide, by decide, fun q9 => absurd q9 (by decide)⟩) (show ivr 153 3 = (-99, 300) from rfl) (by decide)
                  rw [hQ]
                  exact e_v F w hr hlocks ⟨⟨nz6230, nz6231, 1, ((st_ne (Or.inr (by decide))).trans ((st_ne (Or.inl (by decide))).trans enz6230)), ((st_ne (Or.inr (by decide))).trans ((st_ne (Or.inl (by decide))).trans enz6231)), (st_at), ⟨by omega, by omega⟩, ⟨by omega, by omega⟩, ⟨by omega, by omega⟩, (by omega)⟩, (fun h8 => by have h9 := (zI_eq (a := 9) (b := 8) (by constructor <;> omega) (by constructor <;> omega)).mp (((st_ne (Or.inl (by decide))).trans ((st_ne (Or.inr (by decide))).trans kn624)).symm.trans h8); exact ⟨z638, by omega, by omega, ez638⟩), (IvR.to (IvR.to hIN622 (a := 153) (k := 2) (x := z623) (show ivr 153 2 = ((-99), 300) from rfl) ⟨by omega, by omega⟩ ⟨by decide, by decide, by decide, fun q9 => absurd q9 (by decide)⟩) (a := 146) (k := 16) (x := 1) (show ivr 146 16 = (0, 1) from rfl) ⟨by omega, by omega⟩ ⟨by decide, by decide, by decide, fun q9 => absurd q9 (by decide)⟩), (Fr.to (Fr.to hGN622 (by first | decide | (dsimp only; first | done | decide | omega) | omega)) (by first | decide | (dsimp only; first | done | decide | omega) | omega))⟩ dX12_readsRule_264
                · refine lv_aload_n hx hb dX12_readsRule_252 rfl (lv_at hl 1 rfl) ?_
                  refine k_Vv F w (As := []) (rest := []) (a := 146) (kd_lt (a := 146) (show kd 146 = (12, 0, 0) from rfl) (by decide)) (sh_12 rfl _ _) rfl (q_X12_goesOn   (IvR.to hIN622 (a := 153) (k := 2) (x := z623) (show ivr 153 2 = ((-99), 300) from rfl) ⟨by omega, by omega⟩ ⟨by decide, by decide, by decide, fun q9 => absurd q9 (by decide)⟩)) gv_X12_221 hv_X12_goesOn ⟨(Nat.le_of_ble_eq_true rfl), (Nat.le_of_ble_eq_true rfl)⟩ hl.1 rfl (Nat.le_of_ble_eq_true rfl) ⟨Nat.zero_le _, Nat.zero_le _⟩ dX12_readsRule_253 (fun N640 H locs hp w => ?_)
                  obtain ⟨⟨nz6410, nz6411, enz6410, enz6411, xz641⟩, hIN640, hFN640⟩ := hp
                  have hGN640 := Fr.tr (Fr.to hGN622 (by first | decide | (dsimp only; first | done | decide | omega) | omega)) hFN640 (S := (fun b9 k9 => (b9 = 146 ∧ k9 = 11) ∨ (b9 = 146 ∧ k9 = 13) ∨ (b9 = 146 ∧ k9 = 14) ∨ (b9 = 146 ∧ k9 = 15) ∨ (b9 = 146 ∧ k9 = 16) ∨ (b9 = 146 ∧ k9 = 9) ∨ b9 = 153)) (fun b k h => by (try dsimp only at h ⊢); rcases h with ⟨rfl, rfl⟩ | ⟨rfl, rfl⟩ | ⟨rfl, rfl⟩ | ⟨rfl, rfl⟩ | ⟨rfl, rfl⟩ <;> first | decide | omega)
                  have kn642 : N640.1 153 0 = zI 9 := (hFN640 153 0 (by first | decide | (dsimp only; first | done | decide | omega) | omega)).trans ((st_ne (Or.inr (by decide))).trans kn624)
                  have kn643 : N640.1 153 2 = zI z623 := (hFN640 153 2 (by first | decide | (dsimp only; first | done | decide | omega) | omega)).trans (st_at)
                  refine lv_goto (tgt := 264) hx hb dX12_readsRule_256 (by decide) ?_
                  obtain ⟨z644, bz644, ez644⟩ := IvR.ld (k := 16) hIN640 (show ivr 146 16 = (0, 1) from rfl) (show 146 ≤ 146 ∧ 146 < 159 by decide)
                  obtain ⟨z645, bz645, ez645⟩ := IvR.ld (k := 3) hIN640 (show ivr 153 3 = (-99, 300) from rfl) (by decide)
                  rw [hQ]
                  exact e_v F w hr hlocks ⟨⟨nz6410, nz6411, z644, (enz6410), (enz6411), (ez644), ⟨by omega, by omega⟩, ⟨by omega, by omega⟩, ⟨by omega, by omega⟩, (by omega)⟩, (fun h8 => by have h9 := (zI_eq (a := 9) (b := 8) (by constructor <;> omega) (by constructor <;> omega)).mp ((kn642).symm.trans h8); exact ⟨z645, by omega, by omega, ez645⟩), hIN640, hGN640⟩ dX12_readsRule_264
              · obtain ⟨z646, bz646, ez646⟩ := IvR.ld (k := 16) (IvR.to hIN622 (a := 153) (k := 2) (x := z623) (show ivr 153 2 = ((-99), 300) from rfl) ⟨by omega, by omega⟩ ⟨by decide, by decide, by decide, fun q9 => absurd q9 (by decide)⟩) (show ivr 146 16 = (0, 1) from rfl) (show 146 ≤ 146 ∧ 146 < 159 by decide)
                obtain ⟨z647, bz647, ez647⟩ := IvR.ld (k := 3) (IvR.to hIN622 (a := 153) (k := 2) (x := z623) (show ivr 153 2 = ((-99), 300) from rfl) ⟨by omega, by omega⟩ ⟨by decide, by decide, by decide, fun q9 => absurd q9 (by decide)⟩) (show ivr 153 3 = (-99, 300) from rfl) (by decide)
                rw [hQ]
                exact e_v F w hr hlocks ⟨⟨nz6230, nz6231, z646, ((st_ne (Or.inl (by decide))).trans enz6230), ((st_ne (Or.inl (by decide))).trans enz6231), (ez646), ⟨by omega, by omega⟩, ⟨by omega, by omega⟩, ⟨by omega, by omega⟩, (by omega)⟩, (fun h8 => by have h9 := (zI_eq (a := 9) (b := 8) (by constructor <;> omega) (by constructor <;> omega)).mp (((st_ne (Or.inr (by decide))).trans kn624).symm.trans h8); exact ⟨z647, by omega, by omega, ez647⟩), (IvR.to hIN622 (a := 153) (k := 2) (x := z623) (show ivr 153 2 = ((-99), 300) from rfl) ⟨by omega, by omega⟩ ⟨by decide, by decide, by decide, fun q9 => absurd q9 (by decide)⟩), (Fr.to hGN622 (by first | decide | (dsimp only; first | done | decide | omega) | omega))⟩ dX12_readsRule_243
            · refine lv_iload_n hx hb dX12_readsRule_216 rfl (lv_at hl 0 rfl) ?_
              refine k_Si F w (As := [.int (zI 9)]) (rest := []) (q_X12_isBySyllables (x := 9) ⟨by omega, by omega⟩  (IvR.to hIN622 (a := 153) (k := 2) (x := z623) (show ivr 153 2 = ((-99), 300) from rfl) ⟨by omega, by omega⟩ ⟨by decide, by decide, by decide, fun q9 => absurd q9 (by decide)⟩)) gs_X12_140 hs_X12_isBySyllables ⟨(Nat.le_of_ble_eq_true rfl), (Nat.le_of_ble_eq_true rfl)⟩ hl.1 rfl (Nat.le_of_ble_eq_true rfl) ⟨Nat.zero_le _, Nat.zero_le _⟩ dX12_readsRule_217 (fun r648 N649 H locs hp w => ?_)
              obtain ⟨z650, rfl, bz650, xz650, hMN649⟩ := hp
              rw [hMN649] at w
              refine z_if_ne (tgt := 236) hx hb (by omega) dX12_readsRule_220 (by decide) (fun c651 => ?_) (fun c651 => False.elim (by omega))
              refine lv_aload_n hx hb dX12_readsRule_236 rfl (lv_at hl 1 rfl) ?_
              refine f_12_16 F w (a := 146) rfl tb_669 dX12_readsRule_237 ?_
              obtain ⟨z652, bz652, ez652⟩ := IvR.ld (k := 16) (IvR.to hIN622 (a := 153) (k := 2) (x := z623) (show ivr 153 2 = ((-99), 300) from rfl) ⟨by omega, by omega⟩ ⟨by decide, by decide, by decide, fun q9 => absurd q9 (by decide)⟩) (show ivr 146 16 = (0, 1) from rfl) (show 146 ≤ 146 ∧ 146 < 159 by decide)
              refine r_val ez652 ?_
              refine z_if_eq (tgt := 244) hx hb (by omega) dX12_readsRule_240 (by decide) (fun c653 => ?_) (fun c653 => ?_)
              · refine lv_aload_n hx hb dX12_readsRule_244 rfl (lv_at hl 1 rfl) ?_
                refine f_12_13 F w (a := 146) rfl tb_602 dX12_readsRule_245 ?_
                refine r_val (v := zI nz6230) ((st_ne (Or.inl (by decide))).trans enz6230) ?_
                refine lv_iconst (v := zI 3) hx hb dX12_readsRule_248 rfl ?_
                refine z_icmp_ne (tgt := 259) hx hb (by omega) (by omega) dX12_readsRule_249 (by decide) (fun c654 => ?_) (fun c654 => ?_)
                · refine lv_aload_n hx hb dX12_readsRule_259 rfl (lv_at hl 1 rfl) ?_
                  refine lv_iconst (v := zI 1) hx hb dX12_readsRule_260 rfl ?_
                  refine u_12_16 F w (a := 146) rfl (nar_z (by omega)) (fit_z (by omega)) tb_669 dX12_readsRule_261 (fun H locs w => ?_)
                  obtain ⟨z655, bz655, ez655⟩ := IvR.ld (k := 3) (IvR.to (IvR.to hIN622 (a := 153) (k := 2) (x := z623) (show ivr 153 2 = ((-99), 300) from rfl) ⟨by omega, by omega⟩ ⟨by decide, by decide, by decide, fun q9 => absurd q9 (by decide)⟩) (a := 146) (k := 16) (x := 1) (show ivr 146 16 = (0, 1) from rfl) ⟨by omega, by omega⟩ ⟨by decide, by decide, by decide, fun q9 => absurd q9 (by decide)⟩) (show ivr 153 3 = (-99, 300) from rfl) (by decide)
                  rw [hQ]
                  exact e_v F w hr hlocks ⟨⟨nz6230, nz6231, 1, ((st_ne (Or.inr (by decide))).trans ((st_ne (Or.inl (by decide))).trans enz6230)), ((st_ne (Or.inr (by decide))).trans ((st_ne (Or.inl (by decide))).trans enz6231)), (st_at), ⟨by omega, by omega⟩, ⟨by omega, by omega⟩, ⟨by omega, by omega⟩, (by omega)⟩, (fun h8 => by have h9 := (zI_eq (a := 9) (b := 8) (by constructor <;> omega) (by constructor <;> omega)).mp (((st_ne (Or.inl (by decide))).trans ((st_ne (Or.inr (by decide))).trans kn624)).symm.trans h8); exact ⟨z655, by omega, by omega, ez655⟩), (IvR.to (IvR.to hIN622 (a := 153) (k := 2) (x := z623) (show ivr 153 2 = ((-99), 300) from rfl) ⟨by omega, by omega⟩ ⟨by decide, by decide, by decide, fun q9 => absurd q9 (by decide)⟩) (a := 146) (k := 16) (x := 1) (show ivr 146 16 = (0, 1) from rfl) ⟨by omega, by omega⟩ ⟨by decide, by decide, by decide, fun q9 => absurd q9 (by decide)⟩), (Fr.to (Fr.to hGN622 (by first | decide | (dsimp only; first | done | decide | omega) | omega)) (by first | decide | (dsimp only; first | done | decide | omega) | omega))⟩ dX12_readsRule_264
                · refine lv_aload_n hx hb dX12_readsRule_252 rfl (lv_at hl 1 rfl) ?_
                  refine k_Vv F w (As := []) (rest := []) (a := 146) (kd_lt (a := 146) (show kd 146 = (12, 0, 0) from rfl) (by decide)) (sh_12 rfl _ _) rfl (q_X12_goesOn   (IvR.to hIN622 (a := 153) (k := 2) (x := z623) (show ivr 153 2 = ((-99), 300) from rfl) ⟨by omega, by omega⟩ ⟨by decide, by decide, by decide, fun q9 => absurd q9 (by decide)⟩)) gv_X12_221 hv_X12_goesOn ⟨(Nat.le_of_ble_eq_true rfl), (Nat.le_of_ble_eq_true rfl)⟩ hl.1 rfl (Nat.le_of_ble_eq_true rfl) ⟨Nat.zero_le _, Nat.zero_le _⟩ dX12_readsRule_253 (fun N657 H locs hp w => ?_)
                  obtain ⟨⟨nz6580, nz6581, enz6580, enz6581, xz658⟩, hIN657, hFN657⟩ := hp
                  have hGN657 := Fr.tr (Fr.to hGN622 (by first | decide | (dsimp only; first | done | decide | omega) | omega)) hFN657 (S := (fun b9 k9 => (b9 = 146 ∧ k9 = 11) ∨ (b9 = 146 ∧ k9 = 13) ∨ (b9 = 146 ∧ k9 = 14) ∨ (b9 = 146 ∧ k9 = 15) ∨ (b9 = 146 ∧ k9 = 16) ∨ (b9 = 146 ∧ k9 = 9) ∨ b9 = 153)) (fun b k h => by (try dsimp only at h ⊢); rcases h with ⟨rfl, rfl⟩ | ⟨rfl, rfl⟩ | ⟨rfl, rfl⟩ | ⟨rfl, rfl⟩ | ⟨rfl, rfl⟩ <;> first | decide | omega)
                  have kn659 : N657.1 153 0 = zI 9 := (hFN657 153 0 (by first | decide | (dsimp only; first | done | decide | omega) | omega)).trans ((st_ne (Or.inr (by decide))).trans kn624)
                  have kn660 : N657.1 153 2 = zI z623 := (hFN657 153 2 (by first | decide | (dsimp only; first | done | decide | omega) | omega)).trans (st_at)
                  refine lv_goto (tgt := 264) hx hb dX12_readsRule_256 (by decide) ?_
                  obtain ⟨z661, bz661, ez661⟩ := IvR.ld (k := 16) hIN657 (show ivr 146 16 = (0, 1) from rfl) (show 146 ≤ 146 ∧ 146 < 159 by decide)
                  obtain ⟨z662, bz662, ez662⟩ := IvR.ld (k := 3) hIN657 (show ivr 153 3 = (-99, 300) from rfl) (by decide)
                  rw [hQ]
                  exact e_v F w hr hlocks ⟨⟨nz6580, nz6581, z661, (enz6580), (enz6581), (ez661), ⟨by omega, by omega⟩, ⟨by omega, by omega⟩, ⟨by omega, by omega⟩, (by omega)⟩, (fun h8 => by have h9 := (zI_eq (a := 9) (b := 8) (by constructor <;> omega) (by constructor <;> omega)).mp ((kn659).symm.trans h8); exact ⟨z662, by omega, by omega, ez662⟩), hIN657, hGN657⟩ dX12_readsRule_264
              · obtain ⟨z663, bz663, ez663⟩ := IvR.ld (k := 16) (IvR.to hIN622 (a := 153) (k := 2) (x := z623) (show ivr 153 2 = ((-99), 300) from rfl) ⟨by omega, by omega⟩ ⟨by decide, by decide, by decide, fun q9 => absurd q9 (by decide)⟩) (show ivr 146 16 = (0, 1) from rfl) (show 146 ≤ 146 ∧ 146 < 159 by decide)
                obtain ⟨z664, bz664, ez664⟩ := IvR.ld (k := 3) (IvR.to hIN622 (a := 153) (k := 2) (x := z623) (show ivr 153 2 = ((-99), 300) from rfl) ⟨by omega, by omega⟩ ⟨by decide, by decide, by decide, fun q9 => absurd q9 (by decide)⟩) (show ivr 153 3 = (-99, 300) from rfl) (by decide)
                rw [hQ]
                exact e_v F w hr hlocks ⟨⟨nz6230, nz6231, z663, ((st_ne (Or.inl (by decide))).trans enz6230), ((st_ne (Or.inl (by decide))).trans enz6231), (ez663), ⟨by omega, by omega⟩, ⟨by omega, by omega⟩, ⟨by omega, by omega⟩, (by omega)⟩, (fun h8 => by have h9 := (zI_eq (a := 9) (b := 8) (by constructor <;> omega) (by constructor <;> omega)).mp (((st_ne (Or.inr (by decide))).trans kn624).symm.trans h8); exact ⟨z664, by omega, by omega, ez664⟩), (IvR.to hIN622 (a := 153) (k := 2) (x := z623) (show ivr 153 2 = ((-99), 300) from rfl) ⟨by omega, by omega⟩ ⟨by decide, by decide, by decide, fun q9 => absurd q9 (by decide)⟩), (Fr.to hGN622 (by first | decide | (dsimp only; first | done | decide | omega) | omega))⟩ dX12_readsRule_243
        · refine lv_aload_n hx hb dX12_readsRule_45 rfl (lv_at hl 1 rfl) ?_
          refine f_12_17 F w (a := 146) rfl tb_676 dX12_readsRule_46 ?_
          refine lv_iconst (v := zI 1) hx hb dX12_readsRule_49 rfl ?_
          refine lv_iconst (v := zI 1) hx hb dX12_readsRule_50 rfl ?_
          refine g_iast F w (a := 153) rfl (j := 1) ⟨by decide, by decide⟩ (by omega) dX12_readsRule_51 (fun H locs w => ?_)
          refine lv_aload_n hx hb dX12_readsRule_52 rfl (lv_at hl 1 rfl) ?_
          refine k_Vv F w (As := []) (rest := []) (a := 146) (kd_lt (a := 146) (show kd 146 = (12, 0, 0) from rfl) (by decide)) (sh_12 rfl _ _) rfl (q_X12_goesOn   (IvR.to hIL2 (a := 153) (k := 1) (x := 1) (show ivr 153 1 = ((-99), 300) from rfl) ⟨by omega, by omega⟩ ⟨by decide, by decide, by decide, fun q9 => absurd q9 (by decide)⟩)) gv_X12_221 hv_X12_goesOn ⟨(Nat.le_of_ble_eq_true rfl), (Nat.le_of_ble_eq_true rfl)⟩ hl.1 rfl (Nat.le_of_ble_eq_true rfl) ⟨Nat.zero_le _, Nat.zero_le _⟩ dX12_readsRule_53 (fun N666 H locs hp w => ?_)
          obtain ⟨⟨nz6670, nz6671, enz6670, enz6671, xz667⟩, hIN666, hFN666⟩ := hp
          have hGN666 := Fr.tr (Fr.to hFL2 (by first | decide | (dsimp only; first | done | decide | omega) | omega)) hFN666 (S := (fun b9 k9 => (b9 = 146 ∧ k9 = 11) ∨ (b9 = 146 ∧ k9 = 13) ∨ (b9 = 146 ∧ k9 = 14) ∨ (b9 = 146 ∧ k9 = 15) ∨ (b9 = 146 ∧ k9 = 16) ∨ (b9 = 146 ∧ k9 = 9) ∨ b9 = 153)) (fun b k h => by (try dsimp only at h ⊢); rcases h with ⟨rfl, rfl⟩ | ⟨rfl, rfl⟩ | ⟨rfl, rfl⟩ | ⟨rfl, rfl⟩ | ⟨rfl, rfl⟩ <;> first | decide | omega)
          have kn668 : N666.1 153 1 = zI 1 := (hFN666 153 1 (by first | decide | (dsimp only; first | done | decide | omega) | omega)).trans (st_at)
          refine lv_aload_n hx hb dX12_readsRule_56 rfl (lv_at hl 1 rfl) ?_
          refine lv_iconst (v := zI 1) hx hb dX12_readsRule_57 rfl ?_
          refine lv_bipush (v := zI 10) hx hb dX12_readsRule_58 (by decide) ?_
          refine k_Vi F w (As := [.int (zI 1), .int (zI 10)]) (rest := []) (a := 146) (kd_lt (a := 146) (show kd 146 = (12, 0, 0) from rfl) (by decide)) (sh_12 rfl _ _) rfl (q_X12_needs (x := 1) ⟨by omega, by omega⟩ (x1 := 10) ⟨by omega, by omega⟩ (tk := nz6670) (enz6670) ⟨by omega, by omega⟩ (nb := nz6671) (enz6671) ⟨by omega, by omega⟩ (by omega) hIN666) gv_X12_227 hv_X12_needs ⟨(Nat.le_of_ble_eq_true rfl), (Nat.le_of_ble_eq_true rfl)⟩ hl.1 rfl (Nat.le_of_ble_eq_true rfl) ⟨Nat.zero_le _, Nat.zero_le _⟩ dX12_readsRule_60 (fun r669 N670 H locs hp w => ?_)
          obtain ⟨z671, rfl, bz671, ⟨nz6710, nz6711, enz6710, enz6711, xz671⟩, hIN670, hFN670⟩ := hp
          have hGN670 := Fr.tr hGN666 hFN670 (S := (fun b9 k9 => (b9 = 146 ∧ k9 = 11) ∨ (b9 = 146 ∧ k9 = 13) ∨ (b9 = 146 ∧ k9 = 14) ∨ (b9 = 146 ∧ k9 = 15) ∨ (b9 = 146 ∧ k9 = 16) ∨ (b9 = 146 ∧ k9 = 9) ∨ b9 = 153)) (fun b k h => by (try dsimp only at h ⊢); rcases h with ⟨rfl, rfl⟩ | ⟨rfl, rfl⟩ | ⟨rfl, rfl⟩ | ⟨rfl, rfl⟩ | ⟨rfl, rfl⟩ | ⟨rfl, rfl⟩ <;> first | decide | omega)
          have kn672 : N670.1 153 1 = zI 1 := (hFN670 153 1 (by first | decide | (dsimp only; first | done | decide | omega) | omega)).trans (kn668)
          rcases (show z671 = 0 ∨ z671 = 1 ∨ z671 = 2 ∨ z671 = 3 ∨ z671 = 4 ∨ z671 = 5 ∨ z671 = 6 ∨ z671 = 7 ∨ z671 = 8 ∨ z671 = 9 by omega) with rfl | rfl | rfl | rfl | rfl | rfl | rfl | rfl | rfl | rfl
          · refine lv_istore_n (lv' := [(1, .int (zI 0)), (0, .ref (B + 146))]) hx hb dX12_readsRule_63 rfl hl (by decide) rfl (fun ls hl => ?_)
            refine lv_aload_n hx hb dX12_readsRule_64 rfl (lv_at hl 1 rfl) ?_
            refine f_12_17 F w (a := 146) rfl tb_676 dX12_readsRule_65 ?_
            refine lv_iconst (v := zI 0) hx hb dX12_readsRule_68 rfl ?_
            refine lv_iload_n hx hb dX12_readsRule_69 rfl (lv_at hl 0 rfl) ?_
            refine g_iast F w (a := 153) rfl (j := 0) ⟨by decide, by decide⟩ (by omega) dX12_readsRule_70 (fun H locs w => ?_)
            refine lv_iload_n hx hb dX12_readsRule_71 rfl (lv_at hl 0 rfl) ?_
            refine lv_bipush (v := zI 8) hx hb dX12_readsRule_72 (by decide) ?_
            refine z_icmp_ne (tgt := 90) hx hb (by omega) (by omega) dX12_readsRule_74 (by decide) (fun c673 => ?_) (fun c673 => False.elim (by omega))
            refine lv_iload_n hx hb dX12_readsRule_90 rfl (lv_at hl 0 rfl) ?_
            refine z_if_eq (tgt := 119) hx hb (by omega) dX12_readsRule_91 (by decide) (fun c674 => ?_) (fun c674 => False.elim (by omega))
            refine lv_iload_n hx hb dX12_readsRule_119 rfl (lv_at hl 0 rfl) ?_
            refine lv_bipush (v := zI 7) hx hb dX12_readsRule_120 (by decide) ?_
            refine z_icmp_ne (tgt := 148) hx hb (by omega) (by omega) dX12_readsRule_122 (by decide) (fun c675 => ?_) (fun c675 => False.elim (by omega))
            refine lv_iload_n hx hb dX12_readsRule_148 rfl (lv_at hl 0 rfl) ?_
            refine k_Si F w (As := [.int (zI 0)]) (rest := []) (q_X12_hasSide (x := 0) ⟨by omega, by omega⟩  (IvR.to hIN670 (a := 153) (k := 0) (x := 0) (show ivr 153 0 = ((-99), 300) from rfl) ⟨by omega, by omega⟩ ⟨by decide, by decide, by decide, fun q9 => absurd q9 (by decide)⟩)) gs_X12_137 hs_X12_hasSide ⟨(Nat.le_of_ble_eq_true rfl), (Nat.le_of_ble_eq_true rfl)⟩ hl.1 rfl (Nat.le_of_ble_eq_true rfl) ⟨Nat.zero_le _, Nat.zero_le _⟩ dX12_readsRule_149 (fun r676 N677 H locs hp w => ?_)
            obtain ⟨z678, rfl, bz678, xz678, hMN677⟩ := hp
            rw [hMN677] at w
            refine z_if_eq (tgt := 169) hx hb (by omega) dX12_readsRule_152 (by decide) (fun c679 => False.elim (by omega)) (fun c679 => ?_)
            refine lv_aload_n hx hb dX12_readsRule_155 rfl (lv_at hl 1 rfl) ?_
            refine f_12_17 F w (a := 146) rfl tb_676 dX12_readsRule_156 ?_
            refine lv_iconst (v := zI 4) hx hb dX12_readsRule_159 rfl ?_
            refine lv_aload_n hx hb dX12_readsRule_160 rfl (lv_at hl 1 rfl) ?_
            refine lv_bipush (v := zI 15) hx hb dX12_readsRule_161 (by decide) ?_
            refine lv_bipush (v := zI 16) hx hb dX12_readsRule_163 (by decide) ?_
            refine k_Vi F w (As := [.int (zI 15), .int (zI 16)]) (rest := [.int (zI 4), .ref (B + 153)]) (a := 146) (kd_lt (a := 146) (show kd 146 = (12, 0, 0) from rfl) (by decide)) (sh_12 rfl _ _) rfl (q_X12_needs (x := 15) ⟨by omega, by omega⟩ (x1 := 16) ⟨by omega, by omega⟩ (tk := nz6710) ((st_ne (Or.inl (by decide))).trans enz6710) ⟨by omega, by omega⟩ (nb := nz6711) ((st_ne (Or.inl (by decide))).trans enz6711) ⟨by omega, by omega⟩ (by omega) (IvR.to hIN670 (a := 153) (k := 0) (x := 0) (show ivr 153 0 = ((-99), 300) from rfl) ⟨by omega, by omega⟩ ⟨by decide, by decide, by decide, fun q9 => absurd q9 (by decide)⟩)) gv_X12_227 hv_X12_needs ⟨(Nat.le_of_ble_eq_true rfl), (Nat.le_of_ble_eq_true rfl)⟩ hl.1 rfl (Nat.le_of_ble_eq_true rfl) ⟨Nat.zero_le _, Nat.zero_le _⟩ dX12_readsRule_165 (fun r680 N681 H locs hp w => ?_)
            obtain ⟨z682, rfl, bz682, ⟨nz6820, nz6821, enz6820, enz6821, xz682⟩, hIN681, hFN681⟩ := hp
            have hGN681 := Fr.tr (Fr.to hGN670 (by first | decide | (dsimp only; first | done | decide | omega) | omega)) hFN681 (S := (fun b9 k9 => (b9 = 146 ∧ k9 = 11) ∨ (b9 = 146 ∧ k9 = 13) ∨ (b9 = 146 ∧ k9 = 14) ∨ (b9 = 146 ∧ k9 = 15) ∨ (b9 = 146 ∧ k9 = 16) ∨ (b9 = 146 ∧ k9 = 9) ∨ b9 = 153)) (fun b k h => by (try dsimp only at h ⊢); rcases h with ⟨rfl, rfl⟩ | ⟨rfl, rfl⟩ | ⟨rfl, rfl⟩ | ⟨rfl, rfl⟩ | ⟨rfl, rfl⟩ | ⟨rfl, rfl⟩ <;> first | decide | omega)
            have kn683 : N681.1 153 1 = zI 1 := (hFN681 153 1 (by first | decide | (dsimp only; first | done | decide | omega) | omega)).trans ((st_ne (Or.inr (by decide))).trans kn672)
            have kn684 : N681.1 153 0 = zI 0 := (hFN681 153 0 (by first | decide | (dsimp only; first | done | decide | omega) | omega)).trans (st_at)
            refine g_iast F w (a := 153) rfl (j := 4) ⟨by decide, by decide⟩ (by omega) dX12_readsRule_168 (fun H locs w => ?_)
            refine lv_iload_n hx hb dX12_readsRule_169 rfl (lv_at hl 0 rfl) ?_
            refine lv_iconst (v := zI 3) hx hb dX12_readsRule_170 rfl ?_
            refine z_icmp_eq (tgt := 180) hx hb (by omega) (by omega) dX12_readsRule_171 (by decide) (fun c685 => False.elim (by omega)) (fun c685 => ?_)
            refine lv_iload_n hx hb dX12_readsRule_174 rfl (lv_at hl 0 rfl) ?_
            refine lv_bipush (v := zI 8) hx hb dX12_readsRule_175 (by decide) ?_
            refine z_icmp_ne (tgt := 194) hx hb (by omega) (by omega) dX12_readsRule_177 (by decide) (fun c686 => ?_) (fun c686 => False.elim (by omega))
            refine lv_iload_n hx hb dX12_readsRule_194 rfl (lv_at hl 0 rfl) ?_
            refine lv_iconst (v := zI 1) hx hb dX12_readsRule_195 rfl ?_
            refine z_icmp_ne (tgt := 209) hx hb (by omega) (by omega) dX12_readsRule_196 (by decide) (fun c687 => ?_) (fun c687 => False.elim (by omega))
            refine lv_aload_n hx hb dX12_readsRule_209 rfl (lv_at hl 1 rfl) ?_
            refine f_12_16 F w (a := 146) rfl tb_669 dX12_readsRule_210 ?_
            obtain ⟨z688, bz688, ez688⟩ := IvR.ld (k := 16) (IvR.to hIN681 (a := 153) (k := 4) (x := z682) (show ivr 153 4 = ((-99), 300) from rfl) ⟨by omega, by omega⟩ ⟨by decide, by decide, by decide, fun q9 => absurd q9 (by decide)⟩) (show ivr 146 16 = (0, 1) from rfl) (show 146 ≤ 146 ∧ 146 < 159 by decide)
            refine r_val ez688 ?_
            refine z_if_ne (tgt := 236) hx hb (by omega) dX12_readsRule_213 (by decide) (fun c689 => ?_) (fun c689 => ?_)
            · refine lv_aload_n hx hb dX12_readsRule_236 rfl (lv_at hl 1 rfl) ?_
              refine f_12_16 F w (a := 146) rfl tb_669 dX12_readsRule_237 ?_
              obtain ⟨z690, bz690, ez690⟩ := IvR.ld (k := 16) (IvR.to hIN681 (a := 153) (k := 4) (x := z682) (show ivr 153 4 = ((-99), 300) from rfl) ⟨by omega, by omega⟩ ⟨by decide, by decide, by decide, fun q9 => absurd q9 (by decide)⟩) (show ivr 146 16 = (0, 1) from rfl) (show 146 ≤ 146 ∧ 146 < 159 by decide)
              refine r_val ez690 ?_
              refine z_if_eq (tgt := 244) hx hb (by omega) dX12_readsRule_240 (by decide) (fun c691 => ?_) (fun c691 => ?_)
              · refine lv_aload_n hx hb dX12_readsRule_244 rfl (lv_at hl 1 rfl) ?_
                refine f_12_13 F w (a := 146) rfl tb_602 dX12_readsRule_245 ?_
                refine r_val (v := zI nz6820) ((st_ne (Or.inl (by decide))).trans enz6820) ?_
                refine lv_iconst (v := zI 3) hx hb dX12_readsRule_248 rfl ?_
                refine z_icmp_ne (tgt := 259) hx hb (by omega) (by omega) dX12_readsRule_249 (by decide) (fun c692 => ?_) (fun c692 => ?_)
                · refine lv_aload_n hx hb dX12_readsRule_259 rfl (lv_at hl 1 rfl) ?_
                  refine lv_iconst (v := zI 1) hx hb dX12_readsRule_260 rfl ?_
                  refine u_12_16 F w (a := 146) rfl (nar_z (by omega)) (fit_z (by omega)) tb_669 dX12_readsRule_261 (fun H locs w => ?_)
                  obtain ⟨z693, bz693, ez693⟩ := IvR.ld (k := 3) (IvR.to (IvR.to hIN681 (a := 153) (k := 4) (x := z682) (show ivr 153 4 = ((-99), 300) from rfl) ⟨by omega, by omega⟩ ⟨by decide, by decide, by decide, fun q9 => absurd q9 (by decide)⟩) (a := 146) (k := 16) (x := 1) (show ivr 146 16 = (0, 1) from rfl) ⟨by omega, by omega⟩ ⟨by decide, by decide, by decide, fun q9 => absurd q9 (by decide)⟩) (show ivr 153 3 = (-99, 300) from rfl) (by decide)
                  rw [hQ]
                  exact e_v F w hr hlocks ⟨⟨nz6820, nz6821, 1, ((st_ne (Or.inr (by decide))).trans ((st_ne (Or.inl (by decide))).trans enz6820)), ((st_ne (Or.inr (by decide))).trans ((st_ne (Or.inl (by decide))).trans enz6821)), (st_at), ⟨by omega, by omega⟩, ⟨by omega, by omega⟩, ⟨by omega, by omega⟩, (by omega)⟩, (fun h8 => by have h9 := (zI_eq (a := 0) (b := 8) (by constructor <;> omega) (by constructor <;> omega)).mp (((st_ne (Or.inl (by decide))).trans ((st_ne (Or.inr (by decide))).trans kn684)).symm.trans h8); exact ⟨z693, by omega, by omega, ez693⟩), (IvR.to (IvR.to hIN681 (a := 153) (k := 4) (x := z682) (show ivr 153 4 = ((-99), 300) from rfl) ⟨by omega, by omega⟩ ⟨by decide, by decide, by decide, fun q9 => absurd q9 (by decide)⟩) (a := 146) (k := 16) (x := 1) (show ivr 146 16 = (0, 1) from rfl) ⟨by omega, by omega⟩ ⟨by decide, by decide, by decide, fun q9 => absurd q9 (by decide)⟩), (Fr.to (Fr.to hGN681 (by first | decide | (dsimp only; first | done | decide | omega) | omega)) (by first | decide | (dsimp only; first | done | decide | omega) | omega))⟩ dX12_readsRule_264
                · refine lv_aload_n hx hb dX12_readsRule_252 rfl (lv_at hl 1 rfl) ?_
                  refine k_Vv F w (As := []) (rest := []) (a := 146) (kd_lt (a := 146) (show kd 146 = (12, 0, 0) from rfl) (by decide)) (sh_12 rfl _ _) rfl (q_X12_goesOn   (IvR.to hIN681 (a := 153) (k := 4) (x := z682) (show ivr 153 4 = ((-99), 300) from rfl) ⟨by omega, by omega⟩ ⟨by decide, by decide, by decide, fun q9 => absurd q9 (by decide)⟩)) gv_X12_221 hv_X12_goesOn ⟨(Nat.le_of_ble_eq_true rfl), (Nat.le_of_ble_eq_true rfl)⟩ hl.1 rfl (Nat.le_of_ble_eq_true rfl) ⟨Nat.zero_le _, Nat.zero_le _⟩ dX12_readsRule_253 (fun N695 H locs hp w => ?_)
                  obtain ⟨⟨nz6960, nz6961, enz6960, enz6961, xz696⟩, hIN695, hFN695⟩ := hp
                  have hGN695 := Fr.tr (Fr.to hGN681 (by first | decide | (dsimp only; first | done | decide | omega) | omega)) hFN695 (S := (fun b9 k9 => (b9 = 146 ∧ k9 = 11) ∨ (b9 = 146 ∧ k9 = 13) ∨ (b9 = 146 ∧ k9 = 14) ∨ (b9 = 146 ∧ k9 = 15) ∨ (b9 = 146 ∧ k9 = 16) ∨ (b9 = 146 ∧ k9 = 9) ∨ b9 = 153)) (fun b k h => by (try dsimp only at h ⊢); rcases h with ⟨rfl, rfl⟩ | ⟨rfl, rfl⟩ | ⟨rfl, rfl⟩ | ⟨rfl, rfl⟩ | ⟨rfl, rfl⟩ <;> first | decide | omega)
                  have kn697 : N695.1 153 1 = zI 1 := (hFN695 153 1 (by first | decide | (dsimp only; first | done | decide | omega) | omega)).trans ((st_ne (Or.inr (by decide))).trans kn683)
                  have kn698 : N695.1 153 0 = zI 0 := (hFN695 153 0 (by first | decide | (dsimp only; first | done | decide | omega) | omega)).trans ((st_ne (Or.inr (by decide))).trans kn684)
                  have kn699 : N695.1 153 4 = zI z682 := (hFN695 153 4 (by first | decide | (dsimp only; first | done | decide | omega) | omega)).trans (st_at)
                  refine lv_goto (tgt := 264) hx hb dX12_readsRule_256 (by decide) ?_
                  obtain ⟨z700, bz700, ez700⟩ := IvR.ld (k := 16) hIN695 (show ivr 146 16 = (0, 1) from rfl) (show 146 ≤ 146 ∧ 146 < 159 by decide)
                  obtain ⟨z701, bz701, ez701⟩ := IvR.ld (k := 3) hIN695 (show ivr 153 3 = (-99, 300) from rfl) (by decide)
                  rw [hQ]
                  exact e_v F w hr hlocks ⟨⟨nz6960, nz6961, z700, (enz6960), (enz6961), (ez700), ⟨by omega, by omega⟩, ⟨by omega, by omega⟩, ⟨by omega, by omega⟩, (by omega)⟩, (fun h8 => by have h9 := (zI_eq (a := 0) (b := 8) (by constructor <;> omega) (by constructor <;> omega)).mp ((kn698).symm.trans h8); exact ⟨z701, by omega, by omega, ez701⟩), hIN695, hGN695⟩ dX12_readsRule_264
              · obtain ⟨z702, bz702, ez702⟩ := IvR.ld (k := 16) (IvR.to hIN681 (a := 153) (k := 4) (x := z682) (show ivr 153 4 = ((-99), 300) from rfl) ⟨by omega, by omega⟩ ⟨by decide, by decide, by decide, fun q9 => absurd q9 (by decide)⟩) (show ivr 146 16 = (0, 1) from rfl) (show 146 ≤ 146 ∧ 146 < 159 by decide)
                obtain ⟨z703, bz703, ez703⟩ := IvR.ld (k := 3) (IvR.to hIN681 (a := 153) (k := 4) (x := z682) (show ivr 153 4 = ((-99), 300) from rfl) ⟨by omega, by omega⟩ ⟨by decide, by decide, by decide, fun q9 => absurd q9 (by decide)⟩) (show ivr 153 3 = (-99, 300) from rfl) (by decide)
                rw [hQ]
                exact e_v F w hr hlocks ⟨⟨nz6820, nz6821, z702, ((st_ne (Or.inl (by decide))).trans enz6820), ((st_ne (Or.inl (by decide))).trans enz6821), (ez702), ⟨by omega, by omega⟩, ⟨by omega, by omega⟩, ⟨by omega, by omega⟩, (by omega)⟩, (fun h8 => by have h9 := (zI_eq (a := 0) (b := 8) (by constructor <;> omega) (by constructor <;> omega)).mp (((st_ne (Or.inr (by decide))).trans kn684).symm.trans h8); exact ⟨z703, by omega, by omega, ez703⟩), (IvR.to hIN681 (a := 153) (k := 4) (x := z682) (show ivr 153 4 = ((-99), 300) from rfl) ⟨by omega, by omega⟩ ⟨by decide, by decide, by decide, fun q9 => absurd q9 (by decide)⟩), (Fr.to hGN681 (by first | decide | (dsimp only; first | done | decide | omega) | omega))⟩ dX12_readsRule_243
            · refine lv_iload_n hx hb dX12_readsRule_216 rfl (lv_at hl 0 rfl) ?_
              refine k_Si F w (As := [.int (zI 0)]) (rest := []) (q_X12_isBySyllables (x := 0) ⟨by omega, by omega⟩  (IvR.to hIN681 (a := 153) (k := 4) (x := z682) (show ivr 153 4 = ((-99), 300) from rfl) ⟨by omega, by omega⟩ ⟨by decide, by decide, by decide, fun q9 => absurd q9 (by decide)⟩)) gs_X12_140 hs_X12_isBySyllables ⟨(Nat.le_of_ble_eq_true rfl), (Nat.le_of_ble_eq_true rfl)⟩ hl.1 rfl (Nat.le_of_ble_eq_true rfl) ⟨Nat.zero_le _, Nat.zero_le _⟩ dX12_readsRule_217 (fun r704 N705 H locs hp w => ?_)
              obtain ⟨z706, rfl, bz706, xz706, hMN705⟩ := hp
              rw [hMN705] at w
              refine z_if_ne (tgt := 236) hx hb (by omega) dX12_readsRule_220 (by decide) (fun c707 => ?_) (fun c707 => False.elim (by omega))
              refine lv_aload_n hx hb dX12_readsRule_236 rfl (lv_at hl 1 rfl) ?_
              refine f_12_16 F w (a := 146) rfl tb_669 dX12_readsRule_237 ?_
              obtain ⟨z708, bz708, ez708⟩ := IvR.ld (k := 16) (IvR.to hIN681 (a := 153) (k := 4) (x := z682) (show ivr 153 4 = ((-99), 300) from rfl) ⟨by omega, by omega⟩ ⟨by decide, by decide, by decide, fun q9 => absurd q9 (by decide)⟩) (show ivr 146 16 = (0, 1) from rfl) (show 146 ≤ 146 ∧ 146 < 159 by decide)
              refine r_val ez708 ?_
              refine z_if_eq (tgt := 244) hx hb (by omega) dX12_readsRule_240 (by decide) (fun c709 => ?_) (fun c709 => ?_)
              · refine lv_aload_n hx hb dX12_readsRule_244 rfl (lv_at hl 1 rfl) ?_
                refine f_12_13 F w (a := 146) rfl tb_602 dX12_readsRule_245 ?_
                refine r_val (v := zI nz6820) ((st_ne (Or.inl (by decide))).trans enz6820) ?_
                refine lv_iconst (v := zI 3) hx hb dX12_readsRule_248 rfl ?_
                refine z_icmp_ne (tgt := 259) hx hb (by omega) (by omega) dX12_readsRule_249 (by decide) (fun c710 => ?_) (fun c710 => ?_)
                · refine lv_aload_n hx hb dX12_readsRule_259 rfl (lv_at hl 1 rfl) ?_
                  refine lv_iconst (v := zI 1) hx hb dX12_readsRule_260 rfl ?_
                  refine u_12_16 F w (a := 146) rfl (nar_z (by omega)) (fit_z (by omega)) tb_669 dX12_readsRule_261 (fun H locs w => ?_)
                  obtain ⟨z711, bz711, ez711⟩ := IvR.ld (k := 3) (IvR.to (IvR.to hIN681 (a := 153) (k := 4) (x := z682) (show ivr 153 4 = ((-99), 300) from rfl) ⟨by omega, by omega⟩ ⟨by decide, by decide, by decide, fun q9 => absurd q9 (by decide)⟩) (a := 146) (k := 16) (x := 1) (show ivr 146 16 = (0, 1) from rfl) ⟨by omega, by omega⟩ ⟨by decide, by decide, by decide, fun q9 => absurd q9 (by decide)⟩) (show ivr 153 3 = (-99, 300) from rfl) (by decide)
                  rw [hQ]
                  exact e_v F w hr hlocks ⟨⟨nz6820, nz6821, 1, ((st_ne (Or.inr (by decide))).trans ((st_ne (Or.inl (by decide))).trans enz6820)), ((st_ne (Or.inr (by decide))).trans ((st_ne (Or.inl (by decide))).trans enz6821)), (st_at), ⟨by omega, by omega⟩, ⟨by omega, by omega⟩, ⟨by omega, by omega⟩, (by omega)⟩, (fun h8 => by have h9 := (zI_eq (a := 0) (b := 8) (by constructor <;> omega) (by constructor <;> omega)).mp (((st_ne (Or.inl (by decide))).trans ((st_ne (Or.inr (by decide))).trans kn684)).symm.trans h8); exact ⟨z711, by omega, by omega, ez711⟩), (IvR.to (IvR.to hIN681 (a := 153) (k := 4) (x := z682) (show ivr 153 4 = ((-99), 300) from rfl) ⟨by omega, by omega⟩ ⟨by decide, by decide, by decide, fun q9 => absurd q9 (by decide)⟩) (a := 146) (k := 16) (x := 1) (show ivr 146 16 = (0, 1) from rfl) ⟨by omega, by omega⟩ ⟨by decide, by decide, by decide, fun q9 => absurd q9 (by decide)⟩), (Fr.to (Fr.to hGN681 (by first | decide | (dsimp only; first | done | decide | omega) | omega)) (by first | decide | (dsimp only; first | done | decide | omega) | omega))⟩ dX12_readsRule_264
                · refine lv_aload_n hx hb dX12_readsRule_252 rfl (lv_at hl 1 rfl) ?_
                  refine k_Vv F w (As := []) (rest := []) (a := 146) (kd_lt (a := 146) (show kd 146 = (12, 0, 0) from rfl) (by decide)) (sh_12 rfl _ _) rfl (q_X12_goesOn   (IvR.to hIN681 (a := 153) (k := 4) (x := z682) (show ivr 153 4 = ((-99), 300) from rfl) ⟨by omega, by omega⟩ ⟨by decide, by decide, by decide, fun q9 => absurd q9 (by decide)⟩)) gv_X12_221 hv_X12_goesOn ⟨(Nat.le_of_ble_eq_true rfl), (Nat.le_of_ble_eq_true rfl)⟩ hl.1 rfl (Nat.le_of_ble_eq_true rfl) ⟨Nat.zero_le _, Nat.zero_le _⟩ dX12_readsRule_253 (fun N713 H locs hp w => ?_)
                  obtain ⟨⟨nz7140, nz7141, enz7140, enz7141, xz714⟩, hIN713, hFN713⟩ := hp
                  have hGN713 := Fr.tr (Fr.to hGN681 (by first | decide | (dsimp only; first | done | decide | omega) | omega)) hFN713 (S := (fun b9 k9 => (b9 = 146 ∧ k9 = 11) ∨ (b9 = 146 ∧ k9 = 13) ∨ (b9 = 146 ∧ k9 = 14) ∨ (b9 = 146 ∧ k9 = 15) ∨ (b9 = 146 ∧ k9 = 16) ∨ (b9 = 146 ∧ k9 = 9) ∨ b9 = 153)) (fun b k h => by (try dsimp only at h ⊢); rcases h with ⟨rfl, rfl⟩ | ⟨rfl, rfl⟩ | ⟨rfl, rfl⟩ | ⟨rfl, rfl⟩ | ⟨rfl, rfl⟩ <;> first | decide | omega)
                  have kn715 : N713.1 153 1 = zI 1 := (hFN713 153 1 (by first | decide | (dsimp only; first | done | decide | omega) | omega)).trans ((st_ne (Or.inr (by decide))).trans kn683)
                  have kn716 : N713.1 153 0 = zI 0 := (hFN713 153 0 (by first | decide | (dsimp only; first | done | decide | omega) | omega)).trans ((st_ne (Or.inr (by decide))).trans kn684)
                  have kn717 : N713.1 153 4 = zI z682 := (hFN713 153 4 (by first | decide | (dsimp only; first | done | decide | omega) | omega)).trans (st_at)
                  refine lv_goto (tgt := 264) hx hb dX12_readsRule_256 (by decide) ?_
                  obtain ⟨z718, bz718, ez718⟩ := IvR.ld (k := 16) hIN713 (show ivr 146 16 = (0, 1) from rfl) (show 146 ≤ 146 ∧ 146 < 159 by decide)
                  obtain ⟨z719, bz719, ez719⟩ := IvR.ld (k := 3) hIN713 (show ivr 153 3 = (-99, 300) from rfl) (by decide)
                  rw [hQ]
                  exact e_v F w hr hlocks ⟨⟨nz7140, nz7141, z718, (enz7140), (enz7141), (ez718), ⟨by omega, by omega⟩, ⟨by omega, by omega⟩, ⟨by omega, by omega⟩, (by omega)⟩, (fun h8 => by have h9 := (zI_eq (a := 0) (b := 8) (by constructor <;> omega) (by constructor <;> omega)).mp ((kn716).symm.trans h8); exact ⟨z719, by omega, by omega, ez719⟩), hIN713, hGN713⟩ dX12_readsRule_264
              · obtain ⟨z720, bz720, ez720⟩ := IvR.ld (k := 16) (IvR.to hIN681 (a := 153) (k := 4) (x := z682) (show ivr 153 4 = ((-99), 300) from rfl) ⟨by omega, by omega⟩ ⟨by decide, by decide, by decide, fun q9 => absurd q9 (by decide)⟩) (show ivr 146 16 = (0, 1) from rfl) (show 146 ≤ 146 ∧ 146 < 159 by decide)
                obtain ⟨z721, bz721, ez721⟩ := IvR.ld (k := 3) (IvR.to hIN681 (a := 153) (k := 4) (x := z682) (show ivr 153 4 = ((-99), 300) from rfl) ⟨by omega, by omega⟩ ⟨by decide, by decide, by decide, fun q9 => absurd q9 (by decide)⟩) (show ivr 153 3 = (-99, 300) from rfl) (by decide)
                rw [hQ]
                exact e_v F w hr hlocks ⟨⟨nz6820, nz6821, z720, ((st_ne (Or.inl (by decide))).trans enz6820), ((st_ne (Or.inl (by decide))).trans enz6821), (ez720), ⟨by omega, by omega⟩, ⟨by omega, by omega⟩, ⟨by omega, by omega⟩, (by omega)⟩, (fun h8 => by have h9 := (zI_eq (a := 0) (b := 8) (by constructor <;> omega) (by constructor <;> omega)).mp (((st_ne (Or.inr (by decide))).trans kn684).symm.trans h8); exact ⟨z721, by omega, by omega, ez721⟩), (IvR.to hIN681 (a := 153) (k := 4) (x := z682) (show ivr 153 4 = ((-99), 300) from rfl) ⟨by omega, by omega⟩ ⟨by decide, by decide, by decide, fun q9 => absurd q9 (by decide)⟩), (Fr.to hGN681 (by first | decide | (dsimp only; first | done | decide | omega) | omega))⟩ dX12_readsRule_243
          · refine lv_istore_n (lv' := [(1, .int (zI 1)), (0, .ref (B + 146))]) hx hb dX12_readsRule_63 rfl hl (by decide) rfl (fun ls hl => ?_)
            refine lv_aload_n hx hb dX12_readsRule_64 rfl (lv_at hl 1 rfl) ?_
            refine f_12_17 F w (a := 146) rfl tb_676 dX12_readsRule_65 ?_
            refine lv_iconst (v := zI 0) hx hb dX12_readsRule_68 rfl ?_
            refine lv_iload_n hx hb dX12_readsRule_69 rfl (lv_at hl 0 rfl) ?_
            refine g_iast F w (a := 153) rfl (j := 0) ⟨by decide, by decide⟩ (by omega) dX12_readsRule_70 (fun H locs w => ?_)
            refine lv_iload_n hx hb dX12_readsRule_71 rfl (lv_at hl 0 rfl) ?_
            refine lv_bipush (v := zI 8) hx hb dX12_readsRule_72 (by decide) ?_
            refine z_icmp_ne (tgt := 90) hx hb (by omega) (by omega) dX12_readsRule_74 (by decide) (fun c722 => ?_) (fun c722 => False.elim (by omega))
            refine lv_iload_n hx hb dX12_readsRule_90 rfl (lv_at hl 0 rfl) ?_
            refine z_if_eq (tgt := 119) hx hb (by omega) dX12_readsRule_91 (by decide) (fun c723 => False.elim (by omega)) (fun c723 => ?_)
            refine lv_aload_n hx hb dX12_readsRule_94 rfl (lv_at hl 1 rfl) ?_
            refine f_12_17 F w (a := 146) rfl tb_676 dX12_readsRule_95 ?_
            refine lv_iconst (v := zI 2) hx hb dX12_readsRule_98 rfl ?_
            refine lv_aload_n hx hb dX12_readsRule_99 rfl (lv_at hl 1 rfl) ?_
            refine lv_bipush (v := zI 11) hx hb dX12_readsRule_100 (by decide) ?_
            refine lv_iload_n hx hb dX12_readsRule_102 rfl (lv_at hl 0 rfl) ?_
            refine lv_bipush (v := zI 9) hx hb dX12_readsRule_103 (by decide) ?_
            refine z_icmp_ne (tgt := 113) hx hb (by omega) (by omega) dX12_readsRule_105 (by decide) (fun c724 => ?_) (fun c724 => False.elim (by omega))
            refine lv_bipush (v := zI 14) hx hb dX12_readsRule_113 (by decide) ?_
            refine k_Vi F w (As := [.int (zI 11), .int (zI 14)]) (rest := [.int (zI 2), .ref (B + 153)]) (a := 146) (kd_lt (a := 146) (show kd 146 = (12, 0, 0) from rfl) (by decide)) (sh_12 rfl _ _) rfl (q_X12_needs (x := 11) ⟨by omega, by omega⟩ (x1 := 14) ⟨by omega, by omega⟩ (tk := nz6710) ((st_ne (Or.inl (by decide))).trans enz6710) ⟨by omega, by omega⟩ (nb := nz6711) ((st_ne (Or.inl (by decide))).trans enz6711) ⟨by omega, by omega⟩ (by omega) (IvR.to hIN670 (a := 153) (k := 0) (x := 1) (show ivr 153 0 = ((-99), 300) from rfl) ⟨by omega, by omega⟩ ⟨by decide, by decide, by decide, fun q9 => absurd q9 (by decide)⟩)) gv_X12_227 hv_X12_needs ⟨(Nat.le_of_ble_eq_true rfl), (Nat.le_of_ble_eq_true rfl)⟩ hl.1 rfl (Nat.le_of_ble_eq_true rfl) ⟨Nat.zero_le _, Nat.zero_le _⟩ dX12_readsRule_115 (fun r725 N726 H locs hp w => ?_)
            obtain ⟨z727, rfl, bz727, ⟨nz7270, nz7271, enz7270, enz7271, xz727⟩, hIN726, hFN726⟩ := hp
            have hGN726 := Fr.tr (Fr.to hGN670 (by first | decide | (dsimp only; first | done | decide | omega) | omega)) hFN726 (S := (fun b9 k9 => (b9 = 146 ∧ k9 = 11) ∨ (b9 = 146 ∧ k9 = 13) ∨ (b9 = 146 ∧ k9 = 14) ∨ (b9 = 146 ∧ k9 = 15) ∨ (b9 = 146 ∧ k9 = 16) ∨ (b9 = 146 ∧ k9 = 9) ∨ b9 = 153)) (fun b k h => by (try dsimp only at h ⊢); rcases h with ⟨rfl, rfl⟩ | ⟨rfl, rfl⟩ | ⟨rfl, rfl⟩ | ⟨rfl, rfl⟩ | ⟨rfl, rfl⟩ | ⟨rfl, rfl⟩ <;> first | decide | omega)
            have kn728 : N726.1 153 1 = zI 1 := (hFN726 153 1 (by first | decide | (dsimp only; first | done | decide | omega) | omega)).trans ((st_ne (Or.inr (by decide))).trans kn672)
            have kn729 : N726.1 153 0 = zI 1 := (hFN726 153 0 (by first | decide | (dsimp only; first | done | decide | omega) | omega)).trans (st_at)
            refine g_iast F w (a := 153) rfl (j := 2) ⟨by decide, by decide⟩ (by omega) dX12_readsRule_118 (fun H locs w => ?_)
            refine lv_iload_n hx hb dX12_readsRule_119 rfl (lv_at hl 0 rfl) ?_
            refine lv_bipush (v := zI 7) hx hb dX12_readsRule_120 (by decide) ?_
            refine z_icmp_ne (tgt := 148) hx hb (by omega) (by omega) dX12_readsRule_122 (by decide) (fun c730 => ?_) (fun c730 => False.elim (by omega))
            refine lv_iload_n hx hb dX12_readsRule_148 rfl (lv_at hl 0 rfl) ?_
            refine k_Si F w (As := [.int (zI 1)]) (rest := []) (q_X12_hasSide (x := 1) ⟨by omega, by omega⟩  (IvR.to hIN726 (a := 153) (k := 2) (x := z727) (show ivr 153 2 = ((-99), 300) from rfl) ⟨by omega, by omega⟩ ⟨by decide, by decide, by decide, fun q9 => absurd q9 (by decide)⟩)) gs_X12_137 hs_X12_hasSide ⟨(Nat.le_of_ble_eq_true rfl), (Nat.le_of_ble_eq_true rfl)⟩ hl.1 rfl (Nat.le_of_ble_eq_true rfl) ⟨Nat.zero_le _, Nat.zero_le _⟩ dX12_readsRule_149 (fun r731 N732 H locs hp w => ?_)
            obtain ⟨z733, rfl, bz733, xz733, hMN732⟩ := hp
            rw [hMN732] at w
            refine z_if_eq (tgt := 169) hx hb (by omega) dX12_readsRule_152 (by decide) (fun c734 => False.elim (by omega)) (fun c734 => ?_)
            refine lv_aload_n hx hb dX12_readsRule_155 rfl (lv_at hl 1 rfl) ?_
            refine f_12_17 F w (a := 146) rfl tb_676 dX12_readsRule_156 ?_
            refine lv_iconst (v := zI 4) hx hb dX12_readsRule_159 rfl ?_
            refine lv_aload_n hx hb dX12_readsRule_160 rfl (lv_at hl 1 rfl) ?_
            refine lv_bipush (v := zI 15) hx hb dX12_readsRule_161 (by decide) ?_
            refine lv_bipush (v := zI 16) hx hb dX12_readsRule_163 (by decide) ?_
            refine k_Vi F w (As := [.int (zI 15), .int (zI 16)]) (rest := [.int (zI 4), .ref (B + 153)]) (a := 146) (kd_lt (a := 146) (show kd 146 = (12, 0, 0) from rfl) (by decide)) (sh_12 rfl _ _) rfl (q_X12_needs (x := 15) ⟨by omega, by omega⟩ (x1 := 16) ⟨by omega, by omega⟩ (tk := nz7270) ((st_ne (Or.inl (by decide))).trans enz7270) ⟨by omega, by omega⟩ (nb := nz7271) ((st_ne (Or.inl (by decide))).trans enz7271) ⟨by omega, by omega⟩ (by omega) (IvR.to hIN726 (a := 153) (k := 2) (x := z727) (show ivr 153 2 = ((-99), 300) from rfl) ⟨by omega, by omega⟩ ⟨by decide, by decide, by decide, fun q9 => absurd q9 (by decide)⟩)) gv_X12_227 hv_X12_needs ⟨(Nat.le_of_ble_eq_true rfl), (Nat.le_of_ble_eq_true rfl)⟩ hl.1 rfl (Nat.le_of_ble_eq_true rfl) ⟨Nat.zero_le _, Nat.zero_le _⟩ dX12_readsRule_165 (fun r735 N736 H locs hp w => ?_)
            obtain ⟨z737, rfl, bz737, ⟨nz7370, nz7371, enz7370, enz7371, xz737⟩, hIN736, hFN736⟩ := hp
            have hGN736 := Fr.tr (Fr.to hGN726 (by first | decide | (dsimp only; first | done | decide | omega) | omega)) hFN736 (S := (fun b9 k9 => (b9 = 146 ∧ k9 = 11) ∨ (b9 = 146 ∧ k9 = 13) ∨ (b9 = 146 ∧ k9 = 14) ∨ (b9 = 146 ∧ k9 = 15) ∨ (b9 = 146 ∧ k9 = 16) ∨ (b9 = 146 ∧ k9 = 9) ∨ b9 = 153)) (fun b k h => by (try dsimp only at h ⊢); rcases h with ⟨rfl, rfl⟩ | ⟨rfl, rfl⟩ | ⟨rfl, rfl⟩ | ⟨rfl, rfl⟩ | ⟨rfl, rfl⟩ | ⟨rfl, rfl⟩ <;> first | decide | omega)
            have kn738 : N736.1 153 1 = zI 1 := (hFN736 153 1 (by first | decide | (dsimp only; first | done | decide | omega) | omega)).trans ((st_ne (Or.inr (by decide))).trans kn728)
            have kn739 : N736.1 153 0 = zI 1 := (hFN736 153 0 (by first | decide | (dsimp only; first | done | decide | omega) | omega)).trans ((st_ne (Or.inr (by decide))).trans kn729)
            have kn740 : N736.1 153 2 = zI z727 := (hFN736 153 2 (by first | decide | (dsimp only; first | done | decide | omega) | omega)).trans (st_at)
            refine g_iast F w (a := 153) rfl (j := 4) ⟨by decide, by decide⟩ (by omega) dX12_readsRule_168 (fun H locs w => ?_)
            refine lv_iload_n hx hb dX12_readsRule_169 rfl (lv_at hl 0 rfl) ?_
            refine lv_iconst (v := zI 3) hx hb dX12_readsRule_170 rfl ?_
            refine z_icmp_eq (tgt := 180) hx hb (by omega) (by omega) dX12_readsRule_171 (by decide) (fun c741 => False.elim (by omega)) (fun c741 => ?_)
            refine lv_iload_n hx hb dX12_readsRule_174 rfl (lv_at hl 0 rfl) ?_
            refine lv_bipush (v := zI 8) hx hb dX12_readsRule_175 (by decide) ?_
            refine z_icmp_ne (tgt := 194) hx hb (by omega) (by omega) dX12_readsRule_177 (by decide) (fun c742 => ?_) (fun c742 => False.elim (by omega))
            refine lv_iload_n hx hb dX12_readsRule_194 rfl (lv_at hl 0 rfl) ?_
            refine lv_iconst (v := zI 1) hx hb dX12_readsRule_195 rfl ?_
            refine z_icmp_ne (tgt := 209) hx hb (by omega) (by omega) dX12_readsRule_196 (by decide) (fun c743 => False.elim (by omega)) (fun c743 => ?_)
            refine lv_aload_n hx hb dX12_readsRule_199 rfl (lv_at hl 1 rfl) ?_
            refine f_12_17 F w (a := 146) rfl tb_676 dX12_readsRule_200 ?_
            refine lv_iconst (v := zI 3) hx hb dX12_readsRule_203 rfl ?_
            refine lv_aload_n hx hb dX12_readsRule_204 rfl (lv_at hl 1 rfl) ?_
            refine k_Vi F w (As := []) (rest := [.int (zI 3), .ref (B + 153)]) (a := 146) (kd_lt (a := 146) (show kd 146 = (12, 0, 0) from rfl) (by decide)) (sh_12 rfl _ _) rfl (q_X12_needsNumber (tk := nz7370) ((st_ne (Or.inl (by decide))).trans enz7370) ⟨by omega, by omega⟩ (nb := nz7371) ((st_ne (Or.inl (by decide))).trans enz7371) ⟨by omega, by omega⟩ (by omega) (IvR.to hIN736 (a := 153) (k := 4) (x := z737) (show ivr 153 4 = ((-99), 300) from rfl) ⟨by omega, by omega⟩ ⟨by decide, by decide, by decide, fun q9 => absurd q9 (by decide)⟩)) gv_X12_230 hv_X12_needsNumber ⟨(Nat.le_of_ble_eq_true rfl), (Nat.le_of_ble_eq_true rfl)⟩ hl.1 rfl (Nat.le_of_ble_eq_true rfl) ⟨Nat.zero_le _, Nat.zero_le _⟩ dX12_readsRule_205 (fun r744 N745 H locs hp w => ?_)
            obtain ⟨z746, rfl, bz746, ⟨nz7460, nz7461, enz7460, enz7461, xz746⟩, hIN745, hFN745⟩ := hp
            have hGN745 := Fr.tr (Fr.to hGN736 (by first | decide | (dsimp only; first | done | decide | omega) | omega)) hFN745 (S := (fun b9 k9 => (b9 = 146 ∧ k9 = 11) ∨ (b9 = 146 ∧ k9 = 13) ∨ (b9 = 146 ∧ k9 = 14) ∨ (b9 = 146 ∧ k9 = 15) ∨ (b9 = 146 ∧ k9 = 16) ∨ (b9 = 146 ∧ k9 = 9) ∨ b9 = 153)) (fun b k h => by (try dsimp only at h ⊢); rcases h with ⟨rfl, rfl⟩ | ⟨rfl, rfl⟩ | ⟨rfl, rfl⟩ | ⟨rfl, rfl⟩ | ⟨rfl, rfl⟩ | ⟨rfl, rfl⟩ <;> first | decide | omega)
            have kn747 : N745.1 153 1 = zI 1 := (hFN745 153 1 (by first | decide | (dsimp only; first | done | decide | omega) | omega)).trans ((st_ne (Or.inr (by decide))).trans kn738)
            have kn748 : N745.1 153 0 = zI 1 := (hFN745 153 0 (by first | decide | (dsimp only; first | done | decide | omega) | omega)).trans ((st_ne (Or.inr (by decide))).trans kn739)
            have kn749 : N745.1 153 2 = zI z727 := (hFN745 153 2 (by first | decide | (dsimp only; first | done | decide | omega) | omega)).trans ((st_ne (Or.inr (by decide))).trans kn740)
            have kn750 : N745.1 153 4 = zI z737 := (hFN745 153 4 (by first | decide | (dsimp only; first | done | decide | omega) | omega)).trans (st_at)
            refine g_iast F w (a := 153) rfl (j := 3) ⟨by decide, by decide⟩ (by omega) dX12_readsRule_208 (fun H locs w => ?_)
            refine lv_aload_n hx hb dX12_readsRule_209 rfl (lv_at hl 1 rfl) ?_
            refine f_12_16 F w (a := 146) rfl tb_669 dX12_readsRule_210 ?_
            obtain ⟨z751, bz751, ez751⟩ := IvR.ld (k := 16) (IvR.to hIN745 (a := 153) (k := 3) (x := z746) (show ivr 153 3 = ((-99), 300) from rfl) ⟨by omega, by omega⟩ ⟨by decide, by decide, by decide, fun q9 => absurd q9 (by decide)⟩) (show ivr 146 16 = (0, 1) from rfl) (show 146 ≤ 146 ∧ 146 < 159 by decide)
            refine r_val ez751 ?_
            refine z_if_ne (tgt := 236) hx hb (by omega) dX12_readsRule_213 (by decide) (fun c752 => ?_) (fun c752 => ?_)
            · refine lv_aload_n hx hb dX12_readsRule_236 rfl (lv_at hl 1 rfl) ?_
              refine f_12_16 F w (a := 146) rfl tb_669 dX12_readsRule_237 ?_
              obtain ⟨z753, bz753, ez753⟩ := IvR.ld (k := 16) (IvR.to hIN745 (a := 153) (k := 3) (x := z746) (show ivr 153 3 = ((-99), 300) from rfl) ⟨by omega, by omega⟩ ⟨by decide, by decide, by decide, fun q9 => absurd q9 (by decide)⟩) (show ivr 146 16 = (0, 1) from rfl) (show 146 ≤ 146 ∧ 146 < 159 by decide)
              refine r_val ez753 ?_
              refine z_if_eq (tgt := 244) hx hb (by omega) dX12_readsRule_240 (by decide) (fun c754 => ?_) (fun c754 => ?_)
              · refine lv_aload_n hx hb dX12_readsRule_244 rfl (lv_at hl 1 rfl) ?_
                refine f_12_13 F w (a := 146) rfl tb_602 dX12_readsRule_245 ?_
                refine r_val (v := zI nz7460) ((st_ne (Or.inl (by decide))).trans enz7460) ?_
                refine lv_iconst (v := zI 3) hx hb dX12_readsRule_248 rfl ?_
                refine z_icmp_ne (tgt := 259) hx hb (by omega) (by omega) dX12_readsRule_249 (by decide) (fun c755 => ?_) (fun c755 => ?_)
                · refine lv_aload_n hx hb dX12_readsRule_259 rfl (lv_at hl 1 rfl) ?_
                  refine lv_iconst (v := zI 1) hx hb dX12_readsRule_260 rfl ?_
                  refine u_12_16 F w (a := 146) rfl (nar_z (by omega)) (fit_z (by omega)) tb_669 dX12_readsRule_261 (fun H locs w => ?_)
                  rw [hQ]
                  exact e_v F w hr hlocks ⟨⟨nz7460, nz7461, 1, ((st_ne (Or.inr (by decide))).trans ((st_ne (Or.inl (by decide))).trans enz7460)), ((st_ne (Or.inr (by decide))).trans ((st_ne (Or.inl (by decide))).trans enz7461)), (st_at), ⟨by omega, by omega⟩, ⟨by omega, by omega⟩, ⟨by omega, by omega⟩, (by omega)⟩, (fun h8 => by have h9 := (zI_eq (a := 1) (b := 8) (by constructor <;> omega) (by constructor <;> omega)).mp (((st_ne (Or.inl (by decide))).trans ((st_ne (Or.inr (by decide))).trans kn748)).symm.trans h8); exact ⟨z746, by omega, by omega, (st_ne (Or.inl (by decide))).trans st_at⟩), (IvR.to (IvR.to hIN745 (a := 153) (k := 3) (x := z746) (show ivr 153 3 = ((-99), 300) from rfl) ⟨by omega, by omega⟩ ⟨by decide, by decide, by decide, fun q9 => absurd q9 (by decide)⟩) (a := 146) (k := 16) (x := 1) (show ivr 146 16 = (0, 1) from rfl) ⟨by omega, by omega⟩ ⟨by decide, by decide, by decide, fun q9 => absurd q9 (by decide)⟩), (Fr.to (Fr.to hGN745 (by first | decide | (dsimp only; first | done | decide | omega) | omega)) (by first | decide | (dsimp only; first | done | decide | omega) | omega))⟩ dX12_readsRule_264
                · refine lv_aload_n hx hb dX12_readsRule_252 rfl (lv_at hl 1 rfl) ?_
                  refine k_Vv F w (As := []) (rest := []) (a := 146) (kd_lt (a := 146) (show kd 146 = (12, 0, 0) from rfl) (by decide)) (sh_12 rfl _ _) rfl (q_X12_goesOn   (IvR.to hIN745 (a := 153) (k := 3) (x := z746) (show ivr 153 3 = ((-99), 300) from rfl) ⟨by omega, by omega⟩ ⟨by decide, by decide, by decide, fun q9 => absurd q9 (by decide)⟩)) gv_X12_221 hv_X12_goesOn ⟨(Nat.le_of_ble_eq_true rfl), (Nat.le_of_ble_eq_true rfl)⟩ hl.1 rfl (Nat.le_of_ble_eq_true rfl) ⟨Nat.zero_le _, Nat.zero_le _⟩ dX12_readsRule_253 (fun N757 H locs hp w => ?_)
                  obtain ⟨⟨nz7580, nz7581, enz7580, enz7581, xz758⟩, hIN757, hFN757⟩ := hp
                  have hGN757 := Fr.tr (Fr.to hGN745 (by first | decide | (dsimp only; first | done | decide | omega) | omega)) hFN757 (S := (fun b9 k9 => (b9 = 146 ∧ k9 = 11) ∨ (b9 = 146 ∧ k9 = 13) ∨ (b9 = 146 ∧ k9 = 14) ∨ (b9 = 146 ∧ k9 = 15) ∨ (b9 = 146 ∧ k9 = 16) ∨ (b9 = 146 ∧ k9 = 9) ∨ b9 = 153)) (fun b k h => by (try dsimp only at h ⊢); rcases h with ⟨rfl, rfl⟩ | ⟨rfl, rfl⟩ | ⟨rfl, rfl⟩ | ⟨rfl, rfl⟩ | ⟨rfl, rfl⟩ <;> first | decide | omega)
                  have kn759 : N757.1 153 1 = zI 1 := (hFN757 153 1 (by first | decide | (dsimp only; first | done | decide | omega) | omega)).trans ((st_ne (Or.inr (by decide))).trans kn747)
                  have kn760 : N757.1 153 0 = zI 1 := (hFN757 153 0 (by first | decide | (dsimp only; first | done | decide | omega) | omega)).trans ((st_ne (Or.inr (by decide))).trans kn748)
                  have kn761 : N757.1 153 2 = zI z727 := (hFN757 153 2 (by first | decide | (dsimp only; first | done | decide | omega) | omega)).trans ((st_ne (Or.inr (by decide))).trans kn749)
                  have kn762 : N757.1 153 4 = zI z737 := (hFN757 153 4 (by first | decide | (dsimp only; first | done | decide | omega) | omega)).trans ((st_ne (Or.inr (by decide))).trans kn750)
                  have kn763 : N757.1 153 3 = zI z746 := (hFN757 153 3 (by first | decide | (dsimp only; first | done | decide | omega) | omega)).trans (st_at)
                  refine lv_goto (tgt := 264) hx hb dX12_readsRule_256 (by decide) ?_
                  obtain ⟨z764, bz764, ez764⟩ := IvR.ld (k := 16) hIN757 (show ivr 146 16 = (0, 1) from rfl) (show 146 ≤ 146 ∧ 146 < 159 by decide)
                  rw [hQ]
                  exact e_v F w hr hlocks ⟨⟨nz7580, nz7581, z764, (enz7580), (enz7581), (ez764), ⟨by omega, by omega⟩, ⟨by omega, by omega⟩, ⟨by omega, by omega⟩, (by omega)⟩, (fun h8 => by have h9 := (zI_eq (a := 1) (b := 8) (by constructor <;> omega) (by constructor <;> omega)).mp ((kn760).symm.trans h8); exact ⟨z746, by omega, by omega, kn763⟩), hIN757, hGN757⟩ dX12_readsRule_264
              · obtain ⟨z765, bz765, ez765⟩ := IvR.ld (k := 16) (IvR.to hIN745 (a := 153) (k := 3) (x := z746) (show ivr 153 3 = ((-99), 300) from rfl) ⟨by omega, by omega⟩ ⟨by decide, by decide, by decide, fun q9 => absurd q9 (by decide)⟩) (show ivr 146 16 = (0, 1) from rfl) (show 146 ≤ 146 ∧ 146 < 159 by decide)
                rw [hQ]
                exact e_v F w hr hlocks ⟨⟨nz7460, nz7461, z765, ((st_ne (Or.inl (by decide))).trans enz7460), ((st_ne (Or.inl (by decide))).trans enz7461), (ez765), ⟨by omega, by omega⟩, ⟨by omega, by omega⟩, ⟨by omega, by omega⟩, (by omega)⟩, (fun h8 => by have h9 := (zI_eq (a := 1) (b := 8) (by constructor <;> omega) (by constructor <;> omega)).mp (((st_ne (Or.inr (by decide))).trans kn748).symm.trans h8); exact ⟨z746, by omega, by omega, st_at⟩), (IvR.to hIN745 (a := 153) (k := 3) (x := z746) (show ivr 153 3 = ((-99), 300) from rfl) ⟨by omega, by omega⟩ ⟨by decide, by decide, by decide, fun q9 => absurd q9 (by decide)⟩), (Fr.to hGN745 (by first | decide | (dsimp only; first | done | decide | omega) | omega))⟩ dX12_readsRule_243
            · refine lv_iload_n hx hb dX12_readsRule_216 rfl (lv_at hl 0 rfl) ?_
              refine k_Si F w (As := [.int (zI 1)]) (rest := []) (q_X12_isBySyllables (x := 1) ⟨by omega, by omega⟩  (IvR.to hIN745 (a := 153) (k := 3) (x := z746) (show ivr 153 3 = ((-99), 300) from rfl) ⟨by omega, by omega⟩ ⟨by decide, by decide, by decide, fun q9 => absurd q9 (by decide)⟩)) gs_X12_140 hs_X12_isBySyllables ⟨(Nat.le_of_ble_eq_true rfl), (Nat.le_of_ble_eq_true rfl)⟩ hl.1 rfl (Nat.le_of_ble_eq_true rfl) ⟨Nat.zero_le _, Nat.zero_le _⟩ dX12_readsRule_217 (fun r766 N767 H locs hp w => ?_)
              obtain ⟨z768, rfl, bz768, xz768, hMN767⟩ := hp
              rw [hMN767] at w
              refine z_if_ne (tgt := 236) hx hb (by omega) dX12_readsRule_220 (by decide) (fun c769 => False.elim (by omega)) (fun c769 => ?_)
              refine lv_aload_n hx hb dX12_readsRule_223 rfl (lv_at hl 1 rfl) ?_
              refine lv_bipush (v := zI 20) hx hb dX12_readsRule_224 (by decide) ?_
              refine k_Vi F w (As := [.int (zI 20)]) (rest := []) (a := 146) (kd_lt (a := 146) (show kd 146 = (12, 0, 0) from rfl) (by decide)) (sh_12 rfl _ _) rfl (q_X12_isWord (x := 20) ⟨by omega, by omega⟩  (IvR.to hIN745 (a := 153) (k := 3) (x := z746) (show ivr 153 3 = ((-99), 300) from rfl) ⟨by omega, by omega⟩ ⟨by decide, by decide, by decide, fun q9 => absurd q9 (by decide)⟩)) gv_X12_224 hv_X12_isWord ⟨(Nat.le_of_ble_eq_true rfl), (Nat.le_of_ble_eq_true rfl)⟩ hl.1 rfl (Nat.le_of_ble_eq_true rfl) ⟨Nat.zero_le _, Nat.zero_le _⟩ dX12_readsRule_226 (fun r770 N771 H locs hp w => ?_)
              obtain ⟨z772, rfl, bz772, hMN771⟩ := hp
              rw [hMN771] at w
              refine z_if_eq (tgt := 236) hx hb (by omega) dX12_readsRule_229 (by decide) (fun c773 => ?_) (fun c773 => ?_)
              · refine lv_aload_n hx hb dX12_readsRule_236 rfl (lv_at hl 1 rfl) ?_
                refine f_12_16 F w (a := 146) rfl tb_669 dX12_readsRule_237 ?_
                obtain ⟨z774, bz774, ez774⟩ := IvR.ld (k := 16) (IvR.to hIN745 (a := 153) (k := 3) (x := z746) (show ivr 153 3 = ((-99), 300) from rfl) ⟨by omega, by omega⟩ ⟨by decide, by decide, by decide, fun q9 => absurd q9 (by decide)⟩) (show ivr 146 16 = (0, 1) from rfl) (show 146 ≤ 146 ∧ 146 < 159 by decide)
                refine r_val ez774 ?_
                refine z_if_eq (tgt := 244) hx hb (by omega) dX12_readsRule_240 (by decide) (fun c775 => ?_) (fun c775 => ?_)
                · refine lv_aload_n hx hb dX12_readsRule_244 rfl (lv_at hl 1 rfl) ?_
                  refine f_12_13 F w (a := 146) rfl tb_602 dX12_readsRule_245 ?_
                  refine r_val (v := zI nz7460) ((st_ne (Or.inl (by decide))).trans enz7460) ?_
                  refine lv_iconst (v := zI 3) hx hb dX12_readsRule_248 rfl ?_
                  refine z_icmp_ne (tgt := 259) hx hb (by omega) (by omega) dX12_readsRule_249 (by decide) (fun c776 => ?_) (fun c776 => ?_)
                  · refine lv_aload_n hx hb dX12_readsRule_259 rfl (lv_at hl 1 rfl) ?_
                    refine lv_iconst (v := zI 1) hx hb dX12_readsRule_260 rfl ?_
                    refine u_12_16 F w (a := 146) rfl (nar_z (by omega)) (fit_z (by omega)) tb_669 dX12_readsRule_261 (fun H locs w => ?_)
                    rw [hQ]
                    exact e_v F w hr hlocks ⟨⟨nz7460, nz7461, 1, ((st_ne (Or.inr (by decide))).trans ((st_ne (Or.inl (by decide))).trans enz7460)), ((st_ne (Or.inr (by decide))).trans ((st_ne (Or.inl (by decide))).trans enz7461)), (st_at), ⟨by omega, by omega⟩, ⟨by omega, by omega⟩, ⟨by omega, by omega⟩, (by omega)⟩, (fun h8 => by have h9 := (zI_eq (a := 1) (b := 8) (by constructor <;> omega) (by constructor <;> omega)).mp (((st_ne (Or.inl (by decide))).trans ((st_ne (Or.inr (by decide))).trans kn748)).symm.trans h8); exact ⟨z746, by omega, by omega, (st_ne (Or.inl (by decide))).trans st_at⟩), (IvR.to (IvR.to hIN745 (a := 153) (k := 3) (x := z746) (show ivr 153 3 = ((-99), 300) from rfl) ⟨by omega, by omega⟩ ⟨by decide, by decide, by decide, fun q9 => absurd q9 (by decide)⟩) (a := 146) (k := 16) (x := 1) (show ivr 146 16 = (0, 1) from rfl) ⟨by omega, by omega⟩ ⟨by decide, by decide, by decide, fun q9 => absurd q9 (by decide)⟩), (Fr.to (Fr.to hGN745 (by first | decide | (dsimp only; first | done | decide | omega) | omega)) (by first | decide | (dsimp only; first | done | decide | omega) | omega))⟩ dX12_readsRule_264
                  · refine lv_aload_n hx hb dX12_readsRule_252 rfl (lv_at hl 1 rfl) ?_
                    refine k_Vv F w (As := []) (rest := []) (a := 146) (kd_lt (a := 146) (show kd 146 = (12, 0, 0) from rfl) (by decide)) (sh_12 rfl _ _) rfl (q_X12_goesOn   (IvR.to hIN745 (a := 153) (k := 3) (x := z746) (show ivr 153 3 = ((-99), 300) from rfl) ⟨by omega, by omega⟩ ⟨by decide, by decide, by decide, fun q9 => absurd q9 (by decide)⟩)) gv_X12_221 hv_X12_goesOn ⟨(Nat.le_of_ble_eq_true rfl), (Nat.le_of_ble_eq_true rfl)⟩ hl.1 rfl (Nat.le_of_ble_eq_true rfl) ⟨Nat.zero_le _, Nat.zero_le _⟩ dX12_readsRule_253 (fun N778 H locs hp w => ?_)
                    obtain ⟨⟨nz7790, nz7791, enz7790, enz7791, xz779⟩, hIN778, hFN778⟩ := hp
                    have hGN778 := Fr.tr (Fr.to hGN745 (by first | decide | (dsimp only; first | done | decide | omega) | omega)) hFN778 (S := (fun b9 k9 => (b9 = 146 ∧ k9 = 11) ∨ (b9 = 146 ∧ k9 = 13) ∨ (b9 = 146 ∧ k9 = 14) ∨ (b9 = 146 ∧ k9 = 15) ∨ (b9 = 146 ∧ k9 = 16) ∨ (b9 = 146 ∧ k9 = 9) ∨ b9 = 153)) (fun b k h => by (try dsimp only at h ⊢); rcases h with ⟨rfl, rfl⟩ | ⟨rfl, rfl⟩ | ⟨rfl, rfl⟩ | ⟨rfl, rfl⟩ | ⟨rfl, rfl⟩ <;> first | decide | omega)
                    have kn780 : N778.1 153 1 = zI 1 := (hFN778 153 1 (by first | decide | (dsimp only; first | done | decide | omega) | omega)).trans ((st_ne (Or.inr (by decide))).trans kn747)
                    have kn781 : N778.1 153 0 = zI 1 := (hFN778 153 0 (by first | decide | (dsimp only; first | done | decide | omega) | omega)).trans ((st_ne (Or.inr (by decide))).trans kn748)
                    have kn782 : N778.1 153 2 = zI z727 := (hFN778 153 2 (by first | decide | (dsimp only; first | done | decide | omega) | omega)).trans ((st_ne (Or.inr (by decide))).trans kn749)
                    have kn783 : N778.1 153 4 = zI z737 := (hFN778 153 4 (by first | decide | (dsimp only; first | done | decide | omega) | omega)).trans ((st_ne (Or.inr (by decide))).trans kn750)
                    have kn784 : N778.1 153 3 = zI z746 := (hFN778 153 3 (by first | decide | (dsimp only; first | done | decide | omega) | omega)).trans (st_at)
                    refine lv_goto (tgt := 264) hx hb dX12_readsRule_256 (by decide) ?_
                    obtain ⟨z785, bz785, ez785⟩ := IvR.ld (k := 16) hIN778 (show ivr 146 16 = (0, 1) from rfl) (show 146 ≤ 146 ∧ 146 < 159 by decide)
                    rw [hQ]
                    exact e_v F w hr hlocks ⟨⟨nz7790, nz7791, z785, (enz7790), (enz7791), (ez785), ⟨by omega, by omega⟩, ⟨by omega, by omega⟩, ⟨by omega, by omega⟩, (by omega)⟩, (fun h8 => by have h9 := (zI_eq (a := 1) (b := 8) (by constructor <;> omega) (by constructor <;> omega)).mp ((kn781).symm.trans h8); exact ⟨z746, by omega, by omega, kn784⟩), hIN778, hGN778⟩ dX12_readsRule_264
                · obtain ⟨z786, bz786, ez786⟩ := IvR.ld (k := 16) (IvR.to hIN745 (a := 153) (k := 3) (x := z746) (show ivr 153 3 = ((-99), 300) from rfl) ⟨by omega, by omega⟩ ⟨by decide, by decide, by decide, fun q9 => absurd q9 (by decide)⟩) (show ivr 146 16 = (0, 1) from rfl) (show 146 ≤ 146 ∧ 146 < 159 by decide)
                  rw [hQ]
                  exact e_v F w hr hlocks ⟨⟨nz7460, nz7461, z786, ((st_ne (Or.inl (by decide))).trans enz7460), ((st_ne (Or.inl (by decide))).trans enz7461), (ez786), ⟨by omega, by omega⟩, ⟨by omega, by omega⟩, ⟨by omega, by omega⟩, (by omega)⟩, (fun h8 => by have h9 := (zI_eq (a := 1) (b := 8) (by constructor <;> omega) (by constructor <;> omega)).mp (((st_ne (Or.inr (by decide))).trans kn748).symm.trans h8); exact ⟨z746, by omega, by omega, st_at⟩), (IvR.to hIN745 (a := 153) (k := 3) (x := z746) (show ivr 153 3 = ((-99), 300) from rfl) ⟨by omega, by omega⟩ ⟨by decide, by decide, by decide, fun q9 => absurd q9 (by decide)⟩), (Fr.to hGN745 (by first | decide | (dsimp only; first | done | decide | omega) | omega))⟩ dX12_readsRule_243
              · refine lv_aload_n hx hb dX12_readsRule_232 rfl (lv_at hl 1 rfl) ?_
                refine k_Vv F w (As := []) (rest := []) (a := 146) (kd_lt (a := 146) (show kd 146 = (12, 0, 0) from rfl) (by decide)) (sh_12 rfl _ _) rfl (q_X12_readsTest   (IvR.to hIN745 (a := 153) (k := 3) (x := z746) (show ivr 153 3 = ((-99), 300) from rfl) ⟨by omega, by omega⟩ ⟨by decide, by decide, by decide, fun q9 => absurd q9 (by decide)⟩)) gv_X12_233 hv_X12_readsTest ⟨(Nat.le_of_ble_eq_true rfl), (Nat.le_of_ble_eq_true rfl)⟩ hl.1 rfl (Nat.le_of_ble_eq_true rfl) ⟨Nat.zero_le _, Nat.zero_le _⟩ dX12_readsRule_233 (fun N788 H locs hp w => ?_)
                obtain ⟨⟨nz7890, nz7891, enz7890, enz7891, xz789⟩, hIN788, hFN788⟩ := hp
                have hGN788 := Fr.tr (Fr.to hGN745 (by first | decide | (dsimp only; first | done | decide | omega) | omega)) hFN788 (S := (fun b9 k9 => (b9 = 146 ∧ k9 = 11) ∨ (b9 = 146 ∧ k9 = 13) ∨ (b9 = 146 ∧ k9 = 14) ∨ (b9 = 146 ∧ k9 = 15) ∨ (b9 = 146 ∧ k9 = 16) ∨ (b9 = 146 ∧ k9 = 9) ∨ b9 = 153)) (fun b k h => by (try dsimp only at h ⊢); rcases h with ⟨rfl, rfl⟩ | ⟨rfl, rfl⟩ | ⟨rfl, rfl⟩ | ⟨rfl, rfl⟩ | ⟨rfl, rfl⟩ | ⟨rfl, rfl⟩ | ⟨rfl, q1, q2⟩ | ⟨rfl, q1, q2⟩ | ⟨rfl, q1, q2⟩ <;> first | decide | omega)
                have kn790 : N788.1 153 1 = zI 1 := (hFN788 153 1 (by first | decide | (dsimp only; first | done | decide | omega) | omega)).trans ((st_ne (Or.inr (by decide))).trans kn747)
                have kn791 : N788.1 153 0 = zI 1 := (hFN788 153 0 (by first | decide | (dsimp only; first | done | decide | omega) | omega)).trans ((st_ne (Or.inr (by decide))).trans kn748)
                have kn792 : N788.1 153 2 = zI z727 := (hFN788 153 2 (by first | decide | (dsimp only; first | done | decide | omega) | omega)).trans ((st_ne (Or.inr (by decide))).trans kn749)
                have kn793 : N788.1 153 4 = zI z737 := (hFN788 153 4 (by first | decide | (dsimp only; first | done | decide | omega) | omega)).trans ((st_ne (Or.inr (by decide))).trans kn750)
                have kn794 : N788.1 153 3 = zI z746 := (hFN788 153 3 (by first | decide | (dsimp only; first | done | decide | omega) | omega)).trans (st_at)
                refine lv_aload_n hx hb dX12_readsRule_236 rfl (lv_at hl 1 rfl) ?_
                refine f_12_16 F w (a := 146) rfl tb_669 dX12_readsRule_237 ?_
                obtain ⟨z795, bz795, ez795⟩ := IvR.ld (k := 16) hIN788 (show ivr 146 16 = (0, 1) from rfl) (show 146 ≤ 146 ∧ 146 < 159 by decide)
                refine r_val ez795 ?_
                refine z_if_eq (tgt := 244) hx hb (by omega) dX12_readsRule_240 (by decide) (fun c796 => ?_) (fun c796 => ?_)
                · refine lv_aload_n hx hb dX12_readsRule_244 rfl (lv_at hl 1 rfl) ?_
                  refine f_12_13 F w (a := 146) rfl tb_602 dX12_readsRule_245 ?_
                  refine r_val (v := zI nz7890) (enz7890) ?_
                  refine lv_iconst (v := zI 3) hx hb dX12_readsRule_248 rfl ?_
                  refine z_icmp_ne (tgt := 259) hx hb (by omega) (by omega) dX12_readsRule_249 (by decide) (fun c797 => ?_) (fun c797 => ?_)
                  · refine lv_aload_n hx hb dX12_readsRule_259 rfl (lv_at hl 1 rfl) ?_
                    refine lv_iconst (v := zI 1) hx hb dX12_readsRule_260 rfl ?_
                    refine u_12_16 F w (a := 146) rfl (nar_z (by omega)) (fit_z (by omega)) tb_669 dX12_readsRule_261 (fun H locs w => ?_)
                    rw [hQ]
                    exact e_v F w hr hlocks ⟨⟨nz7890, nz7891, 1, ((st_ne (Or.inr (by decide))).trans enz7890), ((st_ne (Or.inr (by decide))).trans enz7891), (st_at), ⟨by omega, by omega⟩, ⟨by omega, by omega⟩, ⟨by omega, by omega⟩, (by omega)⟩, (fun h8 => by have h9 := (zI_eq (a := 1) (b := 8) (by constructor <;> omega) (by constructor <;> omega)).mp (((st_ne (Or.inl (by decide))).trans kn791).symm.trans h8); exact ⟨z746, by omega, by omega, (st_ne (Or.inl (by decide))).trans kn794⟩), (IvR.to hIN788 (a := 146) (k := 16) (x := 1) (show ivr 146 16 = (0, 1) from rfl) ⟨by omega, by omega⟩ ⟨by decide, by decide, by decide, fun q9 => absurd q9 (by decide)⟩), (Fr.to hGN788 (by first | decide | (dsimp only; first | done | decide | omega) | omega))⟩ dX12_readsRule_264
                  · refine lv_aload_n hx hb dX12_readsRule_252 rfl (lv_at hl 1 rfl) ?_
                    refine k_Vv F w (As := []) (rest := []) (a := 146) (kd_lt (a := 146) (show kd 146 = (12, 0, 0) from rfl) (by decide)) (sh_12 rfl _ _) rfl (q_X12_goesOn   hIN788) gv_X12_221 hv_X12_goesOn ⟨(Nat.le_of_ble_eq_true rfl), (Nat.le_of_ble_eq_true rfl)⟩ hl.1 rfl (Nat.le_of_ble_eq_true rfl) ⟨Nat.zero_le _, Nat.zero_le _⟩ dX12_readsRule_253 (fun N799 H locs hp w => ?_)
                    obtain ⟨⟨nz8000, nz8001, enz8000, enz8001, xz800⟩, hIN799, hFN799⟩ := hp
                    have hGN799 := Fr.tr hGN788 hFN799 (S := (fun b9 k9 => (b9 = 146 ∧ k9 = 11) ∨ (b9 = 146 ∧ k9 = 13) ∨ (b9 = 146 ∧ k9 = 14) ∨ (b9 = 146 ∧ k9 = 15) ∨ (b9 = 146 ∧ k9 = 16) ∨ (b9 = 146 ∧ k9 = 9) ∨ b9 = 153)) (fun b k h => by (try dsimp only at h ⊢); rcases h with ⟨rfl, rfl⟩ | ⟨rfl, rfl⟩ | ⟨rfl, rfl⟩ | ⟨rfl, rfl⟩ | ⟨rfl, rfl⟩ <;> first | decide | omega)
                    have kn801 : N799.1 153 1 = zI 1 := (hFN799 153 1 (by first | decide | (dsimp only; first | done | decide | omega) | omega)).trans (kn790)
                    have kn802 : N799.1 153 0 = zI 1 := (hFN799 153 0 (by first | decide | (dsimp only; first | done | decide | omega) | omega)).trans (kn791)
                    have kn803 : N799.1 153 2 = zI z727 := (hFN799 153 2 (by first | decide | (dsimp only; first | done | decide | omega) | omega)).trans (kn792)
                    have kn804 : N799.1 153 4 = zI z737 := (hFN799 153 4 (by first | decide | (dsimp only; first | done | decide | omega) | omega)).trans (kn793)
                    have kn805 : N799.1 153 3 = zI z746 := (hFN799 153 3 (by first | decide | (dsimp only; first | done | decide | omega) | omega)).trans (kn794)
                    have kn806 : N799.1 146 16 = zI z795 := (hFN799 146 16 (by first | decide | (dsimp only; first | done | decide | omega) | omega)).trans (ez795)
                    refine lv_goto (tgt := 264) hx hb dX12_readsRule_256 (by decide) ?_
                    rw [hQ]
                    exact e_v F w hr hlocks ⟨⟨nz8000, nz8001, z795, (enz8000), (enz8001), (kn806), ⟨by omega, by omega⟩, ⟨by omega, by omega⟩, ⟨by omega, by omega⟩, (by omega)⟩, (fun h8 => by have h9 := (zI_eq (a := 1) (b := 8) (by constructor <;> omega) (by constructor <;> omega)).mp ((kn802).symm.trans h8); exact ⟨z746, by omega, by omega, kn805⟩), hIN799, hGN799⟩ dX12_readsRule_264
                · rw [hQ]
                  exact e_v F w hr hlocks ⟨⟨nz7890, nz7891, z795, (enz7890), (enz7891), (ez795), ⟨by omega, by omega⟩, ⟨by omega, by omega⟩, ⟨by omega, by omega⟩, (by omega)⟩, (fun h8 => by have h9 := (zI_eq (a := 1) (b := 8) (by constructor <;> omega) (by constructor <;> omega)).mp ((kn791).symm.trans h8); exact ⟨z746, by omega, by omega, kn794⟩), hIN788, hGN788⟩ dX12_readsRule_243
          · refine lv_istore_n (lv' := [(1, .int (zI 2)), (0, .ref (B + 146))]) hx hb dX12_readsRule_63 rfl hl (by decide) rfl (fun ls hl => ?_)
            refine lv_aload_n hx hb dX12_readsRule_64 rfl (lv_at hl 1 rfl) ?_
            refine f_12_17 F w (a := 146) rfl tb_676 dX12_readsRule_65 ?_
            refine lv_iconst (v := zI 0) hx hb dX12_readsRule_68 rfl ?_
            refine lv_iload_n hx hb dX12_readsRule_69 rfl (lv_at hl 0 rfl) ?_
            refine g_iast F w (a := 153) rfl (j := 0) ⟨by decide, by decide⟩ (by omega) dX12_readsRule_70 (fun H locs w => ?_)
            refine lv_iload_n hx hb dX12_readsRule_71 rfl (lv_at hl 0 rfl) ?_
            refine lv_bipush (v := zI 8) hx hb dX12_readsRule_72 (by decide) ?_
            refine z_icmp_ne (tgt := 90) hx hb (by omega) (by omega) dX12_readsRule_74 (by decide) (fun c807 => ?_) (fun c807 => False.elim (by omega))
            refine lv_iload_n hx hb dX12_readsRule_90 rfl (lv_at hl 0 rfl) ?_
            refine z_if_eq (tgt := 119) hx hb (by omega) dX12_readsRule_91 (by decide) (fun c808 => False.elim (by omega)) (fun c808 => ?_)
            refine lv_aload_n hx hb dX12_readsRule_94 rfl (lv_at hl 1 rfl) ?_
            refine f_12_17 F w (a := 146) rfl tb_676 dX12_readsRule_95 ?_
            refine lv_iconst (v := zI 2) hx hb dX12_readsRule_98 rfl ?_
            refine lv_aload_n hx hb dX12_readsRule_99 rfl (lv_at hl 1 rfl) ?_
            refine lv_bipush (v := zI 11) hx hb dX12_readsRule_100 (by decide) ?_
            refine lv_iload_n hx hb dX12_readsRule_102 rfl (lv_at hl 0 rfl) ?_
            refine lv_bipush (v := zI 9) hx hb dX12_readsRule_103 (by decide) ?_
            refine z_icmp_ne (tgt := 113) hx hb (by omega) (by omega) dX12_readsRule_105 (by decide) (fun c809 => ?_) (fun c809 => False.elim (by omega))
            refine lv_bipush (v := zI 14) hx hb dX12_readsRule_113 (by decide) ?_
            refine k_Vi F w (As := [.int (zI 11), .int (zI 14)]) (rest := [.int (zI 2), .ref (B + 153)]) (a := 146) (kd_lt (a := 146) (show kd 146 = (12, 0, 0) from rfl) (by decide)) (sh_12 rfl _ _) rfl (q_X12_needs (x := 11) ⟨by omega, by omega⟩ (x1 := 14) ⟨by omega, by omega⟩ (tk := nz6710) ((st_ne (Or.inl (by decide))).trans enz6710) ⟨by omega, by omega⟩ (nb := nz6711) ((st_ne (Or.inl (by decide))).trans enz6711) ⟨by omega, by omega⟩ (by omega) (IvR.to hIN670 (a := 153) (k := 0) (x := 2) (show ivr 153 0 = ((-99), 300) from rfl) ⟨by omega, by omega⟩ ⟨by decide, by decide, by decide, fun q9 => absurd q9 (by decide)⟩)) gv_X12_227 hv_X12_needs ⟨(Nat.le_of_ble_eq_true rfl), (Nat.le_of_ble_eq_true rfl)⟩ hl.1 rfl (Nat.le_of_ble_eq_true rfl) ⟨Nat.zero_le _, Nat.zero_le _⟩ dX12_readsRule_115 (fun r810 N811 H locs hp w => ?_)
            obtain ⟨z812, rfl, bz812, ⟨nz8120, nz8121, enz8120, enz8121, xz812⟩, hIN811, hFN811⟩ := hp
            have hGN811 := Fr.tr (Fr.to hGN670 (by first | decide | (dsimp only; first | done | decide | omega) | omega)) hFN811 (S := (fun b9 k9 => (b9 = 146 ∧ k9 = 11) ∨ (b9 = 146 ∧ k9 = 13) ∨ (b9 = 146 ∧ k9 = 14) ∨ (b9 = 146 ∧ k9 = 15) ∨ (b9 = 146 ∧ k9 = 16) ∨ (b9 = 146 ∧ k9 = 9) ∨ b9 = 153)) (fun b k h => by (try dsimp only at h ⊢); rcases h with ⟨rfl, rfl⟩ | ⟨rfl, rfl⟩ | ⟨rfl, rfl⟩ | ⟨rfl, rfl⟩ | ⟨rfl, rfl⟩ | ⟨rfl, rfl⟩ <;> first | decide | omega)
            have kn813 : N811.1 153 1 = zI 1 := (hFN811 153 1 (by first | decide | (dsimp only; first | done | decide | omega) | omega)).trans ((st_ne (Or.inr (by decide))).trans kn672)
            have kn814 : N811.1 153 0 = zI 2 := (hFN811 153 0 (by first | decide | (dsimp only; first | done | decide | omega) | omega)).trans (st_at)
            refine g_iast F w (a := 153) rfl (j := 2) ⟨by decide, by decide⟩ (by omega) dX12_readsRule_118 (fun H locs w => ?_)
            refine lv_iload_n hx hb dX12_readsRule_119 rfl (lv_at hl 0 rfl) ?_
            refine lv_bipush (v := zI 7) hx hb dX12_readsRule_120 (by decide) ?_
            refine z_icmp_ne (tgt := 148) hx hb (by omega) (by omega) dX12_readsRule_122 (by decide) (fun c815 => ?_) (fun c815 => False.elim (by omega))
            refine lv_iload_n hx hb dX12_readsRule_148 rfl (lv_at hl 0 rfl) ?_
            refine k_Si F w (As := [.int (zI 2)]) (rest := []) (q_X12_hasSide (x := 2) ⟨by omega, by omega⟩  (IvR.to hIN811 (a := 153) (k := 2) (x := z812) (show ivr 153 2 = ((-99), 300) from rfl) ⟨by omega, by omega⟩ ⟨by decide, by decide, by decide, fun q9 => absurd q9 (by decide)⟩)) gs_X12_137 hs_X12_hasSide ⟨(Nat.le_of_ble_eq_true rfl), (Nat.le_of_ble_eq_true rfl)⟩ hl.1 rfl (Nat.le_of_ble_eq_true rfl) ⟨Nat.zero_le _, Nat.zero_le _⟩ dX12_readsRule_149 (fun r816 N817 H locs hp w => ?_)
            obtain ⟨z818, rfl, bz818, xz818, hMN817⟩ := hp
            rw [hMN817] at w
            refine z_if_eq (tgt := 169) hx hb (by omega) dX12_readsRule_152 (by decide) (fun c819 => False.elim (by omega)) (fun c819 => ?_)
            refine lv_aload_n hx hb dX12_readsRule_155 rfl (lv_at hl 1 rfl) ?_
            refine f_12_17 F w (a := 146) rfl tb_676 dX12_readsRule_156 ?_
            refine lv_iconst (v := zI 4) hx hb dX12_readsRule_159 rfl ?_
            refine lv_aload_n hx hb dX12_readsRule_160 rfl (lv_at hl 1 rfl) ?_
            refine lv_bipush (v := zI 15) hx hb dX12_readsRule_161 (by decide) ?_
            refine lv_bipush (v := zI 16) hx hb dX12_readsRule_163 (by decide) ?_
            refine k_Vi F w (As := [.int (zI 15), .int (zI 16)]) (rest := [.int (zI 4), .ref (B + 153)]) (a := 146) (kd_lt (a := 146) (show kd 146 = (12, 0, 0) from rfl) (by decide)) (sh_12 rfl _ _) rfl (q_X12_needs (x := 15) ⟨by omega, by omega⟩ (x1 := 16) ⟨by omega, by omega⟩ (tk := nz8120) ((st_ne (Or.inl (by decide))).trans enz8120) ⟨by omega, by omega⟩ (nb := nz8121) ((st_ne (Or.inl (by decide))).trans enz8121) ⟨by omega, by omega⟩ (by omega) (IvR.to hIN811 (a := 153) (k := 2) (x := z812) (show ivr 153 2 = ((-99), 300) from rfl) ⟨by omega, by omega⟩ ⟨by decide, by decide, by decide, fun q9 => absurd q9 (by decide)⟩)) gv_X12_227 hv_X12_needs ⟨(Nat.le_of_ble_eq_true rfl), (Nat.le_of_ble_eq_true rfl)⟩ hl.1 rfl (Nat.le_of_ble_eq_true rfl) ⟨Nat.zero_le _, Nat.zero_le _⟩ dX12_readsRule_165 (fun r820 N821 H locs hp w => ?_)
            obtain ⟨z822, rfl, bz822, ⟨nz8220, nz8221, enz8220, enz8221, xz822⟩, hIN821, hFN821⟩ := hp
            have hGN821 := Fr.tr (Fr.to hGN811 (by first | decide | (dsimp only; first | done | decide | omega) | omega)) hFN821 (S := (fun b9 k9 => (b9 = 146 ∧ k9 = 11) ∨ (b9 = 146 ∧ k9 = 13) ∨ (b9 = 146 ∧ k9 = 14) ∨ (b9 = 146 ∧ k9 = 15) ∨ (b9 = 146 ∧ k9 = 16) ∨ (b9 = 146 ∧ k9 = 9) ∨ b9 = 153)) (fun b k h => by (try dsimp only at h ⊢); rcases h with ⟨rfl, rfl⟩ | ⟨rfl, rfl⟩ | ⟨rfl, rfl⟩ | ⟨rfl, rfl⟩ | ⟨rfl, rfl⟩ | ⟨rfl, rfl⟩ <;> first | decide | omega)
            have kn823 : N821.1 153 1 = zI 1 := (hFN821 153 1 (by first | decide | (dsimp only; first | done | decide | omega) | omega)).trans ((st_ne (Or.inr (by decide))).trans kn813)
            have kn824 : N821.1 153 0 = zI 2 := (hFN821 153 0 (by first | decide | (dsimp only; first | done | decide | omega) | omega)).trans ((st_ne (Or.inr (by decide))).trans kn814)
            have kn825 : N821.1 153 2 = zI z812 := (hFN821 153 2 (by first | decide | (dsimp only; first | done | decide | omega) | omega)).trans (st_at)
            refine g_iast F w (a := 153) rfl (j := 4) ⟨by decide, by decide⟩ (by omega) dX12_readsRule_168 (fun H locs w => ?_)
            refine lv_iload_n hx hb dX12_readsRule_169 rfl (lv_at hl 0 rfl) ?_
            refine lv_iconst (v := zI 3) hx hb dX12_readsRule_170 rfl ?_
            refine z_icmp_eq (tgt := 180) hx hb (by omega) (by omega) dX12_readsRule_171 (by decide) (fun c826 => False.elim (by omega)) (fun c826 => ?_)
            refine lv_iload_n hx hb dX12_readsRule_174 rfl (lv_at hl 0 rfl) ?_
            refine lv_bipush (v := zI 8) hx hb dX12_readsRule_175 (by decide) ?_
            refine z_icmp_ne (tgt := 194) hx hb (by omega) (by omega) dX12_readsRule_177 (by decide) (fun c827 => ?_) (fun c827 => False.elim (by omega))
            refine lv_iload_n hx hb dX12_readsRule_194 rfl (lv_at hl 0 rfl) ?_
            refine lv_iconst (v := zI 1) hx hb dX12_readsRule_195 rfl ?_
            refine z_icmp_ne (tgt := 209) hx hb (by omega) (by omega) dX12_readsRule_196 (by decide) (fun c828 => ?_) (fun c828 => False.elim (by omega))
            refine lv_aload_n hx hb dX12_readsRule_209 rfl (lv_at hl 1 rfl) ?_
            refine f_12_16 F w (a := 146) rfl tb_669 dX12_readsRule_210 ?_
            obtain ⟨z829, bz829, ez829⟩ := IvR.ld (k := 16) (IvR.to hIN821 (a := 153) (k := 4) (x := z822) (show ivr 153 4 = ((-99), 300) from rfl) ⟨by omega, by omega⟩ ⟨by decide, by decide, by decide, fun q9 => absurd q9 (by decide)⟩) (show ivr 146 16 = (0, 1) from rfl) (show 146 ≤ 146 ∧ 146 < 159 by decide)
            refine r_val ez829 ?_
            refine z_if_ne (tgt := 236) hx hb (by omega) dX12_readsRule_213 (by decide) (fun c830 => ?_) (fun c830 => ?_)
            · refine lv_aload_n hx hb dX12_readsRule_236 rfl (lv_at hl 1 rfl) ?_
              refine f_12_16 F w (a := 146) rfl tb_669 dX12_readsRule_237 ?_
              obtain ⟨z831, bz831, ez831⟩ := IvR.ld (k := 16) (IvR.to hIN821 (a := 153) (k := 4) (x := z822) (show ivr 153 4 = ((-99), 300) from rfl) ⟨by omega, by omega⟩ ⟨by decide, by decide, by decide, fun q9 => absurd q9 (by decide)⟩) (show ivr 146 16 = (0, 1) from rfl) (show 146 ≤ 146 ∧ 146 < 159 by decide)
              refine r_val ez831 ?_
              refine z_if_eq (tgt := 244) hx hb (by omega) dX12_readsRule_240 (by decide) (fun c832 => ?_) (fun c832 => ?_)
              · refine lv_aload_n hx hb dX12_readsRule_244 rfl (lv_at hl 1 rfl) ?_
                refine f_12_13 F w (a := 146) rfl tb_602 dX12_readsRule_245 ?_
                refine r_val (v := zI nz8220) ((st_ne (Or.inl (by decide))).trans enz8220) ?_
                refine lv_iconst (v := zI 3) hx hb dX12_readsRule_248 rfl ?_
                refine z_icmp_ne (tgt := 259) hx hb (by omega) (by omega) dX12_readsRule_249 (by decide) (fun c833 => ?_) (fun c833 => ?_)
                · refine lv_aload_n hx hb dX12_readsRule_259 rfl (lv_at hl 1 rfl) ?_
                  refine lv_iconst (v := zI 1) hx hb dX12_readsRule_260 rfl ?_
                  refine u_12_16 F w (a := 146) rfl (nar_z (by omega)) (fit_z (by omega)) tb_669 dX12_readsRule_261 (fun H locs w => ?_)
                  obtain ⟨z834, bz834, ez834⟩ := IvR.ld (k := 3) (IvR.to (IvR.to hIN821 (a := 153) (k := 4) (x := z822) (show ivr 153 4 = ((-99), 300) from rfl) ⟨by omega, by omega⟩ ⟨by decide, by decide, by decide, fun q9 => absurd q9 (by decide)⟩) (a := 146) (k := 16) (x := 1) (show ivr 146 16 = (0, 1) from rfl) ⟨by omega, by omega⟩ ⟨by decide, by decide, by decide, fun q9 => absurd q9 (by decide)⟩) (show ivr 153 3 = (-99, 300) from rfl) (by decide)
                  rw [hQ]
                  exact e_v F w hr hlocks ⟨⟨nz8220, nz8221, 1, ((st_ne (Or.inr (by decide))).trans ((st_ne (Or.inl (by decide))).trans enz8220)), ((st_ne (Or.inr (by decide))).trans ((st_ne (Or.inl (by decide))).trans enz8221)), (st_at), ⟨by omega, by omega⟩, ⟨by omega, by omega⟩, ⟨by omega, by omega⟩, (by omega)⟩, (fun h8 => by have h9 := (zI_eq (a := 2) (b := 8) (by constructor <;> omega) (by constructor <;> omega)).mp (((st_ne (Or.inl (by decide))).trans ((st_ne (Or.inr (by decide))).trans kn824)).symm.trans h8); exact ⟨z834, by omega, by omega, ez834⟩), (IvR.to (IvR.to hIN821 (a := 153) (k := 4) (x := z822) (show ivr 153 4 = ((-99), 300) from rfl) ⟨by omega, by omega⟩ ⟨by decide, by decide, by decide, fun q9 => absurd q9 (by decide)⟩) (a := 146) (k := 16) (x := 1) (show ivr 146 16 = (0, 1) from rfl) ⟨by omega, by omega⟩ ⟨by decide, by decide, by decide, fun q9 => absurd q9 (by decide)⟩), (Fr.to (Fr.to hGN821 (by first | decide | (dsimp only; first | done | decide | omega) | omega)) (by first | decide | (dsimp only; first | done | decide | omega) | omega))⟩ dX12_readsRule_264
                · refine lv_aload_n hx hb dX12_readsRule_252 rfl (lv_at hl 1 rfl) ?_
                  refine k_Vv F w (As := []) (rest := []) (a := 146) (kd_lt (a := 146) (show kd 146 = (12, 0, 0) from rfl) (by decide)) (sh_12 rfl _ _) rfl (q_X12_goesOn   (IvR.to hIN821 (a := 153) (k := 4) (x := z822) (show ivr 153 4 = ((-99), 300) from rfl) ⟨by omega, by omega⟩ ⟨by decide, by decide, by decide, fun q9 => absurd q9 (by decide)⟩)) gv_X12_221 hv_X12_goesOn ⟨(Nat.le_of_ble_eq_true rfl), (Nat.le_of_ble_eq_true rfl)⟩ hl.1 rfl (Nat.le_of_ble_eq_true rfl) ⟨Nat.zero_le _, Nat.zero_le _⟩ dX12_readsRule_253 (fun N836 H locs hp w => ?_)
                  obtain ⟨⟨nz8370, nz8371, enz8370, enz8371, xz837⟩, hIN836, hFN836⟩ := hp
                  have hGN836 := Fr.tr (Fr.to hGN821 (by first | decide | (dsimp only; first | done | decide | omega) | omega)) hFN836 (S := (fun b9 k9 => (b9 = 146 ∧ k9 = 11) ∨ (b9 = 146 ∧ k9 = 13) ∨ (b9 = 146 ∧ k9 = 14) ∨ (b9 = 146 ∧ k9 = 15) ∨ (b9 = 146 ∧ k9 = 16) ∨ (b9 = 146 ∧ k9 = 9) ∨ b9 = 153)) (fun b k h => by (try dsimp only at h ⊢); rcases h with ⟨rfl, rfl⟩ | ⟨rfl, rfl⟩ | ⟨rfl, rfl⟩ | ⟨rfl, rfl⟩ | ⟨rfl, rfl⟩ <;> first | decide | omega)
                  have kn838 : N836.1 153 1 = zI 1 := (hFN836 153 1 (by first | decide | (dsimp only; first | done | decide | omega) | omega)).trans ((st_ne (Or.inr (by decide))).trans kn823)
                  have kn839 : N836.1 153 0 = zI 2 := (hFN836 153 0 (by first | decide | (dsimp only; first | done | decide | omega) | omega)).trans ((st_ne (Or.inr (by decide))).trans kn824)
                  have kn840 : N836.1 153 2 = zI z812 := (hFN836 153 2 (by first | decide | (dsimp only; first | done | decide | omega) | omega)).trans ((st_ne (Or.inr (by decide))).trans kn825)
                  have kn841 : N836.1 153 4 = zI z822 := (hFN836 153 4 (by first | decide | (dsimp only; first | done | decide | omega) | omega)).trans (st_at)
                  refine lv_goto (tgt := 264) hx hb dX12_readsRule_256 (by decide) ?_
                  obtain ⟨z842, bz842, ez842⟩ := IvR.ld (k := 16) hIN836 (show ivr 146 16 = (0, 1) from rfl) (show 146 ≤ 146 ∧ 146 < 159 by decide)
                  obtain ⟨z843, bz843, ez843⟩ := IvR.ld (k := 3) hIN836 (show ivr 153 3 = (-99, 300) from rfl) (by decide)
                  rw [hQ]
                  exact e_v F w hr hlocks ⟨⟨nz8370, nz8371, z842, (enz8370), (enz8371), (ez842), ⟨by omega, by omega⟩, ⟨by omega, by omega⟩, ⟨by omega, by omega⟩, (by omega)⟩, (fun h8 => by have h9 := (zI_eq (a := 2) (b := 8) (by constructor <;> omega) (by constructor <;> omega)).mp ((kn839).symm.trans h8); exact ⟨z843, by omega, by omega, ez843⟩), hIN836, hGN836⟩ dX12_readsRule_264
              · obtain ⟨z844, bz844, ez844⟩ := IvR.ld (k := 16) (IvR.to hIN821 (a := 153) (k := 4) (x := z822) (show ivr 153 4 = ((-99), 300) from rfl) ⟨by omega, by omega⟩ ⟨by decide, by decide, by decide, fun q9 => absurd q9 (by decide)⟩) (show ivr 146 16 = (0, 1) from rfl) (show 146 ≤ 146 ∧ 146 < 159 by decide)
                obtain ⟨z845, bz845, ez845⟩ := IvR.ld (k := 3) (IvR.to hIN821 (a := 153) (k := 4) (x := z822) (show ivr 153 4 = ((-99), 300) from rfl) ⟨by omega, by omega⟩ ⟨by decide, by decide, by decide, fun q9 => absurd q9 (by decide)⟩) (show ivr 153 3 = (-99, 300) from rfl) (by decide)
                rw [hQ]
                exact e_v F w hr hlocks ⟨⟨nz8220, nz8221, z844, ((st_ne (Or.inl (by decide))).trans enz8220), ((st_ne (Or.inl (by decide))).trans enz8221), (ez844), ⟨by omega, by omega⟩, ⟨by omega, by omega⟩, ⟨by omega, by omega⟩, (by omega)⟩, (fun h8 => by have h9 := (zI_eq (a := 2) (b := 8) (by constructor <;> omega) (by constructor <;> omega)).mp (((st_ne (Or.inr (by decide))).trans kn824).symm.trans h8); exact ⟨z845, by omega, by omega, ez845⟩), (IvR.to hIN821 (a := 153) (k := 4) (x := z822) (show ivr 153 4 = ((-99), 300) from rfl) ⟨by omega, by omega⟩ ⟨by decide, by decide, by decide, fun q9 => absurd q9 (by decide)⟩), (Fr.to hGN821 (by first | decide | (dsimp only; first | done | decide | omega) | omega))⟩ dX12_readsRule_243
            · refine lv_iload_n hx hb dX12_readsRule_216 rfl (lv_at hl 0 rfl) ?_
              refine k_Si F w (As := [.int (zI 2)]) (rest := []) (q_X12_isBySyllables (x := 2) ⟨by omega, by omega⟩  (IvR.to hIN821 (a := 153) (k := 4) (x := z822) (show ivr 153 4 = ((-99), 300) from rfl) ⟨by omega, by omega⟩ ⟨by decide, by decide, by decide, fun q9 => absurd q9 (by decide)⟩)) gs_X12_140 hs_X12_isBySyllables ⟨(Nat.le_of_ble_eq_true rfl), (Nat.le_of_ble_eq_true rfl)⟩ hl.1 rfl (Nat.le_of_ble_eq_true rfl) ⟨Nat.zero_le _, Nat.zero_le _⟩ dX12_readsRule_217 (fun r846 N847 H locs hp w => ?_)
              obtain ⟨z848, rfl, bz848, xz848, hMN847⟩ := hp
              rw [hMN847] at w
              refine z_if_ne (tgt := 236) hx hb (by omega) dX12_readsRule_220 (by decide) (fun c849 => False.elim (by omega)) (fun c849 => ?_)
              refine lv_aload_n hx hb dX12_readsRule_223 rfl (lv_at hl 1 rfl) ?_
              refine lv_bipush (v := zI 20) hx hb dX12_readsRule_224 (by decide) ?_
              refine k_Vi F w (As := [.int (zI 20)]) (rest := []) (a := 146) (kd_lt (a := 146) (show kd 146 = (12, 0, 0) from rfl) (by decide)) (sh_12 rfl _ _) rfl (q_X12_isWord (x := 20) ⟨by omega, by omega⟩  (IvR.to hIN821 (a := 153) (k := 4) (x := z822) (show ivr 153 4 = ((-99), 300) from rfl) ⟨by omega, by omega⟩ ⟨by decide, by decide, by decide, fun q9 => absurd q9 (by decide)⟩)) gv_X12_224 hv_X12_isWord ⟨(Nat.le_of_ble_eq_true rfl), (Nat.le_of_ble_eq_true rfl)⟩ hl.1 rfl (Nat.le_of_ble_eq_true rfl) ⟨Nat.zero_le _, Nat.zero_le _⟩ dX12_readsRule_226 (fun r850 N851 H locs hp w => ?_)
              obtain ⟨z852, rfl, bz852, hMN851⟩ := hp
              rw [hMN851] at w
              refine z_if_eq (tgt := 236) hx hb (by omega) dX12_readsRule_229 (by decide) (fun c853 => ?_) (fun c853 => ?_)
              · refine lv_aload_n hx hb dX12_readsRule_236 rfl (lv_at hl 1 rfl) ?_
                refine f_12_16 F w (a := 146) rfl tb_669 dX12_readsRule_237 ?_
                obtain ⟨z854, bz854, ez854⟩ := IvR.ld (k := 16) (IvR.to hIN821 (a := 153) (k := 4) (x := z822) (show ivr 153 4 = ((-99), 300) from rfl) ⟨by omega, by omega⟩ ⟨by decide, by decide, by decide, fun q9 => absurd q9 (by decide)⟩) (show ivr 146 16 = (0, 1) from rfl) (show 146 ≤ 146 ∧ 146 < 159 by decide)
                refine r_val ez854 ?_
                refine z_if_eq (tgt := 244) hx hb (by omega) dX12_readsRule_240 (by decide) (fun c855 => ?_) (fun c855 => ?_)
                · refine lv_aload_n hx hb dX12_readsRule_244 rfl (lv_at hl 1 rfl) ?_
                  refine f_12_13 F w (a := 146) rfl tb_602 dX12_readsRule_245 ?_
                  refine r_val (v := zI nz8220) ((st_ne (Or.inl (by decide))).trans enz8220) ?_
                  refine lv_iconst (v := zI 3) hx hb dX12_readsRule_248 rfl ?_
                  refine z_icmp_ne (tgt := 259) hx hb (by omega) (by omega) dX12_readsRule_249 (by decide) (fun c856 => ?_) (fun c856 => ?_)
                  · refine lv_aload_n hx hb dX12_readsRule_259 rfl (lv_at hl 1 rfl) ?_
                    refine lv_iconst (v := zI 1) hx hb dX12_readsRule_260 rfl ?_
                    refine u_12_16 F w (a := 146) rfl (nar_z (by omega)) (fit_z (by omega)) tb_669 dX12_readsRule_261 (fun H locs w => ?_)
                    obtain ⟨z857, bz857, ez857⟩ := IvR.ld (k := 3) (IvR.to (IvR.to hIN821 (a := 153) (k := 4) (x := z822) (show ivr 153 4 = ((-99), 300) from rfl) ⟨by omega, by omega⟩ ⟨by decide, by decide, by decide, fun q9 => absurd q9 (by decide)⟩) (a := 146) (k := 16) (x := 1) (show ivr 146 16 = (0, 1) from rfl) ⟨by omega, by omega⟩ ⟨by decide, by decide, by decide, fun q9 => absurd q9 (by decide)⟩) (show ivr 153 3 = (-99, 300) from rfl) (by decide)
                    rw [hQ]
                    exact e_v F w hr hlocks ⟨⟨nz8220, nz8221, 1, ((st_ne (Or.inr (by decide))).trans ((st_ne (Or.inl (by decide))).trans enz8220)), ((st_ne (Or.inr (by decide))).trans ((st_ne (Or.inl (by decide))).trans enz8221)), (st_at), ⟨by omega, by omega⟩, ⟨by omega, by omega⟩, ⟨by omega, by omega⟩, (by omega)⟩, (fun h8 => by have h9 := (zI_eq (a := 2) (b := 8) (by constructor <;> omega) (by constructor <;> omega)).mp (((st_ne (Or.inl (by decide))).trans ((st_ne (Or.inr (by decide))).trans kn824)).symm.trans h8); exact ⟨z857, by omega, by omega, ez857⟩), (IvR.to (IvR.to hIN821 (a := 153) (k := 4) (x := z822) (show ivr 153 4 = ((-99), 300) from rfl) ⟨by omega, by omega⟩ ⟨by decide, by decide, by decide, fun q9 => absurd q9 (by decide)⟩) (a := 146) (k := 16) (x := 1) (show ivr 146 16 = (0, 1) from rfl) ⟨by omega, by omega⟩ ⟨by decide, by decide, by decide, fun q9 => absurd q9 (by decide)⟩), (Fr.to (Fr.to hGN821 (by first | decide | (dsimp only; first | done | decide | omega) | omega)) (by first | decide | (dsimp only; first | done | decide | omega) | omega))⟩ dX12_readsRule_264
                  · refine lv_aload_n hx hb dX12_readsRule_252 rfl (lv_at hl 1 rfl) ?_
                    refine k_Vv F w (As := []) (rest := []) (a := 146) (kd_lt (a := 146) (show kd 146 = (12, 0, 0) from rfl) (by decide)) (sh_12 rfl _ _) rfl (q_X12_goesOn   (IvR.to hIN821 (a := 153) (k := 4) (x := z822) (show ivr 153 4 = ((-99), 300) from rfl) ⟨by omega, by omega⟩ ⟨by decide, by decide, by decide, fun q9 => absurd q9 (by decide)⟩)) gv_X12_221 hv_X12_goesOn ⟨(Nat.le_of_ble_eq_true rfl), (Nat.le_of_ble_eq_true rfl)⟩ hl.1 rfl (Nat.le_of_ble_eq_true rfl) ⟨Nat.zero_le _, Nat.zero_le _⟩ dX12_readsRule_253 (fun N859 H locs hp w => ?_)
                    obtain ⟨⟨nz8600, nz8601, enz8600, enz8601, xz860⟩, hIN859, hFN859⟩ := hp
                    have hGN859 := Fr.tr (Fr.to hGN821 (by first | decide | (dsimp only; first | done | decide | omega) | omega)) hFN859 (S := (fun b9 k9 => (b9 = 146 ∧ k9 = 11) ∨ (b9 = 146 ∧ k9 = 13) ∨ (b9 = 146 ∧ k9 = 14) ∨ (b9 = 146 ∧ k9 = 15) ∨ (b9 = 146 ∧ k9 = 16) ∨ (b9 = 146 ∧ k9 = 9) ∨ b9 = 153)) (fun b k h => by (try dsimp only at h ⊢); rcases h with ⟨rfl, rfl⟩ | ⟨rfl, rfl⟩ | ⟨rfl, rfl⟩ | ⟨rfl, rfl⟩ | ⟨rfl, rfl⟩ <;> first | decide | omega)
                    have kn861 : N859.1 153 1 = zI 1 := (hFN859 153 1 (by first | decide | (dsimp only; first | done | decide | omega) | omega)).trans ((st_ne (Or.inr (by decide))).trans kn823)
                    have kn862 : N859.1 153 0 = zI 2 := (hFN859 153 0 (by first | decide | (dsimp only; first | done | decide | omega) | omega)).trans ((st_ne (Or.inr (by decide))).trans kn824)
                    have kn863 : N859.1 153 2 = zI z812 := (hFN859 153 2 (by first | decide | (dsimp only; first | done | decide | omega) | omega)).trans ((st_ne (Or.inr (by decide))).trans kn825)
                    have kn864 : N859.1 153 4 = zI z822 := (hFN859 153 4 (by first | decide | (dsimp only; first | done | decide | omega) | omega)).trans (st_at)
                    refine lv_goto (tgt := 264) hx hb dX12_readsRule_256 (by decide) ?_
                    obtain ⟨z865, bz865, ez865⟩ := IvR.ld (k := 16) hIN859 (show ivr 146 16 = (0, 1) from rfl) (show 146 ≤ 146 ∧ 146 < 159 by decide)
                    obtain ⟨z866, bz866, ez866⟩ := IvR.ld (k := 3) hIN859 (show ivr 153 3 = (-99, 300) from rfl) (by decide)
                    rw [hQ]
                    exact e_v F w hr hlocks ⟨⟨nz8600, nz8601, z865, (enz8600), (enz8601), (ez865), ⟨by omega, by omega⟩, ⟨by omega, by omega⟩, ⟨by omega, by omega⟩, (by omega)⟩, (fun h8 => by have h9 := (zI_eq (a := 2) (b := 8) (by constructor <;> omega) (by constructor <;> omega)).mp ((kn862).symm.trans h8); exact ⟨z866, by omega, by omega, ez866⟩), hIN859, hGN859⟩ dX12_readsRule_264
                · obtain ⟨z867, bz867, ez867⟩ := IvR.ld (k := 16) (IvR.to hIN821 (a := 153) (k := 4) (x := z822) (show ivr 153 4 = ((-99), 300) from rfl) ⟨by omega, by omega⟩ ⟨by decide, by decide, by decide, fun q9 => absurd q9 (by decide)⟩) (show ivr 146 16 = (0, 1) from rfl) (show 146 ≤ 146 ∧ 146 < 159 by decide)
                  obtain ⟨z868, bz868, ez868⟩ := IvR.ld (k := 3) (IvR.to hIN821 (a := 153) (k := 4) (x := z822) (show ivr 153 4 = ((-99), 300) from rfl) ⟨by omega, by omega⟩ ⟨by decide, by decide, by decide, fun q9 => absurd q9 (by decide)⟩) (show ivr 153 3 = (-99, 300) from rfl) (by decide)
                  rw [hQ]
                  exact e_v F w hr hlocks ⟨⟨nz8220, nz8221, z867, ((st_ne (Or.inl (by decide))).trans enz8220), ((st_ne (Or.inl (by decide))).trans enz8221), (ez867), ⟨by omega, by omega⟩, ⟨by omega, by omega⟩, ⟨by omega, by omega⟩, (by omega)⟩, (fun h8 => by have h9 := (zI_eq (a := 2) (b := 8) (by constructor <;> omega) (by constructor <;> omega)).mp (((st_ne (Or.inr (by decide))).trans kn824).symm.trans h8); exact ⟨z868, by omega, by omega, ez868⟩), (IvR.to hIN821 (a := 153) (k := 4) (x := z822) (show ivr 153 4 = ((-99), 300) from rfl) ⟨by omega, by omega⟩ ⟨by decide, by decide, by decide, fun q9 => absurd q9 (by decide)⟩), (Fr.to hGN821 (by first | decide | (dsimp only; first | done | decide | omega) | omega))⟩ dX12_readsRule_243
              · refine lv_aload_n hx hb dX12_readsRule_232 rfl (lv_at hl 1 rfl) ?_
                refine k_Vv F w (As := []) (rest := []) (a := 146) (kd_lt (a := 146) (show kd 146 = (12, 0, 0) from rfl) (by decide)) (sh_12 rfl _ _) rfl (q_X12_readsTest   (IvR.to hIN821 (a := 153) (k := 4) (x := z822) (show ivr 153 4 = ((-99), 300) from rfl) ⟨by omega, by omega⟩ ⟨by decide, by decide, by decide, fun q9 => absurd q9 (by decide)⟩)) gv_X12_233 hv_X12_readsTest ⟨(Nat.le_of_ble_eq_true rfl), (Nat.le_of_ble_eq_true rfl)⟩ hl.1 rfl (Nat.le_of_ble_eq_true rfl) ⟨Nat.zero_le _, Nat.zero_le _⟩ dX12_readsRule_233 (fun N870 H locs hp w => ?_)
                obtain ⟨⟨nz8710, nz8711, enz8710, enz8711, xz871⟩, hIN870, hFN870⟩ := hp
                have hGN870 := Fr.tr (Fr.to hGN821 (by first | decide | (dsimp only; first | done | decide | omega) | omega)) hFN870 (S := (fun b9 k9 => (b9 = 146 ∧ k9 = 11) ∨ (b9 = 146 ∧ k9 = 13) ∨ (b9 = 146 ∧ k9 = 14) ∨ (b9 = 146 ∧ k9 = 15) ∨ (b9 = 146 ∧ k9 = 16) ∨ (b9 = 146 ∧ k9 = 9) ∨ b9 = 153)) (fun b k h => by (try dsimp only at h ⊢); rcases h with ⟨rfl, rfl⟩ | ⟨rfl, rfl⟩ | ⟨rfl, rfl⟩ | ⟨rfl, rfl⟩ | ⟨rfl, rfl⟩ | ⟨rfl, rfl⟩ | ⟨rfl, q1, q2⟩ | ⟨rfl, q1, q2⟩ | ⟨rfl, q1, q2⟩ <;> first | decide | omega)
                have kn872 : N870.1 153 1 = zI 1 := (hFN870 153 1 (by first | decide | (dsimp only; first | done | decide | omega) | omega)).trans ((st_ne (Or.inr (by decide))).trans kn823)
                have kn873 : N870.1 153 0 = zI 2 := (hFN870 153 0 (by first | decide | (dsimp only; first | done | decide | omega) | omega)).trans ((st_ne (Or.inr (by decide))).trans kn824)
                have kn874 : N870.1 153 2 = zI z812 := (hFN870 153 2 (by first | decide | (dsimp only; first | done | decide | omega) | omega)).trans ((st_ne (Or.inr (by decide))).trans kn825)
                have kn875 : N870.1 153 4 = zI z822 := (hFN870 153 4 (by first | decide | (dsimp only; first | done | decide | omega) | omega)).trans (st_at)
                refine lv_aload_n hx hb dX12_readsRule_236 rfl (lv_at hl 1 rfl) ?_
                refine f_12_16 F w (a := 146) rfl tb_669 dX12_readsRule_237 ?_
                obtain ⟨z876, bz876, ez876⟩ := IvR.ld (k := 16) hIN870 (show ivr 146 16 = (0, 1) from rfl) (show 146 ≤ 146 ∧ 146 < 159 by decide)
                refine r_val ez876 ?_
                refine z_if_eq (tgt := 244) hx hb (by omega) dX12_readsRule_240 (by decide) (fun c877 => ?_) (fun c877 => ?_)
                · refine lv_aload_n hx hb dX12_readsRule_244 rfl (lv_at hl 1 rfl) ?_
                  refine f_12_13 F w (a := 146) rfl tb_602 dX12_readsRule_245 ?_
                  refine r_val (v := zI nz8710) (enz8710) ?_
                  refine lv_iconst (v := zI 3) hx hb dX12_readsRule_248 rfl ?_
                  refine z_icmp_ne (tgt := 259) hx hb (by omega) (by omega) dX12_readsRule_249 (by decide) (fun c878 => ?_) (fun c878 => ?_)
                  · refine lv_aload_n hx hb dX12_readsRule_259 rfl (lv_at hl 1 rfl) ?_
                    refine lv_iconst (v := zI 1) hx hb dX12_readsRule_260 rfl ?_
                    refine u_12_16 F w (a := 146) rfl (nar_z (by omega)) (fit_z (by omega)) tb_669 dX12_readsRule_261 (fun H locs w => ?_)
                    obtain ⟨z879, bz879, ez879⟩ := IvR.ld (k := 3) (IvR.to hIN870 (a := 146) (k := 16) (x := 1) (show ivr 146 16 = (0, 1) from rfl) ⟨by omega, by omega⟩ ⟨by decide, by decide, by decide, fun q9 => absurd q9 (by decide)⟩) (show ivr 153 3 = (-99, 300) from rfl) (by decide)
                    rw [hQ]
                    exact e_v F w hr hlocks ⟨⟨nz8710, nz8711, 1, ((st_ne (Or.inr (by decide))).trans enz8710), ((st_ne (Or.inr (by decide))).trans enz8711), (st_at), ⟨by omega, by omega⟩, ⟨by omega, by omega⟩, ⟨by omega, by omega⟩, (by omega)⟩, (fun h8 => by have h9 := (zI_eq (a := 2) (b := 8) (by constructor <;> omega) (by constructor <;> omega)).mp (((st_ne (Or.inl (by decide))).trans kn873).symm.trans h8); exact ⟨z879, by omega, by omega, ez879⟩), (IvR.to hIN870 (a := 146) (k := 16) (x := 1) (show ivr 146 16 = (0, 1) from rfl) ⟨by omega, by omega⟩ ⟨by decide, by decide, by decide, fun q9 => absurd q9 (by decide)⟩), (Fr.to hGN870 (by first | decide | (dsimp only; first | done | decide | omega) | omega))⟩ dX12_readsRule_264
                  · refine lv_aload_n hx hb dX12_readsRule_252 rfl (lv_at hl 1 rfl) ?_
                    refine k_Vv F w (As := []) (rest := []) (a := 146) (kd_lt (a := 146) (show kd 146 = (12, 0, 0) from rfl) (by decide)) (sh_12 rfl _ _) rfl (q_X12_goesOn   hIN870) gv_X12_221 hv_X12_goesOn ⟨(Nat.le_of_ble_eq_true rfl), (Nat.le_of_ble_eq_true rfl)⟩ hl.1 rfl (Nat.le_of_ble_eq_true rfl) ⟨Nat.zero_le _, Nat.zero_le _⟩ dX12_readsRule_253 (fun N881 H locs hp w => ?_)
                    obtain ⟨⟨nz8820, nz8821, enz8820, enz8821, xz882⟩, hIN881, hFN881⟩ := hp
                    have hGN881 := Fr.tr hGN870 hFN881 (S := (fun b9 k9 => (b9 = 146 ∧ k9 = 11) ∨ (b9 = 146 ∧ k9 = 13) ∨ (b9 = 146 ∧ k9 = 14) ∨ (b9 = 146 ∧ k9 = 15) ∨ (b9 = 146 ∧ k9 = 16) ∨ (b9 = 146 ∧ k9 = 9) ∨ b9 = 153)) (fun b k h => by (try dsimp only at h ⊢); rcases h with ⟨rfl, rfl⟩ | ⟨rfl, rfl⟩ | ⟨rfl, rfl⟩ | ⟨rfl, rfl⟩ | ⟨rfl, rfl⟩ <;> first | decide | omega)
                    have kn883 : N881.1 153 1 = zI 1 := (hFN881 153 1 (by first | decide | (dsimp only; first | done | decide | omega) | omega)).trans (kn872)
                    have kn884 : N881.1 153 0 = zI 2 := (hFN881 153 0 (by first | decide | (dsimp only; first | done | decide | omega) | omega)).trans (kn873)
                    have kn885 : N881.1 153 2 = zI z812 := (hFN881 153 2 (by first | decide | (dsimp only; first | done | decide | omega) | omega)).trans (kn874)
                    have kn886 : N881.1 153 4 = zI z822 := (hFN881 153 4 (by first | decide | (dsimp only; first | done | decide | omega) | omega)).trans (kn875)
                    have kn887 : N881.1 146 16 = zI z876 := (hFN881 146 16 (by first | decide | (dsimp only; first | done | decide | omega) | omega)).trans (ez876)
                    refine lv_goto (tgt := 264) hx hb dX12_readsRule_256 (by decide) ?_
                    obtain ⟨z888, bz888, ez888⟩ := IvR.ld (k := 3) hIN881 (show ivr 153 3 = (-99, 300) from rfl) (by decide)
                    rw [hQ]
                    exact e_v F w hr hlocks ⟨⟨nz8820, nz8821, z876, (enz8820), (enz8821), (kn887), ⟨by omega, by omega⟩, ⟨by omega, by omega⟩, ⟨by omega, by omega⟩, (by omega)⟩, (fun h8 => by have h9 := (zI_eq (a := 2) (b := 8) (by constructor <;> omega) (by constructor <;> omega)).mp ((kn884).symm.trans h8); exact ⟨z888, by omega, by omega, ez888⟩), hIN881, hGN881⟩ dX12_readsRule_264
                · obtain ⟨z889, bz889, ez889⟩ := IvR.ld (k := 3) hIN870 (show ivr 153 3 = (-99, 300) from rfl) (by decide)
                  rw [hQ]
                  exact e_v F w hr hlocks ⟨⟨nz8710, nz8711, z876, (enz8710), (enz8711), (ez876), ⟨by omega, by omega⟩, ⟨by omega, by omega⟩, ⟨by omega, by omega⟩, (by omega)⟩, (fun h8 => by have h9 := (zI_eq (a := 2) (b := 8) (by constructor <;> omega) (by constructor <;> omega)).mp ((kn873).symm.trans h8); exact ⟨z889, by omega, by omega, ez889⟩), hIN870, hGN870⟩ dX12_readsRule_243
          · refine lv_istore_n (lv' := [(1, .int (zI 3)), (0, .ref (B + 146))]) hx hb dX12_readsRule_63 rfl hl (by decide) rfl (fun ls hl => ?_)
            refine lv_aload_n hx hb dX12_readsRule_64 rfl (lv_at hl 1 rfl) ?_
            refine f_12_17 F w (a := 146) rfl tb_676 dX12_readsRule_65 ?_
            refine lv_iconst (v := zI 0) hx hb dX12_readsRule_68 rfl ?_
            refine lv_iload_n hx hb dX12_readsRule_69 rfl (lv_at hl 0 rfl) ?_
            refine g_iast F w (a := 153) rfl (j := 0) ⟨by decide, by decide⟩ (by omega) dX12_readsRule_70 (fun H locs w => ?_)
            refine lv_iload_n hx hb dX12_readsRule_71 rfl (lv_at hl 0 rfl) ?_
            refine lv_bipush (v := zI 8) hx hb dX12_readsRule_72 (by decide) ?_
            refine z_icmp_ne (tgt := 90) hx hb (by omega) (by omega) dX12_readsRule_74 (by decide) (fun c890 => ?_) (fun c890 => False.elim (by omega))
            refine lv_iload_n hx hb dX12_readsRule_90 rfl (lv_at hl 0 rfl) ?_
            refine z_if_eq (tgt := 119) hx hb (by omega) dX12_readsRule_91 (by decide) (fun c891 => False.elim (by omega)) (fun c891 => ?_)
            refine lv_aload_n hx hb dX12_readsRule_94 rfl (lv_at hl 1 rfl) ?_
            refine f_12_17 F w (a := 146) rfl tb_676 dX12_readsRule_95 ?_
            refine lv_iconst (v := zI 2) hx hb dX12_readsRule_98 rfl ?_
            refine lv_aload_n hx hb dX12_readsRule_99 rfl (lv_at hl 1 rfl) ?_
            refine lv_bipush (v := zI 11) hx hb dX12_readsRule_100 (by decide) ?_
            refine lv_iload_n hx hb dX12_readsRule_102 rfl (lv_at hl 0 rfl) ?_
            refine lv_bipush (v := zI 9) hx hb dX12_readsRule_103 (by decide) ?_
            refine z_icmp_ne (tgt := 113) hx hb (by omega) (by omega) dX12_readsRule_105 (by decide) (fun c892 => ?_) (fun c892 => False.elim (by omega))
            refine lv_bipush (v := zI 14) hx hb dX12_readsRule_113 (by decide) ?_
            refine k_Vi F w (As := [.int (zI 11), .int (zI 14)]) (rest := [.int (zI 2), .ref (B + 153)]) (a := 146) (kd_lt (a := 146) (show kd 146 = (12, 0, 0) from rfl) (by decide)) (sh_12 rfl _ _) rfl (q_X12_needs (x := 11) ⟨by omega, by omega⟩ (x1 := 14) ⟨by omega, by omega⟩ (tk := nz6710) ((st_ne (Or.inl (by decide))).trans enz6710) ⟨by omega, by omega⟩ (nb := nz6711) ((st_ne (Or.inl (by decide))).trans enz6711) ⟨by omega, by omega⟩ (by omega) (IvR.to hIN670 (a := 153) (k := 0) (x := 3) (show ivr 153 0 = ((-99), 300) from rfl) ⟨by omega, by omega⟩ ⟨by decide, by decide, by decide, fun q9 => absurd q9 (by decide)⟩)) gv_X12_227 hv_X12_needs ⟨(Nat.le_of_ble_eq_true rfl), (Nat.le_of_ble_eq_true rfl)⟩ hl.1 rfl (Nat.le_of_ble_eq_true rfl) ⟨Nat.zero_le _, Nat.zero_le _⟩ dX12_readsRule_115 (fun r893 N894 H locs hp w => ?_)
            obtain ⟨z895, rfl, bz895, ⟨nz8950, nz8951, enz8950, enz8951, xz895⟩, hIN894, hFN894⟩ := hp
            have hGN894 := Fr.tr (Fr.to hGN670 (by first | decide | (dsimp only; first | done | decide | omega) | omega)) hFN894 (S := (fun b9 k9 => (b9 = 146 ∧ k9 = 11) ∨ (b9 = 146 ∧ k9 = 13) ∨ (b9 = 146 ∧ k9 = 14) ∨ (b9 = 146 ∧ k9 = 15) ∨ (b9 = 146 ∧ k9 = 16) ∨ (b9 = 146 ∧ k9 = 9) ∨ b9 = 153)) (fun b k h => by (try dsimp only at h ⊢); rcases h with ⟨rfl, rfl⟩ | ⟨rfl, rfl⟩ | ⟨rfl, rfl⟩ | ⟨rfl, rfl⟩ | ⟨rfl, rfl⟩ | ⟨rfl, rfl⟩ <;> first | decide | omega)
            have kn896 : N894.1 153 1 = zI 1 := (hFN894 153 1 (by first | decide | (dsimp only; first | done | decide | omega) | omega)).trans ((st_ne (Or.inr (by decide))).trans kn672)
            have kn897 : N894.1 153 0 = zI 3 := (hFN894 153 0 (by first | decide | (dsimp only; first | done | decide | omega) | omega)).trans (st_at)
            refine g_iast F w (a := 153) rfl (j := 2) ⟨by decide, by decide⟩ (by omega) dX12_readsRule_118 (fun H locs w => ?_)
            refine lv_iload_n hx hb dX12_readsRule_119 rfl (lv_at hl 0 rfl) ?_
            refine lv_bipush (v := zI 7) hx hb dX12_readsRule_120 (by decide) ?_
            refine z_icmp_ne (tgt := 148) hx hb (by omega) (by omega) dX12_readsRule_122 (by decide) (fun c898 => ?_) (fun c898 => False.elim (by omega))
            refine lv_iload_n hx hb dX12_readsRule_148 rfl (lv_at hl 0 rfl) ?_
            refine k_Si F w (As := [.int (zI 3)]) (rest := []) (q_X12_hasSide (x := 3) ⟨by omega, by omega⟩  (IvR.to hIN894 (a := 153) (k := 2) (x := z895) (show ivr 153 2 = ((-99), 300) from rfl) ⟨by omega, by omega⟩ ⟨by decide, by decide, by decide, fun q9 => absurd q9 (by decide)⟩)) gs_X12_137 hs_X12_hasSide ⟨(Nat.le_of_ble_eq_true rfl), (Nat.le_of_ble_eq_true rfl)⟩ hl.1 rfl (Nat.le_of_ble_eq_true rfl) ⟨Nat.zero_le _, Nat.zero_le _⟩ dX12_readsRule_149 (fun r899 N900 H locs hp w => ?_)
            obtain ⟨z901, rfl, bz901, xz901, hMN900⟩ := hp
            rw [hMN900] at w
            refine z_if_eq (tgt := 169) hx hb (by omega) dX12_readsRule_152 (by decide) (fun c902 => ?_) (fun c902 => False.elim (by omega))
            refine lv_iload_n hx hb dX12_readsRule_169 rfl (lv_at hl 0 rfl) ?_
            refine lv_iconst (v := zI 3) hx hb dX12_readsRule_170 rfl ?_
            refine z_icmp_eq (tgt := 180) hx hb (by omega) (by omega) dX12_readsRule_171 (by decide) (fun c903 => ?_) (fun c903 => False.elim (by omega))
            refine lv_aload_n hx hb dX12_readsRule_180 rfl (lv_at hl 1 rfl) ?_
            refine f_12_17 F w (a := 146) rfl tb_676 dX12_readsRule_181 ?_
            refine lv_iconst (v := zI 4) hx hb dX12_readsRule_184 rfl ?_
            refine lv_aload_n hx hb dX12_readsRule_185 rfl (lv_at hl 1 rfl) ?_
            refine lv_bipush (v := zI 17) hx hb dX12_readsRule_186 (by decide) ?_
            refine lv_bipush (v := zI 18) hx hb dX12_readsRule_188 (by decide) ?_
            refine k_Vi F w (As := [.int (zI 17), .int (zI 18)]) (rest := [.int (zI 4), .ref (B + 153)]) (a := 146) (kd_lt (a := 146) (show kd 146 = (12, 0, 0) from rfl) (by decide)) (sh_12 rfl _ _) rfl (q_X12_needs (x := 17) ⟨by omega, by omega⟩ (x1 := 18) ⟨by omega, by omega⟩ (tk := nz8950) ((st_ne (Or.inl (by decide))).trans enz8950) ⟨by omega, by omega⟩ (nb := nz8951) ((st_ne (Or.inl (by decide))).trans enz8951) ⟨by omega, by omega⟩ (by omega) (IvR.to hIN894 (a := 153) (k := 2) (x := z895) (show ivr 153 2 = ((-99), 300) from rfl) ⟨by omega, by omega⟩ ⟨by decide, by decide, by decide, fun q9 => absurd q9 (by decide)⟩)) gv_X12_227 hv_X12_needs ⟨(Nat.le_of_ble_eq_true rfl), (Nat.le_of_ble_eq_true rfl)⟩ hl.1 rfl (Nat.le_of_ble_eq_true rfl) ⟨Nat.zero_le _, Nat.zero_le _⟩ dX12_readsRule_190 (fun r904 N905 H locs hp w => ?_)
            obtain ⟨z906, rfl, bz906, ⟨nz9060, nz9061, enz9060, enz9061, xz906⟩, hIN905, hFN905⟩ := hp
            have hGN905 := Fr.tr (Fr.to hGN894 (by first | decide | (dsimp only; first | done | decide | omega) | omega)) hFN905 (S := (fun b9 k9 => (b9 = 146 ∧ k9 = 11) ∨ (b9 = 146 ∧ k9 = 13) ∨ (b9 = 146 ∧ k9 = 14) ∨ (b9 = 146 ∧ k9 = 15) ∨ (b9 = 146 ∧ k9 = 16) ∨ (b9 = 146 ∧ k9 = 9) ∨ b9 = 153)) (fun b k h => by (try dsimp only at h ⊢); rcases h with ⟨rfl, rfl⟩ | ⟨rfl, rfl⟩ | ⟨rfl, rfl⟩ | ⟨rfl, rfl⟩ | ⟨rfl, rfl⟩ | ⟨rfl, rfl⟩ <;> first | decide | omega)
            have kn907 : N905.1 153 1 = zI 1 := (hFN905 153 1 (by first | decide | (dsimp only; first | done | decide | omega) | omega)).trans ((st_ne (Or.inr (by decide))).trans kn896)
            have kn908 : N905.1 153 0 = zI 3 := (hFN905 153 0 (by first | decide | (dsimp only; first | done | decide | omega) | omega)).trans ((st_ne (Or.inr (by decide))).trans kn897)
            have kn909 : N905.1 153 2 = zI z895 := (hFN905 153 2 (by first | decide | (dsimp only; first | done | decide | omega) | omega)).trans (st_at)
            refine g_iast F w (a := 153) rfl (j := 4) ⟨by decide, by decide⟩ (by omega) dX12_readsRule_193 (fun H locs w => ?_)
            refine lv_iload_n hx hb dX12_readsRule_194 rfl (lv_at hl 0 rfl) ?_
            refine lv_iconst (v := zI 1) hx hb dX12_readsRule_195 rfl ?_
            refine z_icmp_ne (tgt := 209) hx hb (by omega) (by omega) dX12_readsRule_196 (by decide) (fun c910 => ?_) (fun c910 => False.elim (by omega))
            refine lv_aload_n hx hb dX12_readsRule_209 rfl (lv_at hl 1 rfl) ?_
            refine f_12_16 F w (a := 146) rfl tb_669 dX12_readsRule_210 ?_
            obtain ⟨z911, bz911, ez911⟩ := IvR.ld (k := 16) (IvR.to hIN905 (a := 153) (k := 4) (x := z906) (show ivr 153 4 = ((-99), 300) from rfl) ⟨by omega, by omega⟩ ⟨by decide, by decide, by decide, fun q9 => absurd q9 (by decide)⟩) (show ivr 146 16 = (0, 1) from rfl) (show 146 ≤ 146 ∧ 146 < 159 by decide)
            refine r_val ez911 ?_
            refine z_if_ne (tgt := 236) hx hb (by omega) dX12_readsRule_213 (by decide) (fun c912 => ?_) (fun c912 => ?_)
            · refine lv_aload_n hx hb dX12_readsRule_236 rfl (lv_at hl 1 rfl) ?_
              refine f_12_16 F w (a := 146) rfl tb_669 dX12_readsRule_237 ?_
              obtain ⟨z913, bz913, ez913⟩ := IvR.ld (k := 16) (IvR.to hIN905 (a := 153) (k := 4) (x := z906) (show ivr 153 4 = ((-99), 300) from rfl) ⟨by omega, by omega⟩ ⟨by decide, by decide, by decide, fun q9 => absurd q9 (by decide)⟩) (show ivr 146 16 = (0, 1) from rfl) (show 146 ≤ 146 ∧ 146 < 159 by decide)
              refine r_val ez913 ?_
              refine z_if_eq (tgt := 244) hx hb (by omega) dX12_readsRule_240 (by decide) (fun c914 => ?_) (fun c914 => ?_)
              · refine lv_aload_n hx hb dX12_readsRule_244 rfl (lv_at hl 1 rfl) ?_
                refine f_12_13 F w (a := 146) rfl tb_602 dX12_readsRule_245 ?_
                refine r_val (v := zI nz9060) ((st_ne (Or.inl (by decide))).trans enz9060) ?_
                refine lv_iconst (v := zI 3) hx hb dX12_readsRule_248 rfl ?_
                refine z_icmp_ne (tgt := 259) hx hb (by omega) (by omega) dX12_readsRule_249 (by decide) (fun c915 => ?_) (fun c915 => ?_)
                · refine lv_aload_n hx hb dX12_readsRule_259 rfl (lv_at hl 1 rfl) ?_
                  refine lv_iconst (v := zI 1) hx hb dX12_readsRule_260 rfl ?_
                  refine u_12_16 F w (a := 146) rfl (nar_z (by omega)) (fit_z (by omega)) tb_669 dX12_readsRule_261 (fun H locs w => ?_)
                  obtain ⟨z916, bz916, ez916⟩ := IvR.ld (k := 3) (IvR.to (IvR.to hIN905 (a := 153) (k := 4) (x := z906) (show ivr 153 4 = ((-99), 300) from rfl) ⟨by omega, by omega⟩ ⟨by decide, by decide, by decide, fun q9 => absurd q9 (by decide)⟩) (a := 146) (k := 16) (x := 1) (show ivr 146 16 = (0, 1) from rfl) ⟨by omega, by omega⟩ ⟨by decide, by decide, by decide, fun q9 => absurd q9 (by decide)⟩) (show ivr 153 3 = (-99, 300) from rfl) (by decide)
                  rw [hQ]
                  exact e_v F w hr hlocks ⟨⟨nz9060, nz9061, 1, ((st_ne (Or.inr (by decide))).trans ((st_ne (Or.inl (by decide))).trans enz9060)), ((st_ne (Or.inr (by decide))).trans ((st_ne (Or.inl (by decide))).trans enz9061)), (st_at), ⟨by omega, by omega⟩, ⟨by omega, by omega⟩, ⟨by omega, by omega⟩, (by omega)⟩, (fun h8 => by have h9 := (zI_eq (a := 3) (b := 8) (by constructor <;> omega) (by constructor <;> omega)).mp (((st_ne (Or.inl (by decide))).trans ((st_ne (Or.inr (by decide))).trans kn908)).symm.trans h8); exact ⟨z916, by omega, by omega, ez916⟩), (IvR.to (IvR.to hIN905 (a := 153) (k := 4) (x := z906) (show ivr 153 4 = ((-99), 300) from rfl) ⟨by omega, by omega⟩ ⟨by decide, by decide, by decide, fun q9 => absurd q9 (by decide)⟩) (a := 146) (k := 16) (x := 1) (show ivr 146 16 = (0, 1) from rfl) ⟨by omega, by omega⟩ ⟨by decide, by decide, by decide, fun q9 => absurd q9 (by decide)⟩), (Fr.to (Fr.to hGN905 (by first | decide | (dsimp only; first | done | decide | omega) | omega)) (by first | decide | (dsimp only; first | done | decide | omega) | omega))⟩ dX12_readsRule_264
                · refine lv_aload_n hx hb dX12_readsRule_252 rfl (lv_at hl 1 rfl) ?_
                  refine k_Vv F w (As := []) (rest := []) (a := 146) (kd_lt (a := 146) (show kd 146 = (12, 0, 0) from rfl) (by decide)) (sh_12 rfl _ _) rfl (q_X12_goesOn   (IvR.to hIN905 (a := 153) (k := 4) (x := z906) (show ivr 153 4 = ((-99), 300) from rfl) ⟨by omega, by omega⟩ ⟨by decide, by decide, by decide, fun q9 => absurd q9 (by decide)⟩)) gv_X12_221 hv_X12_goesOn ⟨(Nat.le_of_ble_eq_true rfl), (Nat.le_of_ble_eq_true rfl)⟩ hl.1 rfl (Nat.le_of_ble_eq_true rfl) ⟨Nat.zero_le _, Nat.zero_le _⟩ dX12_readsRule_253 (fun N918 H locs hp w => ?_)
                  obtain ⟨⟨nz9190, nz9191, enz9190, enz9191, xz919⟩, hIN918, hFN918⟩ := hp
                  have hGN918 := Fr.tr (Fr.to hGN905 (by first | decide | (dsimp only; first | done | decide | omega) | omega)) hFN918 (S := (fun b9 k9 => (b9 = 146 ∧ k9 = 11) ∨ (b9 = 146 ∧ k9 = 13) ∨ (b9 = 146 ∧ k9 = 14) ∨ (b9 = 146 ∧ k9 = 15) ∨ (b9 = 146 ∧ k9 = 16) ∨ (b9 = 146 ∧ k9 = 9) ∨ b9 = 153)) (fun b k h => by (try dsimp only at h ⊢); rcases h with ⟨rfl, rfl⟩ | ⟨rfl, rfl⟩ | ⟨rfl, rfl⟩ | ⟨rfl, rfl⟩ | ⟨rfl, rfl⟩ <;> first | decide | omega)
                  have kn920 : N918.1 153 1 = zI 1 := (hFN918 153 1 (by first | decide | (dsimp only; first | done | decide | omega) | omega)).trans ((st_ne (Or.inr (by decide))).trans kn907)
                  have kn921 : N918.1 153 0 = zI 3 := (hFN918 153 0 (by first | decide | (dsimp only; first | done | decide | omega) | omega)).trans ((st_ne (Or.inr (by decide))).trans kn908)
                  have kn922 : N918.1 153 2 = zI z895 := (hFN918 153 2 (by first | decide | (dsimp only; first | done | decide | omega) | omega)).trans ((st_ne (Or.inr (by decide))).trans kn909)
                  have kn923 : N918.1 153 4 = zI z906 := (hFN918 153 4 (by first | decide | (dsimp only; first | done | decide | omega) | omega)).trans (st_at)
                  refine lv_goto (tgt := 264) hx hb dX12_readsRule_256 (by decide) ?_
                  obtain ⟨z924, bz924, ez924⟩ := IvR.ld (k := 16) hIN918 (show ivr 146 16 = (0, 1) from rfl) (show 146 ≤ 146 ∧ 146 < 159 by decide)
                  obtain ⟨z925, bz925, ez925⟩ := IvR.ld (k := 3) hIN918 (show ivr 153 3 = (-99, 300) from rfl) (by decide)
                  rw [hQ]
                  exact e_v F w hr hlocks ⟨⟨nz9190, nz9191, z924, (enz9190), (enz9191), (ez924), ⟨by omega, by omega⟩, ⟨by omega, by omega⟩, ⟨by omega, by omega⟩, (by omega)⟩, (fun h8 => by have h9 := (zI_eq (a := 3) (b := 8) (by constructor <;> omega) (by constructor <;> omega)).mp ((kn921).symm.trans h8); exact ⟨z925, by omega, by omega, ez925⟩), hIN918, hGN918⟩ dX12_readsRule_264
              · obtain ⟨z926, bz926, ez926⟩ := IvR.ld (k := 16) (IvR.to hIN905 (a := 153) (k := 4) (x := z906) (show ivr 153 4 = ((-99), 300) from rfl) ⟨by omega, by omega⟩ ⟨by decide, by decide, by decide, fun q9 => absurd q9 (by decide)⟩) (show ivr 146 16 = (0, 1) from rfl) (show 146 ≤ 146 ∧ 146 < 159 by decide)
                obtain ⟨z927, bz927, ez927⟩ := IvR.ld (k := 3) (IvR.to hIN905 (a := 153) (k := 4) (x := z906) (show ivr 153 4 = ((-99), 300) from rfl) ⟨by omega, by omega⟩ ⟨by decide, by decide, by decide, fun q9 => absurd q9 (by decide)⟩) (show ivr 153 3 = (-99, 300) from rfl) (by decide)
                rw [hQ]
                exact e_v F w hr hlocks ⟨⟨nz9060, nz9061, z926, ((st_ne (Or.inl (by decide))).trans enz9060), ((st_ne (Or.inl (by decide))).trans enz9061), (ez926), ⟨by omega, by omega⟩, ⟨by omega, by omega⟩, ⟨by omega, by omega⟩, (by omega)⟩, (fun h8 => by have h9 := (zI_eq (a := 3) (b := 8) (by constructor <;> omega) (by constructor <;> omega)).mp (((st_ne (Or.inr (by decide))).trans kn908).symm.trans h8); exact ⟨z927, by omega, by omega, ez927⟩), (IvR.to hIN905 (a := 153) (k := 4) (x := z906) (show ivr 153 4 = ((-99), 300) from rfl) ⟨by omega, by omega⟩ ⟨by decide, by decide, by decide, fun q9 => absurd q9 (by decide)⟩), (Fr.to hGN905 (by first | decide | (dsimp only; first | done | decide | omega) | omega))⟩ dX12_readsRule_243
            · refine lv_iload_n hx hb dX12_readsRule_216 rfl (lv_at hl 0 rfl) ?_
              refine k_Si F w (As := [.int (zI 3)]) (rest := []) (q_X12_isBySyllables (x := 3) ⟨by omega, by omega⟩  (IvR.to hIN905 (a := 153) (k := 4) (x := z906) (show ivr 153 4 = ((-99), 300) from rfl) ⟨by omega, by omega⟩ ⟨by decide, by decide, by decide, fun q9 => absurd q9 (by decide)⟩)) gs_X12_140 hs_X12_isBySyllables ⟨(Nat.le_of_ble_eq_true rfl), (Nat.le_of_ble_eq_true rfl)⟩ hl.1 rfl (Nat.le_of_ble_eq_true rfl) ⟨Nat.zero_le _, Nat.zero_le _⟩ dX12_readsRule_217 (fun r928 N929 H locs hp w => ?_)
              obtain ⟨z930, rfl, bz930, xz930, hMN929⟩ := hp
              rw [hMN929] at w
              refine z_if_ne (tgt := 236) hx hb (by omega) dX12_readsRule_220 (by decide) (fun c931 => False.elim (by omega)) (fun c931 => ?_)
              refine lv_aload_n hx hb dX12_readsRule_223 rfl (lv_at hl 1 rfl) ?_
              refine lv_bipush (v := zI 20) hx hb dX12_readsRule_224 (by decide) ?_
              refine k_Vi F w (As := [.int (zI 20)]) (rest := []) (a := 146) (kd_lt (a := 146) (show kd 146 = (12, 0, 0) from rfl) (by decide)) (sh_12 rfl _ _) rfl (q_X12_isWord (x := 20) ⟨by omega, by omega⟩  (IvR.to hIN905 (a := 153) (k := 4) (x := z906) (show ivr 153 4 = ((-99), 300) from rfl) ⟨by omega, by omega⟩ ⟨by decide, by decide, by decide, fun q9 => absurd q9 (by decide)⟩)) gv_X12_224 hv_X12_isWord ⟨(Nat.le_of_ble_eq_true rfl), (Nat.le_of_ble_eq_true rfl)⟩ hl.1 rfl (Nat.le_of_ble_eq_true rfl) ⟨Nat.zero_le _, Nat.zero_le _⟩ dX12_readsRule_226 (fun r932 N933 H locs hp w => ?_)
              obtain ⟨z934, rfl, bz934, hMN933⟩ := hp
              rw [hMN933] at w
              refine z_if_eq (tgt := 236) hx hb (by omega) dX12_readsRule_229 (by decide) (fun c935 => ?_) (fun c935 => ?_)
              · refine lv_aload_n hx hb dX12_readsRule_236 rfl (lv_at hl 1 rfl) ?_
                refine f_12_16 F w (a := 146) rfl tb_669 dX12_readsRule_237 ?_
                obtain ⟨z936, bz936, ez936⟩ := IvR.ld (k := 16) (IvR.to hIN905 (a := 153) (k := 4) (x := z906) (show ivr 153 4 = ((-99), 300) from rfl) ⟨by omega, by omega⟩ ⟨by decide, by decide, by decide, fun q9 => absurd q9 (by decide)⟩) (show ivr 146 16 = (0, 1) from rfl) (show 146 ≤ 146 ∧ 146 < 159 by decide)
                refine r_val ez936 ?_
                refine z_if_eq (tgt := 244) hx hb (by omega) dX12_readsRule_240 (by decide) (fun c937 => ?_) (fun c937 => ?_)
                · refine lv_aload_n hx hb dX12_readsRule_244 rfl (lv_at hl 1 rfl) ?_
                  refine f_12_13 F w (a := 146) rfl tb_602 dX12_readsRule_245 ?_
                  refine r_val (v := zI nz9060) ((st_ne (Or.inl (by decide))).trans enz9060) ?_
                  refine lv_iconst (v := zI 3) hx hb dX12_readsRule_248 rfl ?_
                  refine z_icmp_ne (tgt := 259) hx hb (by omega) (by omega) dX12_readsRule_249 (by decide) (fun c938 => ?_) (fun c938 => ?_)
                  · refine lv_aload_n hx hb dX12_readsRule_259 rfl (lv_at hl 1 rfl) ?_
                    refine lv_iconst (v := zI 1) hx hb dX12_readsRule_260 rfl ?_
                    refine u_12_16 F w (a := 146) rfl (nar_z (by omega)) (fit_z (by omega)) tb_669 dX12_readsRule_261 (fun H locs w => ?_)
                    obtain ⟨z939, bz939, ez939⟩ := IvR.ld (k := 3) (IvR.to (IvR.to hIN905 (a := 153) (k := 4) (x := z906) (show ivr 153 4 = ((-99), 300) from rfl) ⟨by omega, by omega⟩ ⟨by decide, by decide, by decide, fun q9 => absurd q9 (by decide)⟩) (a := 146) (k := 16) (x := 1) (show ivr 146 16 = (0, 1) from rfl) ⟨by omega, by omega⟩ ⟨by decide, by decide, by decide, fun q9 => absurd q9 (by decide)⟩) (show ivr 153 3 = (-99, 300) from rfl) (by decide)
                    rw [hQ]
                    exact e_v F w hr hlocks ⟨⟨nz9060, nz9061, 1, ((st_ne (Or.inr (by decide))).trans ((st_ne (Or.inl (by decide))).trans enz9060)), ((st_ne (Or.inr (by decide))).trans ((st_ne (Or.inl (by decide))).trans enz9061)), (st_at), ⟨by omega, by omega⟩, ⟨by omega, by omega⟩, ⟨by omega, by omega⟩, (by omega)⟩, (fun h8 => by have h9 := (zI_eq (a := 3) (b := 8) (by constructor <;> omega) (by constructor <;> omega)).mp (((st_ne (Or.inl (by decide))).trans ((st_ne (Or.inr (by decide))).trans kn908)).symm.trans h8); exact ⟨z939, by omega, by omega, ez939⟩), (IvR.to (IvR.to hIN905 (a := 153) (k := 4) (x := z906) (show ivr 153 4 = ((-99), 300) from rfl) ⟨by omega, by omega⟩ ⟨by decide, by decide, by decide, fun q9 => absurd q9 (by decide)⟩) (a := 146) (k := 16) (x := 1) (show ivr 146 16 = (0, 1) from rfl) ⟨by omega, by omega⟩ ⟨by decide, by decide, by decide, fun q9 => absurd q9 (by decide)⟩), (Fr.to (Fr.to hGN905 (by first | decide | (dsimp only; first | done | decide | omega) | omega)) (by first | decide | (dsimp only; first | done | decide | omega) | omega))⟩ dX12_readsRule_264
                  · refine lv_aload_n hx hb dX12_readsRule_252 rfl (lv_at hl 1 rfl) ?_
                    refine k_Vv F w (As := []) (rest := []) (a := 146) (kd_lt (a := 146) (show kd 146 = (12, 0, 0) from rfl) (by decide)) (sh_12 rfl _ _) rfl (q_X12_goesOn   (IvR.to hIN905 (a := 153) (k := 4) (x := z906) (show ivr 153 4 = ((-99), 300) from rfl) ⟨by omega, by omega⟩ ⟨by decide, by decide, by decide, fun q9 => absurd q9 (by decide)⟩)) gv_X12_221 hv_X12_goesOn ⟨(Nat.le_of_ble_eq_true rfl), (Nat.le_of_ble_eq_true rfl)⟩ hl.1 rfl (Nat.le_of_ble_eq_true rfl) ⟨Nat.zero_le _, Nat.zero_le _⟩ dX12_readsRule_253 (fun N941 H locs hp w => ?_)
                    obtain ⟨⟨nz9420, nz9421, enz9420, enz9421, xz942⟩, hIN941, hFN941⟩ := hp
                    have hGN941 := Fr.tr (Fr.to hGN905 (by first | decide | (dsimp only; first | done | decide | omega) | omega)) hFN941 (S := (fun b9 k9 => (b9 = 146 ∧ k9 = 11) ∨ (b9 = 146 ∧ k9 = 13) ∨ (b9 = 146 ∧ k9 = 14) ∨ (b9 = 146 ∧ k9 = 15) ∨ (b9 = 146 ∧ k9 = 16) ∨ (b9 = 146 ∧ k9 = 9) ∨ b9 = 153)) (fun b k h => by (try dsimp only at h ⊢); rcases h with ⟨rfl, rfl⟩ | ⟨rfl, rfl⟩ | ⟨rfl, rfl⟩ | ⟨rfl, rfl⟩ | ⟨rfl, rfl⟩ <;> first | decide | omega)
                    have kn943 : N941.1 153 1 = zI 1 := (hFN941 153 1 (by first | decide | (dsimp only; first | done | decide | omega) | omega)).trans ((st_ne (Or.inr (by decide))).trans kn907)
                    have kn944 : N941.1 153 0 = zI 3 := (hFN941 153 0 (by first | decide | (dsimp only; first | done | decide | omega) | omega)).trans ((st_ne (Or.inr (by decide))).trans kn908)
                    have kn945 : N941.1 153 2 = zI z895 := (hFN941 153 2 (by first | decide | (dsimp only; first | done | decide | omega) | omega)).trans ((st_ne (Or.inr (by decide))).trans kn909)
                    have kn946 : N941.1 153 4 = zI z906 := (hFN941 153 4 (by first | decide | (dsimp only; first | done | decide | omega) | omega)).trans (st_at)
                    refine lv_goto (tgt := 264) hx hb dX12_readsRule_256 (by decide) ?_
                    obtain ⟨z947, bz947, ez947⟩ := IvR.ld (k := 16) hIN941 (show ivr 146 16 = (0, 1) from rfl) (show 146 ≤ 146 ∧ 146 < 159 by decide)
                    obtain ⟨z948, bz948, ez948⟩ := IvR.ld (k := 3) hIN941 (show ivr 153 3 = (-99, 300) from rfl) (by decide)
                    rw [hQ]
                    exact e_v F w hr hlocks ⟨⟨nz9420, nz9421, z947, (enz9420), (enz9421), (ez947), ⟨by omega, by omega⟩, ⟨by omega, by omega⟩, ⟨by omega, by omega⟩, (by omega)⟩, (fun h8 => by have h9 := (zI_eq (a := 3) (b := 8) (by constructor <;> omega) (by constructor <;> omega)).mp ((kn944).symm.trans h8); exact ⟨z948, by omega, by omega, ez948⟩), hIN941, hGN941⟩ dX12_readsRule_264
                · obtain ⟨z949, bz949, ez949⟩ := IvR.ld (k := 16) (IvR.to hIN905 (a := 153) (k := 4) (x := z906) (show ivr 153 4 = ((-99), 300) from rfl) ⟨by omega, by omega⟩ ⟨by decide, by decide, by decide, fun q9 => absurd q9 (by decide)⟩) (show ivr 146 16 = (0, 1) from rfl) (show 146 ≤ 146 ∧ 146 < 159 by decide)
                  obtain ⟨z950, bz950, ez950⟩ := IvR.ld (k := 3) (IvR.to hIN905 (a := 153) (k := 4) (x := z906) (show ivr 153 4 = ((-99), 300) from rfl) ⟨by omega, by omega⟩ ⟨by decide, by decide, by decide, fun q9 => absurd q9 (by decide)⟩) (show ivr 153 3 = (-99, 300) from rfl) (by decide)
                  rw [hQ]
                  exact e_v F w hr hlocks ⟨⟨nz9060, nz9061, z949, ((st_ne (Or.inl (by decide))).trans enz9060), ((st_ne (Or.inl (by decide))).trans enz9061), (ez949), ⟨by omega, by omega⟩, ⟨by omega, by omega⟩, ⟨by omega, by omega⟩, (by omega)⟩, (fun h8 => by have h9 := (zI_eq (a := 3) (b := 8) (by constructor <;> omega) (by constructor <;> omega)).mp (((st_ne (Or.inr (by decide))).trans kn908).symm.trans h8); exact ⟨z950, by omega, by omega, ez950⟩), (IvR.to hIN905 (a := 153) (k := 4) (x := z906) (show ivr 153 4 = ((-99), 300) from rfl) ⟨by omega, by omega⟩ ⟨by decide, by decide, by decide, fun q9 => absurd q9 (by decide)⟩), (Fr.to hGN905 (by first | decide | (dsimp only; first | done | decide | omega) | omega))⟩ dX12_readsRule_243
              · refine lv_aload_n hx hb dX12_readsRule_232 rfl (lv_at hl 1 rfl) ?_
                refine k_Vv F w (As := []) (rest := []) (a := 146) (kd_lt (a := 146) (show kd 146 = (12, 0, 0) from rfl) (by decide)) (sh_12 rfl _ _) rfl (q_X12_readsTest   (IvR.to hIN905 (a := 153) (k := 4) (x := z906) (show ivr 153 4 = ((-99), 300) from rfl) ⟨by omega, by omega⟩ ⟨by decide, by decide, by decide, fun q9 => absurd q9 (by decide)⟩)) gv_X12_233 hv_X12_readsTest ⟨(Nat.le_of_ble_eq_true rfl), (Nat.le_of_ble_eq_true rfl)⟩ hl.1 rfl (Nat.le_of_ble_eq_true rfl) ⟨Nat.zero_le _, Nat.zero_le _⟩ dX12_readsRule_233 (fun N952 H locs hp w => ?_)
                obtain ⟨⟨nz9530, nz9531, enz9530, enz9531, xz953⟩, hIN952, hFN952⟩ := hp
                have hGN952 := Fr.tr (Fr.to hGN905 (by first | decide | (dsimp only; first | done | decide | omega) | omega)) hFN952 (S := (fun b9 k9 => (b9 = 146 ∧ k9 = 11) ∨ (b9 = 146 ∧ k9 = 13) ∨ (b9 = 146 ∧ k9 = 14) ∨ (b9 = 146 ∧ k9 = 15) ∨ (b9 = 146 ∧ k9 = 16) ∨ (b9 = 146 ∧ k9 = 9) ∨ b9 = 153)) (fun b k h => by (try dsimp only at h ⊢); rcases h with ⟨rfl, rfl⟩ | ⟨rfl, rfl⟩ | ⟨rfl, rfl⟩ | ⟨rfl, rfl⟩ | ⟨rfl, rfl⟩ | ⟨rfl, rfl⟩ | ⟨rfl, q1, q2⟩ | ⟨rfl, q1, q2⟩ | ⟨rfl, q1, q2⟩ <;> first | decide | omega)
                have kn954 : N952.1 153 1 = zI 1 := (hFN952 153 1 (by first | decide | (dsimp only; first | done | decide | omega) | omega)).trans ((st_ne (Or.inr (by decide))).trans kn907)
                have kn955 : N952.1 153 0 = zI 3 := (hFN952 153 0 (by first | decide | (dsimp only; first | done | decide | omega) | omega)).trans ((st_ne (Or.inr (by decide))).trans kn908)
                have kn956 : N952.1 153 2 = zI z895 := (hFN952 153 2 (by first | decide | (dsimp only; first | done | decide | omega) | omega)).trans ((st_ne (Or.inr (by decide))).trans kn909)
                have kn957 : N952.1 153 4 = zI z906 := (hFN952 153 4 (by first | decide | (dsimp only; first | done | decide | omega) | omega)).trans (st_at)
                refine lv_aload_n hx hb dX12_readsRule_236 rfl (lv_at hl 1 rfl) ?_
                refine f_12_16 F w (a := 146) rfl tb_669 dX12_readsRule_237 ?_
                obtain ⟨z958, bz958, ez958⟩ := IvR.ld (k := 16) hIN952 (show ivr 146 16 = (0, 1) from rfl) (show 146 ≤ 146 ∧ 146 < 159 by decide)
                refine r_val ez958 ?_
                refine z_if_eq (tgt := 244) hx hb (by omega) dX12_readsRule_240 (by decide) (fun c959 => ?_) (fun c959 => ?_)
                · refine lv_aload_n hx hb dX12_readsRule_244 rfl (lv_at hl 1 rfl) ?_
                  refine f_12_13 F w (a := 146) rfl tb_602 dX12_readsRule_245 ?_
                  refine r_val (v := zI nz9530) (enz9530) ?_
                  refine lv_iconst (v := zI 3) hx hb dX12_readsRule_248 rfl ?_
                  refine z_icmp_ne (tgt := 259) hx hb (by omega) (by omega) dX12_readsRule_249 (by decide) (fun c960 => ?_) (fun c960 => ?_)
                  · refine lv_aload_n hx hb dX12_readsRule_259 rfl (lv_at hl 1 rfl) ?_
                    refine lv_iconst (v := zI 1) hx hb dX12_readsRule_260 rfl ?_
                    refine u_12_16 F w (a := 146) rfl (nar_z (by omega)) (fit_z (by omega)) tb_669 dX12_readsRule_261 (fun H locs w => ?_)
                    obtain ⟨z961, bz961, ez961⟩ := IvR.ld (k := 3) (IvR.to hIN952 (a := 146) (k := 16) (x := 1) (show ivr 146 16 = (0, 1) from rfl) ⟨by omega, by omega⟩ ⟨by decide, by decide, by decide, fun q9 => absurd q9 (by decide)⟩) (show ivr 153 3 = (-99, 300) from rfl) (by decide)
                    rw [hQ]
                    exact e_v F w hr hlocks ⟨⟨nz9530, nz9531, 1, ((st_ne (Or.inr (by decide))).trans enz9530), ((st_ne (Or.inr (by decide))).trans enz9531), (st_at), ⟨by omega, by omega⟩, ⟨by omega, by omega⟩, ⟨by omega, by omega⟩, (by omega)⟩, (fun h8 => by have h9 := (zI_eq (a := 3) (b := 8) (by constructor <;> omega) (by constructor <;> omega)).mp (((st_ne (Or.inl (by decide))).trans kn955).symm.trans h8); exact ⟨z961, by omega, by omega, ez961⟩), (IvR.to hIN952 (a := 146) (k := 16) (x := 1) (show ivr 146 16 = (0, 1) from rfl) ⟨by omega, by omega⟩ ⟨by decide, by decide, by decide, fun q9 => absurd q9 (by decide)⟩), (Fr.to hGN952 (by first | decide | (dsimp only; first | done | decide | omega) | omega))⟩ dX12_readsRule_264
                  · refine lv_aload_n hx hb dX12_readsRule_252 rfl (lv_at hl 1 rfl) ?_
                    refine k_Vv F w (As := []) (rest := []) (a := 146) (kd_lt (a := 146) (show kd 146 = (12, 0, 0) from rfl) (by decide)) (sh_12 rfl _ _) rfl (q_X12_goesOn   hIN952) gv_X12_221 hv_X12_goesOn ⟨(Nat.le_of_ble_eq_true rfl), (Nat.le_of_ble_eq_true rfl)⟩ hl.1 rfl (Nat.le_of_ble_eq_true rfl) ⟨Nat.zero_le _, Nat.zero_le _⟩ dX12_readsRule_253 (fun N963 H locs hp w => ?_)
                    obtain ⟨⟨nz9640, nz9641, enz9640, enz9641, xz964⟩, hIN963, hFN963⟩ := hp
                    have hGN963 := Fr.tr hGN952 hFN963 (S := (fun b9 k9 => (b9 = 146 ∧ k9 = 11) ∨ (b9 = 146 ∧ k9 = 13) ∨ (b9 = 146 ∧ k9 = 14) ∨ (b9 = 146 ∧ k9 = 15) ∨ (b9 = 146 ∧ k9 = 16) ∨ (b9 = 146 ∧ k9 = 9) ∨ b9 = 153)) (fun b k h => by (try dsimp only at h ⊢); rcases h with ⟨rfl, rfl⟩ | ⟨rfl, rfl⟩ | ⟨rfl, rfl⟩ | ⟨rfl, rfl⟩ | ⟨rfl, rfl⟩ <;> first | decide | omega)
                    have kn965 : N963.1 153 1 = zI 1 := (hFN963 153 1 (by first | decide | (dsimp only; first | done | decide | omega) | omega)).trans (kn954)
                    have kn966 : N963.1 153 0 = zI 3 := (hFN963 153 0 (by first | decide | (dsimp only; first | done | decide | omega) | omega)).trans (kn955)
                    have kn967 : N963.1 153 2 = zI z895 := (hFN963 153 2 (by first | decide | (dsimp only; first | done | decide | omega) | omega)).trans (kn956)
                    have kn968 : N963.1 153 4 = zI z906 := (hFN963 153 4 (by first | decide | (dsimp only; first | done | decide | omega) | omega)).trans (kn957)
                    have kn969 : N963.1 146 16 = zI z958 := (hFN963 146 16 (by first | decide | (dsimp only; first | done | decide | omega) | omega)).trans (ez958)
                    refine lv_goto (tgt := 264) hx hb dX12_readsRule_256 (by decide) ?_
                    obtain ⟨z970, bz970, ez970⟩ := IvR.ld (k := 3) hIN963 (show ivr 153 3 = (-99, 300) from rfl) (by decide)
                    rw [hQ]
                    exact e_v F w hr hlocks ⟨⟨nz9640, nz9641, z958, (enz9640), (enz9641), (kn969), ⟨by omega, by omega⟩, ⟨by omega, by omega⟩, ⟨by omega, by omega⟩, (by omega)⟩, (fun h8 => by have h9 := (zI_eq (a := 3) (b := 8) (by constructor <;> omega) (by constructor <;> omega)).mp ((kn966).symm.trans h8); exact ⟨z970, by omega, by omega, ez970⟩), hIN963, hGN963⟩ dX12_readsRule_264
                · obtain ⟨z971, bz971, ez971⟩ := IvR.ld (k := 3) hIN952 (show ivr 153 3 = (-99, 300) from rfl) (by decide)
                  rw [hQ]
                  exact e_v F w hr hlocks ⟨⟨nz9530, nz9531, z958, (enz9530), (enz9531), (ez958), ⟨by omega, by omega⟩, ⟨by omega, by omega⟩, ⟨by omega, by omega⟩, (by omega)⟩, (fun h8 => by have h9 := (zI_eq (a := 3) (b := 8) (by constructor <;> omega) (by constructor <;> omega)).mp ((kn955).symm.trans h8); exact ⟨z971, by omega, by omega, ez971⟩), hIN952, hGN952⟩ dX12_readsRule_243
          · refine lv_istore_n (lv' := [(1, .int (zI 4)), (0, .ref (B + 146))]) hx hb dX12_readsRule_63 rfl hl (by decide) rfl (fun ls hl => ?_)
            refine lv_aload_n hx hb dX12_readsRule_64 rfl (lv_at hl 1 rfl) ?_
            refine f_12_17 F w (a := 146) rfl tb_676 dX12_readsRule_65 ?_
            refine lv_iconst (v := zI 0) hx hb dX12_readsRule_68 rfl ?_
            refine lv_iload_n hx hb dX12_readsRule_69 rfl (lv_at hl 0 rfl) ?_
            refine g_iast F w (a := 153) rfl (j := 0) ⟨by decide, by decide⟩ (by omega) dX12_readsRule_70 (fun H locs w => ?_)
            refine lv_iload_n hx hb dX12_readsRule_71 rfl (lv_at hl 0 rfl) ?_
            refine lv_bipush (v := zI 8) hx hb dX12_readsRule_72 (by decide) ?_
            refine z_icmp_ne (tgt := 90) hx hb (by omega) (by omega) dX12_readsRule_74 (by decide) (fun c972 => ?_) (fun c972 => False.elim (by omega))
            refine lv_iload_n hx hb dX12_readsRule_90 rfl (lv_at hl 0 rfl) ?_
            refine z_if_eq (tgt := 119) hx hb (by omega) dX12_readsRule_91 (by decide) (fun c973 => False.elim (by omega)) (fun c973 => ?_)
            refine lv_aload_n hx hb dX12_readsRule_94 rfl (lv_at hl 1 rfl) ?_
            refine f_12_17 F w (a := 146) rfl tb_676 dX12_readsRule_95 ?_
            refine lv_iconst (v := zI 2) hx hb dX12_readsRule_98 rfl ?_
            refine lv_aload_n hx hb dX12_readsRule_99 rfl (lv_at hl 1 rfl) ?_
            refine lv_bipush (v := zI 11) hx hb dX12_readsRule_100 (by decide) ?_
            refine lv_iload_n hx hb dX12_readsRule_102 rfl (lv_at hl 0 rfl) ?_
            refine lv_bipush (v := zI 9) hx hb dX12_readsRule_103 (by decide) ?_
            refine z_icmp_ne (tgt := 113) hx hb (by omega) (by omega) dX12_readsRule_105 (by decide) (fun c974 => ?_) (fun c974 => False.elim (by omega))
            refine lv_bipush (v := zI 14) hx hb dX12_readsRule_113 (by decide) ?_
            refine k_Vi F w (As := [.int (zI 11), .int (zI 14)]) (rest := [.int (zI 2), .ref (B + 153)]) (a := 146) (kd_lt (a := 146) (show kd 146 = (12, 0, 0) from rfl) (by decide)) (sh_12 rfl _ _) rfl (q_X12_needs (x := 11) ⟨by omega, by omega⟩ (x1 := 14) ⟨by omega, by omega⟩ (tk := nz6710) ((st_ne (Or.inl (by decide))).trans enz6710) ⟨by omega, by omega⟩ (nb := nz6711) ((st_ne (Or.inl (by decide))).trans enz6711) ⟨by omega, by omega⟩ (by omega) (IvR.to hIN670 (a := 153) (k := 0) (x := 4) (show ivr 153 0 = ((-99), 300) from rfl) ⟨by omega, by omega⟩ ⟨by decide, by decide, by decide, fun q9 => absurd q9 (by decide)⟩)) gv_X12_227 hv_X12_needs ⟨(Nat.le_of_ble_eq_true rfl), (Nat.le_of_ble_eq_true rfl)⟩ hl.1 rfl (Nat.le_of_ble_eq_true rfl) ⟨Nat.zero_le _, Nat.zero_le _⟩ dX12_readsRule_115 (fun r975 N976 H locs hp w => ?_)
            obtain ⟨z977, rfl, bz977, ⟨nz9770, nz9771, enz9770, enz9771, xz977⟩, hIN976, hFN976⟩ := hp
            have hGN976 := Fr.tr (Fr.to hGN670 (by first | decide | (dsimp only; first | done | decide | omega) | omega)) hFN976 (S := (fun b9 k9 => (b9 = 146 ∧ k9 = 11) ∨ (b9 = 146 ∧ k9 = 13) ∨ (b9 = 146 ∧ k9 = 14) ∨ (b9 = 146 ∧ k9 = 15) ∨ (b9 = 146 ∧ k9 = 16) ∨ (b9 = 146 ∧ k9 = 9) ∨ b9 = 153)) (fun b k h => by (try dsimp only at h ⊢); rcases h with ⟨rfl, rfl⟩ | ⟨rfl, rfl⟩ | ⟨rfl, rfl⟩ | ⟨rfl, rfl⟩ | ⟨rfl, rfl⟩ | ⟨rfl, rfl⟩ <;> first | decide | omega)
            have kn978 : N976.1 153 1 = zI 1 := (hFN976 153 1 (by first | decide | (dsimp only; first | done | decide | omega) | omega)).trans ((st_ne (Or.inr (by decide))).trans kn672)
            have kn979 : N976.1 153 0 = zI 4 := (hFN976 153 0 (by first | decide | (dsimp only; first | done | decide | omega) | omega)).trans (st_at)
            refine g_iast F w (a := 153) rfl (j := 2) ⟨by decide, by decide⟩ (by omega) dX12_readsRule_118 (fun H locs w => ?_)
            refine lv_iload_n hx hb dX12_readsRule_119 rfl (lv_at hl 0 rfl) ?_
            refine lv_bipush (v := zI 7) hx hb dX12_readsRule_120 (by decide) ?_
            refine z_icmp_ne (tgt := 148) hx hb (by omega) (by omega) dX12_readsRule_122 (by decide) (fun c980 => ?_) (fun c980 => False.elim (by omega))
            refine lv_iload_n hx hb dX12_readsRule_148 rfl (lv_at hl 0 rfl) ?_
            refine k_Si F w (As := [.int (zI 4)]) (rest := []) (q_X12_hasSide (x := 4) ⟨by omega, by omega⟩  (IvR.to hIN976 (a := 153) (k := 2) (x := z977) (show ivr 153 2 = ((-99), 300) from rfl) ⟨by omega, by omega⟩ ⟨by decide, by decide, by decide, fun q9 => absurd q9 (by decide)⟩)) gs_X12_137 hs_X12_hasSide ⟨(Nat.le_of_ble_eq_true rfl), (Nat.le_of_ble_eq_true rfl)⟩ hl.1 rfl (Nat.le_of_ble_eq_true rfl) ⟨Nat.zero_le _, Nat.zero_le _⟩ dX12_readsRule_149 (fun r981 N982 H locs hp w => ?_)
            obtain ⟨z983, rfl, bz983, xz983, hMN982⟩ := hp
            rw [hMN982] at w
            refine z_if_eq (tgt := 169) hx hb (by omega) dX12_readsRule_152 (by decide) (fun c984 => False.elim (by omega)) (fun c984 => ?_)
            refine lv_aload_n hx hb dX12_readsRule_155 rfl (lv_at hl 1 rfl) ?_
            refine f_12_17 F w (a := 146) rfl tb_676 dX12_readsRule_156 ?_
            refine lv_iconst (v := zI 4) hx hb dX12_readsRule_159 rfl ?_
            refine lv_aload_n hx hb dX12_readsRule_160 rfl (lv_at hl 1 rfl) ?_
            refine lv_bipush (v := zI 15) hx hb dX12_readsRule_161 (by decide) ?_
            refine lv_bipush (v := zI 16) hx hb dX12_readsRule_163 (by decide) ?_
            refine k_Vi F w (As := [.int (zI 15), .int (zI 16)]) (rest := [.int (zI 4), .ref (B + 153)]) (a := 146) (kd_lt (a := 146) (show kd 146 = (12, 0, 0) from rfl) (by decide)) (sh_12 rfl _ _) rfl (q_X12_needs (x := 15) ⟨by omega, by omega⟩ (x1 := 16) ⟨by omega, by omega⟩ (tk := nz9770) ((st_ne (Or.inl (by decide))).trans enz9770) ⟨by omega, by omega⟩ (nb := nz9771) ((st_ne (Or.inl (by decide))).trans enz9771) ⟨by omega, by omega⟩ (by omega) (IvR.to hIN976 (a := 153) (k := 2) (x := z977) (show ivr 153 2 = ((-99), 300) from rfl) ⟨by omega, by omega⟩ ⟨by decide, by decide, by decide, fun q9 => absurd q9 (by decide)⟩)) gv_X12_227 hv_X12_needs ⟨(Nat.le_of_ble_eq_true rfl), (Nat.le_of_ble_eq_true rfl)⟩ hl.1 rfl (Nat.le_of_ble_eq_true rfl) ⟨Nat.zero_le _, Nat.zero_le _⟩ dX12_readsRule_165 (fun r985 N986 H locs hp w => ?_)
            obtain ⟨z987, rfl, bz987, ⟨nz9870, nz9871, enz9870, enz9871, xz987⟩, hIN986, hFN986⟩ := hp
            have hGN986 := Fr.tr (Fr.to hGN976 (by first | decide | (dsimp only; first | done | decide | omega) | omega)) hFN986 (S := (fun b9 k9 => (b9 = 146 ∧ k9 = 11) ∨ (b9 = 146 ∧ k9 = 13) ∨ (b9 = 146 ∧ k9 = 14) ∨ (b9 = 146 ∧ k9 = 15) ∨ (b9 = 146 ∧ k9 = 16) ∨ (b9 = 146 ∧ k9 = 9) ∨ b9 = 153)) (fun b k h => by (try dsimp only at h ⊢); rcases h with ⟨rfl, rfl⟩ | ⟨rfl, rfl⟩ | ⟨rfl, rfl⟩ | ⟨rfl, rfl⟩ | ⟨rfl, rfl⟩ | ⟨rfl, rfl⟩ <;> first | decide | omega)
            have kn988 : N986.1 153 1 = zI 1 := (hFN986 153 1 (by first | decide | (dsimp only; first | done | decide | omega) | omega)).trans ((st_ne (Or.inr (by decide))).trans kn978)
            have kn989 : N986.1 153 0 = zI 4 := (hFN986 153 0 (by first | decide | (dsimp only; first | done | decide | omega) | omega)).trans ((st_ne (Or.inr (by decide))).trans kn979)
            have kn990 : N986.1 153 2 = zI z977 := (hFN986 153 2 (by first | decide | (dsimp only; first | done | decide | omega) | omega)).trans (st_at)
            refine g_iast F w (a := 153) rfl (j := 4) ⟨by decide, by decide⟩ (by omega) dX12_readsRule_168 (fun H locs w => ?_)
            refine lv_iload_n hx hb dX12_readsRule_169 rfl (lv_at hl 0 rfl) ?_
            refine lv_iconst (v := zI 3) hx hb dX12_readsRule_170 rfl ?_
            refine z_icmp_eq (tgt := 180) hx hb (by omega) (by omega) dX12_readsRule_171 (by decide) (fun c991 => False.elim (by omega)) (fun c991 => ?_)
            refine lv_iload_n hx hb dX12_readsRule_174 rfl (lv_at hl 0 rfl) ?_
            refine lv_bipush (v := zI 8) hx hb dX12_readsRule_175 (by decide) ?_
            refine z_icmp_ne (tgt := 194) hx hb (by omega) (by omega) dX12_readsRule_177 (by decide) (fun c992 => ?_) (fun c992 => False.elim (by omega))
            refine lv_iload_n hx hb dX12_readsRule_194 rfl (lv_at hl 0 rfl) ?_
            refine lv_iconst (v := zI 1) hx hb dX12_readsRule_195 rfl ?_
            refine z_icmp_ne (tgt := 209) hx hb (by omega) (by omega) dX12_readsRule_196 (by decide) (fun c993 => ?_) (fun c993 => False.elim (by omega))
            refine lv_aload_n hx hb dX12_readsRule_209 rfl (lv_at hl 1 rfl) ?_
            refine f_12_16 F w (a := 146) rfl tb_669 dX12_readsRule_210 ?_
            obtain ⟨z994, bz994, ez994⟩ := IvR.ld (k := 16) (IvR.to hIN986 (a := 153) (k := 4) (x := z987) (show ivr 153 4 = ((-99), 300) from rfl) ⟨by omega, by omega⟩ ⟨by decide, by decide, by decide, fun q9 => absurd q9 (by decide)⟩) (show ivr 146 16 = (0, 1) from rfl) (show 146 ≤ 146 ∧ 146 < 159 by decide)
            refine r_val ez994 ?_
            refine z_if_ne (tgt := 236) hx hb (by omega) dX12_readsRule_213 (by decide) (fun c995 => ?_) (fun c995 => ?_)
            · refine lv_aload_n hx hb dX12_readsRule_236 rfl (lv_at hl 1 rfl) ?_
              refine f_12_16 F w (a := 146) rfl tb_669 dX12_readsRule_237 ?_
              obtain ⟨z996, bz996, ez996⟩ := IvR.ld (k := 16) (IvR.to hIN986 (a := 153) (k := 4) (x := z987) (show ivr 153 4 = ((-99), 300) from rfl) ⟨by omega, by omega⟩ ⟨by decide, by decide, by decide, fun q9 => absurd q9 (by decide)⟩) (show ivr 146 16 = (0, 1) from rfl) (show 146 ≤ 146 ∧ 146 < 159 by decide)
              refine r_val ez996 ?_
              refine z_if_eq (tgt := 244) hx hb (by omega) dX12_readsRule_240 (by decide) (fun c997 => ?_) (fun c997 => ?_)
              · refine lv_aload_n hx hb dX12_readsRule_244 rfl (lv_at hl 1 rfl) ?_
                refine f_12_13 F w (a := 146) rfl tb_602 dX12_readsRule_245 ?_
                refine r_val (v := zI nz9870) ((st_ne (Or.inl (by decide))).trans enz9870) ?_
                refine lv_iconst (v := zI 3) hx hb dX12_readsRule_248 rfl ?_
                refine z_icmp_ne (tgt := 259) hx hb (by omega) (by omega) dX12_readsRule_249 (by decide) (fun c998 => ?_) (fun c998 => ?_)
                · refine lv_aload_n hx hb dX12_readsRule_259 rfl (lv_at hl 1 rfl) ?_
                  refine lv_iconst (v := zI 1) hx hb dX12_readsRule_260 rfl ?_
                  refine u_12_16 F w (a := 146) rfl (nar_z (by omega)) (fit_z (by omega)) tb_669 dX12_readsRule_261 (fun H locs w => ?_)
                  obtain ⟨z999, bz999, ez999⟩ := IvR.ld (k := 3) (IvR.to (IvR.to hIN986 (a := 153) (k := 4) (x := z987) (show ivr 153 4 = ((-99), 300) from rfl) ⟨by omega, by omega⟩ ⟨by decide, by decide, by decide, fun q9 => absurd q9 (by decide)⟩) (a := 146) (k := 16) (x := 1) (show ivr 146 16 = (0, 1) from rfl) ⟨by omega, by omega⟩ ⟨by decide, by decide, by decide, fun q9 => absurd q9 (by decide)⟩) (show ivr 153 3 = (-99, 300) from rfl) (by decide)
                  rw [hQ]
                  exact e_v F w hr hlocks ⟨⟨nz9870, nz9871, 1, ((st_ne (Or.inr (by decide))).trans ((st_ne (Or.inl (by decide))).trans enz9870)), ((st_ne (Or.inr (by decide))).trans ((st_ne (Or.inl (by decide))).trans enz9871)), (st_at), ⟨by omega, by omega⟩, ⟨by omega, by omega⟩, ⟨by omega, by omega⟩, (by omega)⟩, (fun h8 => by have h9 := (zI_eq (a := 4) (b := 8) (by constructor <;> omega) (by constructor <;> omega)).mp (((st_ne (Or.inl (by decide))).trans ((st_ne (Or.inr (by decide))).trans kn989)).symm.trans h8); exact ⟨z999, by omega, by omega, ez999⟩), (IvR.to (IvR.to hIN986 (a := 153) (k := 4) (x := z987) (show ivr 153 4 = ((-99), 300) from rfl) ⟨by omega, by omega⟩ ⟨by decide, by decide, by decide, fun q9 => absurd q9 (by decide)⟩) (a := 146) (k := 16) (x := 1) (show ivr 146 16 = (0, 1) from rfl) ⟨by omega, by omega⟩ ⟨by decide, by decide, by decide, fun q9 => absurd q9 (by decide)⟩), (Fr.to (Fr.to hGN986 (by first | decide | (dsimp only; first | done | decide | omega) | omega)) (by first | decide | (dsimp only; first | done | decide | omega) | omega))⟩ dX12_readsRule_264
                · refine lv_aload_n hx hb dX12_readsRule_252 rfl (lv_at hl 1 rfl) ?_
                  refine k_Vv F w (As := []) (rest := []) (a := 146) (kd_lt (a := 146) (show kd 146 = (12, 0, 0) from rfl) (by decide)) (sh_12 rfl _ _) rfl (q_X12_goesOn   (IvR.to hIN986 (a := 153) (k := 4) (x := z987) (show ivr 153 4 = ((-99), 300) from rfl) ⟨by omega, by omega⟩ ⟨by decide, by decide, by decide, fun q9 => absurd q9 (by decide)⟩)) gv_X12_221 hv_X12_goesOn ⟨(Nat.le_of_ble_eq_true rfl), (Nat.le_of_ble_eq_true rfl)⟩ hl.1 rfl (Nat.le_of_ble_eq_true rfl) ⟨Nat.zero_le _, Nat.zero_le _⟩ dX12_readsRule_253 (fun N1001 H locs hp w => ?_)
                  obtain ⟨⟨nz10020, nz10021, enz10020, enz10021, xz1002⟩, hIN1001, hFN1001⟩ := hp
                  have hGN1001 := Fr.tr (Fr.to hGN986 (by first | decide | (dsimp only; first | done | decide | omega) | omega)) hFN1001 (S := (fun b9 k9 => (b9 = 146 ∧ k9 = 11) ∨ (b9 = 146 ∧ k9 = 13) ∨ (b9 = 146 ∧ k9 = 14) ∨ (b9 = 146 ∧ k9 = 15) ∨ (b9 = 146 ∧ k9 = 16) ∨ (b9 = 146 ∧ k9 = 9) ∨ b9 = 153)) (fun b k h => by (try dsimp only at h ⊢); rcases h with ⟨rfl, rfl⟩ | ⟨rfl, rfl⟩ | ⟨rfl, rfl⟩ | ⟨rfl, rfl⟩ | ⟨rfl, rfl⟩ <;> first | decide | omega)
                  have kn1003 : N1001.1 153 1 = zI 1 := (hFN1001 153 1 (by first | decide | (dsimp only; first | done | decide | omega) | omega)).trans ((st_ne (Or.inr (by decide))).trans kn988)
                  have kn1004 : N1001.1 153 0 = zI 4 := (hFN1001 153 0 (by first | decide | (dsimp only; first | done | decide | omega) | omega)).trans ((st_ne (Or.inr (by decide))).trans kn989)
                  have kn1005 : N1001.1 153 2 = zI z977 := (hFN1001 153 2 (by first | decide | (dsimp only; first | done | decide | omega) | omega)).trans ((st_ne (Or.inr (by decide))).trans kn990)
                  have kn1006 : N1001.1 153 4 = zI z987 := (hFN1001 153 4 (by first | decide | (dsimp only; first | done | decide | omega) | omega)).trans (st_at)
                  refine lv_goto (tgt := 264) hx hb dX12_readsRule_256 (by decide) ?_
                  obtain ⟨z1007, bz1007, ez1007⟩ := IvR.ld (k := 16) hIN1001 (show ivr 146 16 = (0, 1) from rfl) (show 146 ≤ 146 ∧ 146 < 159 by decide)
                  obtain ⟨z1008, bz1008, ez1008⟩ := IvR.ld (k := 3) hIN1001 (show ivr 153 3 = (-99, 300) from rfl) (by decide)
                  rw [hQ]
                  exact e_v F w hr hlocks ⟨⟨nz10020, nz10021, z1007, (enz10020), (enz10021), (ez1007), ⟨by omega, by omega⟩, ⟨by omega, by omega⟩, ⟨by omega, by omega⟩, (by omega)⟩, (fun h8 => by have h9 := (zI_eq (a := 4) (b := 8) (by constructor <;> omega) (by constructor <;> omega)).mp ((kn1004).symm.trans h8); exact ⟨z1008, by omega, by omega, ez1008⟩), hIN1001, hGN1001⟩ dX12_readsRule_264
              · obtain ⟨z1009, bz1009, ez1009⟩ := IvR.ld (k := 16) (IvR.to hIN986 (a := 153) (k := 4) (x := z987) (show ivr 153 4 = ((-99), 300) from rfl) ⟨by omega, by omega⟩ ⟨by decide, by decide, by decide, fun q9 => absurd q9 (by decide)⟩) (show ivr 146 16 = (0, 1) from rfl) (show 146 ≤ 146 ∧ 146 < 159 by decide)
                obtain ⟨z1010, bz1010, ez1010⟩ := IvR.ld (k := 3) (IvR.to hIN986 (a := 153) (k := 4) (x := z987) (show ivr 153 4 = ((-99), 300) from rfl) ⟨by omega, by omega⟩ ⟨by decide, by decide, by decide, fun q9 => absurd q9 (by decide)⟩) (show ivr 153 3 = (-99, 300) from rfl) (by decide)
                rw [hQ]
                exact e_v F w hr hlocks ⟨⟨nz9870, nz9871, z1009, ((st_ne (Or.inl (by decide))).trans enz9870), ((st_ne (Or.inl (by decide))).trans enz9871), (ez1009), ⟨by omega, by omega⟩, ⟨by omega, by omega⟩, ⟨by omega, by omega⟩, (by omega)⟩, (fun h8 => by have h9 := (zI_eq (a := 4) (b := 8) (by constructor <;> omega) (by constructor <;> omega)).mp (((st_ne (Or.inr (by decide))).trans kn989).symm.trans h8); exact ⟨z1010, by omega, by omega, ez1010⟩), (IvR.to hIN986 (a := 153) (k := 4) (x := z987) (show ivr 153 4 = ((-99), 300) from rfl) ⟨by omega, by omega⟩ ⟨by decide, by decide, by decide, fun q9 => absurd q9 (by decide)⟩), (Fr.to hGN986 (by first | decide | (dsimp only; first | done | decide | omega) | omega))⟩ dX12_readsRule_243
            · refine lv_iload_n hx hb dX12_readsRule_216 rfl (lv_at hl 0 rfl) ?_
              refine k_Si F w (As := [.int (zI 4)]) (rest := []) (q_X12_isBySyllables (x := 4) ⟨by omega, by omega⟩  (IvR.to hIN986 (a := 153) (k := 4) (x := z987) (show ivr 153 4 = ((-99), 300) from rfl) ⟨by omega, by omega⟩ ⟨by decide, by decide, by decide, fun q9 => absurd q9 (by decide)⟩)) gs_X12_140 hs_X12_isBySyllables ⟨(Nat.le_of_ble_eq_true rfl), (Nat.le_of_ble_eq_true rfl)⟩ hl.1 rfl (Nat.le_of_ble_eq_true rfl) ⟨Nat.zero_le _, Nat.zero_le _⟩ dX12_readsRule_217 (fun r1011 N1012 H locs hp w => ?_)
              obtain ⟨z1013, rfl, bz1013, xz1013, hMN1012⟩ := hp
              rw [hMN1012] at w
              refine z_if_ne (tgt := 236) hx hb (by omega) dX12_readsRule_220 (by decide) (fun c1014 => False.elim (by omega)) (fun c1014 => ?_)
              refine lv_aload_n hx hb dX12_readsRule_223 rfl (lv_at hl 1 rfl) ?_
              refine lv_bipush (v := zI 20) hx hb dX12_readsRule_224 (by decide) ?_
              refine k_Vi F w (As := [.int (zI 20)]) (rest := []) (a := 146) (kd_lt (a := 146) (show kd 146 = (12, 0, 0) from rfl) (by decide)) (sh_12 rfl _ _) rfl (q_X12_isWord (x := 20) ⟨by omega, by omega⟩  (IvR.to hIN986 (a := 153) (k := 4) (x := z987) (show ivr 153 4 = ((-99), 300) from rfl) ⟨by omega, by omega⟩ ⟨by decide, by decide, by decide, fun q9 => absurd q9 (by decide)⟩)) gv_X12_224 hv_X12_isWord ⟨(Nat.le_of_ble_eq_true rfl), (Nat.le_of_ble_eq_true rfl)⟩ hl.1 rfl (Nat.le_of_ble_eq_true rfl) ⟨Nat.zero_le _, Nat.zero_le _⟩ dX12_readsRule_226 (fun r1015 N1016 H locs hp w => ?_)
              obtain ⟨z1017, rfl, bz1017, hMN1016⟩ := hp
              rw [hMN1016] at w
              refine z_if_eq (tgt := 236) hx hb (by omega) dX12_readsRule_229 (by decide) (fun c1018 => ?_) (fun c1018 => ?_)
              · refine lv_aload_n hx hb dX12_readsRule_236 rfl (lv_at hl 1 rfl) ?_
                refine f_12_16 F w (a := 146) rfl tb_669 dX12_readsRule_237 ?_
                obtain ⟨z1019, bz1019, ez1019⟩ := IvR.ld (k := 16) (IvR.to hIN986 (a := 153) (k := 4) (x := z987) (show ivr 153 4 = ((-99), 300) from rfl) ⟨by omega, by omega⟩ ⟨by decide, by decide, by decide, fun q9 => absurd q9 (by decide)⟩) (show ivr 146 16 = (0, 1) from rfl) (show 146 ≤ 146 ∧ 146 < 159 by decide)
                refine r_val ez1019 ?_
                refine z_if_eq (tgt := 244) hx hb (by omega) dX12_readsRule_240 (by decide) (fun c1020 => ?_) (fun c1020 => ?_)
                · refine lv_aload_n hx hb dX12_readsRule_244 rfl (lv_at hl 1 rfl) ?_
                  refine f_12_13 F w (a := 146) rfl tb_602 dX12_readsRule_245 ?_
                  refine r_val (v := zI nz9870) ((st_ne (Or.inl (by decide))).trans enz9870) ?_
                  refine lv_iconst (v := zI 3) hx hb dX12_readsRule_248 rfl ?_
                  refine z_icmp_ne (tgt := 259) hx hb (by omega) (by omega) dX12_readsRule_249 (by decide) (fun c1021 => ?_) (fun c1021 => ?_)
                  · refine lv_aload_n hx hb dX12_readsRule_259 rfl (lv_at hl 1 rfl) ?_
                    refine lv_iconst (v := zI 1) hx hb dX12_readsRule_260 rfl ?_
                    refine u_12_16 F w (a := 146) rfl (nar_z (by omega)) (fit_z (by omega)) tb_669 dX12_readsRule_261 (fun H locs w => ?_)
                    obtain ⟨z1022, bz1022, ez1022⟩ := IvR.ld (k := 3) (IvR.to (IvR.to hIN986 (a := 153) (k := 4) (x := z987) (show ivr 153 4 = ((-99), 300) from rfl) ⟨by omega, by omega⟩ ⟨by decide, by decide, by decide, fun q9 => absurd q9 (by decide)⟩) (a := 146) (k := 16) (x := 1) (show ivr 146 16 = (0, 1) from rfl) ⟨by omega, by omega⟩ ⟨by decide, by decide, by decide, fun q9 => absurd q9 (by decide)⟩) (show ivr 153 3 = (-99, 300) from rfl) (by decide)
                    rw [hQ]
                    exact e_v F w hr hlocks ⟨⟨nz9870, nz9871, 1, ((st_ne (Or.inr (by decide))).trans ((st_ne (Or.inl (by decide))).trans enz9870)), ((st_ne (Or.inr (by decide))).trans ((st_ne (Or.inl (by decide))).trans enz9871)), (st_at), ⟨by omega, by omega⟩, ⟨by omega, by omega⟩, ⟨by omega, by omega⟩, (by omega)⟩, (fun h8 => by have h9 := (zI_eq (a := 4) (b := 8) (by constructor <;> omega) (by constructor <;> omega)).mp (((st_ne (Or.inl (by decide))).trans ((st_ne (Or.inr (by decide))).trans kn989)).symm.trans h8); exact ⟨z1022, by omega, by omega, ez1022⟩), (IvR.to (IvR.to hIN986 (a := 153) (k := 4) (x := z987) (show ivr 153 4 = ((-99), 300) from rfl) ⟨by omega, by omega⟩ ⟨by decide, by decide, by decide, fun q9 => absurd q9 (by decide)⟩) (a := 146) (k := 16) (x := 1) (show ivr 146 16 = (0, 1) from rfl) ⟨by omega, by omega⟩ ⟨by decide, by decide, by decide, fun q9 => absurd q9 (by decide)⟩), (Fr.to (Fr.to hGN986 (by first | decide | (dsimp only; first | done | decide | omega) | omega)) (by first | decide | (dsimp only; first | done | decide | omega) | omega))⟩ dX12_readsRule_264
                  · refine lv_aload_n hx hb dX12_readsRule_252 rfl (lv_at hl 1 rfl) ?_
                    refine k_Vv F w (As := []) (rest := []) (a := 146) (kd_lt (a := 146) (show kd 146 = (12, 0, 0) from rfl) (by decide)) (sh_12 rfl _ _) rfl (q_X12_goesOn   (IvR.to hIN986 (a := 153) (k := 4) (x := z987) (show ivr 153 4 = ((-99), 300) from rfl) ⟨by omega, by omega⟩ ⟨by decide, by decide, by decide, fun q9 => absurd q9 (by decide)⟩)) gv_X12_221 hv_X12_goesOn ⟨(Nat.le_of_ble_eq_true rfl), (Nat.le_of_ble_eq_true rfl)⟩ hl.1 rfl (Nat.le_of_ble_eq_true rfl) ⟨Nat.zero_le _, Nat.zero_le _⟩ dX12_readsRule_253 (fun N1024 H locs hp w => ?_)
                    obtain ⟨⟨nz10250, nz10251, enz10250, enz10251, xz1025⟩, hIN1024, hFN1024⟩ := hp
                    have hGN1024 := Fr.tr (Fr.to hGN986 (by first | decide | (dsimp only; first | done | decide | omega) | omega)) hFN1024 (S := (fun b9 k9 => (b9 = 146 ∧ k9 = 11) ∨ (b9 = 146 ∧ k9 = 13) ∨ (b9 = 146 ∧ k9 = 14) ∨ (b9 = 146 ∧ k9 = 15) ∨ (b9 = 146 ∧ k9 = 16) ∨ (b9 = 146 ∧ k9 = 9) ∨ b9 = 153)) (fun b k h => by (try dsimp only at h ⊢); rcases h with ⟨rfl, rfl⟩ | ⟨rfl, rfl⟩ | ⟨rfl, rfl⟩ | ⟨rfl, rfl⟩ | ⟨rfl, rfl⟩ <;> first | decide | omega)
                    have kn1026 : N1024.1 153 1 = zI 1 := (hFN1024 153 1 (by first | decide | (dsimp only; first | done | decide | omega) | omega)).trans ((st_ne (Or.inr (by decide))).trans kn988)
                    have kn1027 : N1024.1 153 0 = zI 4 := (hFN1024 153 0 (by first | decide | (dsimp only; first | done | decide | omega) | omega)).trans ((st_ne (Or.inr (by decide))).trans kn989)
                    have kn1028 : N1024.1 153 2 = zI z977 := (hFN1024 153 2 (by first | decide | (dsimp only; first | done | decide | omega) | omega)).trans ((st_ne (Or.inr (by decide))).trans kn990)
                    have kn1029 : N1024.1 153 4 = zI z987 := (hFN1024 153 4 (by first | decide | (dsimp only; first | done | decide | omega) | omega)).trans (st_at)
                    refine lv_goto (tgt := 264) hx hb dX12_readsRule_256 (by decide) ?_
                    obtain ⟨z1030, bz1030, ez1030⟩ := IvR.ld (k := 16) hIN1024 (show ivr 146 16 = (0, 1) from rfl) (show 146 ≤ 146 ∧ 146 < 159 by decide)
                    obtain ⟨z1031, bz1031, ez1031⟩ := IvR.ld (k := 3) hIN1024 (show ivr 153 3 = (-99, 300) from rfl) (by decide)
                    rw [hQ]
                    exact e_v F w hr hlocks ⟨⟨nz10250, nz10251, z1030, (enz10250), (enz10251), (ez1030), ⟨by omega, by omega⟩, ⟨by omega, by omega⟩, ⟨by omega, by omega⟩, (by omega)⟩, (fun h8 => by have h9 := (zI_eq (a := 4) (b := 8) (by constructor <;> omega) (by constructor <;> omega)).mp ((kn1027).symm.trans h8); exact ⟨z1031, by omega, by omega, ez1031⟩), hIN1024, hGN1024⟩ dX12_readsRule_264
                · obtain ⟨z1032, bz1032, ez1032⟩ := IvR.ld (k := 16) (IvR.to hIN986 (a := 153) (k := 4) (x := z987) (show ivr 153 4 = ((-99), 300) from rfl) ⟨by omega, by omega⟩ ⟨by decide, by decide, by decide, fun q9 => absurd q9 (by decide)⟩) (show ivr 146 16 = (0, 1) from rfl) (show 146 ≤ 146 ∧ 146 < 159 by decide)
                  obtain ⟨z1033, bz1033, ez1033⟩ := IvR.ld (k := 3) (IvR.to hIN986 (a := 153) (k := 4) (x := z987) (show ivr 153 4 = ((-99), 300) from rfl) ⟨by omega, by omega⟩ ⟨by decide, by decide, by decide, fun q9 => absurd q9 (by decide)⟩) (show ivr 153 3 = (-99, 300) from rfl) (by decide)
                  rw [hQ]
                  exact e_v F w hr hlocks ⟨⟨nz9870, nz9871, z1032, ((st_ne (Or.inl (by decide))).trans enz9870), ((st_ne (Or.inl (by decide))).trans enz9871), (ez1032), ⟨by omega, by omega⟩, ⟨by omega, by omega⟩, ⟨by omega, by omega⟩, (by omega)⟩, (fun h8 => by have h9 := (zI_eq (a := 4) (b := 8) (by constructor <;> omega) (by constructor <;> omega)).mp (((st_ne (Or.inr (by decide))).trans kn989).symm.trans h8); exact ⟨z1033, by omega, by omega, ez1033⟩), (IvR.to hIN986 (a := 153) (k := 4) (x := z987) (show ivr 153 4 = ((-99), 300) from rfl) ⟨by omega, by omega⟩ ⟨by decide, by decide, by decide, fun q9 => absurd q9 (by decide)⟩), (Fr.to hGN986 (by first | decide | (dsimp only; first | done | decide | omega) | omega))⟩ dX12_readsRule_243
              · refine lv_aload_n hx hb dX12_readsRule_232 rfl (lv_at hl 1 rfl) ?_
                refine k_Vv F w (As := []) (rest := []) (a := 146) (kd_lt (a := 146) (show kd 146 = (12, 0, 0) from rfl) (by decide)) (sh_12 rfl _ _) rfl (q_X12_readsTest   (IvR.to hIN986 (a := 153) (k := 4) (x := z987) (show ivr 153 4 = ((-99), 300) from rfl) ⟨by omega, by omega⟩ ⟨by decide, by decide, by decide, fun q9 => absurd q9 (by decide)⟩)) gv_X12_233 hv_X12_readsTest ⟨(Nat.le_of_ble_eq_true rfl), (Nat.le_of_ble_eq_true rfl)⟩ hl.1 rfl (Nat.le_of_ble_eq_true rfl) ⟨Nat.zero_le _, Nat.zero_le _⟩ dX12_readsRule_233 (fun N1035 H locs hp w => ?_)
                obtain ⟨⟨nz10360, nz10361, enz10360, enz10361, xz1036⟩, hIN1035, hFN1035⟩ := hp
                have hGN1035 := Fr.tr (Fr.to hGN986 (by first | decide | (dsimp only; first | done | decide | omega) | omega)) hFN1035 (S := (fun b9 k9 => (b9 = 146 ∧ k9 = 11) ∨ (b9 = 146 ∧ k9 = 13) ∨ (b9 = 146 ∧ k9 = 14) ∨ (b9 = 146 ∧ k9 = 15) ∨ (b9 = 146 ∧ k9 = 16) ∨ (b9 = 146 ∧ k9 = 9) ∨ b9 = 153)) (fun b k h => by (try dsimp only at h ⊢); rcases h with ⟨rfl, rfl⟩ | ⟨rfl, rfl⟩ | ⟨rfl, rfl⟩ | ⟨rfl, rfl⟩ | ⟨rfl, rfl⟩ | ⟨rfl, rfl⟩ | ⟨rfl, q1, q2⟩ | ⟨rfl, q1, q2⟩ | ⟨rfl, q1, q2⟩ <;> first | decide | omega)
                have kn1037 : N1035.1 153 1 = zI 1 := (hFN1035 153 1 (by first | decide | (dsimp only; first | done | decide | omega) | omega)).trans ((st_ne (Or.inr (by decide))).trans kn988)
                have kn1038 : N1035.1 153 0 = zI 4 := (hFN1035 153 0 (by first | decide | (dsimp only; first | done | decide | omega) | omega)).trans ((st_ne (Or.inr (by decide))).trans kn989)
                have kn1039 : N1035.1 153 2 = zI z977 := (hFN1035 153 2 (by first | decide | (dsimp only; first | done | decide | omega) | omega)).trans ((st_ne (Or.inr (by decide))).trans kn990)
                have kn1040 : N1035.1 153 4 = zI z987 := (hFN1035 153 4 (by first | decide | (dsimp only; first | done | decide | omega) | omega)).trans (st_at)
                refine lv_aload_n hx hb dX12_readsRule_236 rfl (lv_at hl 1 rfl) ?_
                refine f_12_16 F w (a := 146) rfl tb_669 dX12_readsRule_237 ?_
                obtain ⟨z1041, bz1041, ez1041⟩ := IvR.ld (k := 16) hIN1035 (show ivr 146 16 = (0, 1) from rfl) (show 146 ≤ 146 ∧ 146 < 159 by decide)
                refine r_val ez1041 ?_
                refine z_if_eq (tgt := 244) hx hb (by omega) dX12_readsRule_240 (by decide) (fun c1042 => ?_) (fun c1042 => ?_)
                · refine lv_aload_n hx hb dX12_readsRule_244 rfl (lv_at hl 1 rfl) ?_
                  refine f_12_13 F w (a := 146) rfl tb_602 dX12_readsRule_245 ?_
                  refine r_val (v := zI nz10360) (enz10360) ?_
                  refine lv_iconst (v := zI 3) hx hb dX12_readsRule_248 rfl ?_
                  refine z_icmp_ne (tgt := 259) hx hb (by omega) (by omega) dX12_readsRule_249 (by decide) (fun c1043 => ?_) (fun c1043 => ?_)
                  · refine lv_aload_n hx hb dX12_readsRule_259 rfl (lv_at hl 1 rfl) ?_
                    refine lv_iconst (v := zI 1) hx hb dX12_readsRule_260 rfl ?_
                    refine u_12_16 F w (a := 146) rfl (nar_z (by omega)) (fit_z (by omega)) tb_669 dX12_readsRule_261 (fun H locs w => ?_)
                    obtain ⟨z1044, bz1044, ez1044⟩ := IvR.ld (k := 3) (IvR.to hIN1035 (a := 146) (k := 16) (x := 1) (show ivr 146 16 = (0, 1) from rfl) ⟨by omega, by omega⟩ ⟨by decide, by decide, by decide, fun q9 => absurd q9 (by decide)⟩) (show ivr 153 3 = (-99, 300) from rfl) (by decide)
                    rw [hQ]
                    exact e_v F w hr hlocks ⟨⟨nz10360, nz10361, 1, ((st_ne (Or.inr (by decide))).trans enz10360), ((st_ne (Or.inr (by decide))).trans enz10361), (st_at), ⟨by omega, by omega⟩, ⟨by omega, by omega⟩, ⟨by omega, by omega⟩, (by omega)⟩, (fun h8 => by have h9 := (zI_eq (a := 4) (b := 8) (by constructor <;> omega) (by constructor <;> omega)).mp (((st_ne (Or.inl (by decide))).trans kn1038).symm.trans h8); exact ⟨z1044, by omega, by omega, ez1044⟩), (IvR.to hIN1035 (a := 146) (k := 16) (x := 1) (show ivr 146 16 = (0, 1) from rfl) ⟨by omega, by omega⟩ ⟨by decide, by decide, by decide, fun q9 => absurd q9 (by decide)⟩), (Fr.to hGN1035 (by first | decide | (dsimp only; first | done | decide | omega) | omega))⟩ dX12_readsRule_264
                  · refine lv_aload_n hx hb dX12_readsRule_252 rfl (lv_at hl 1 rfl) ?_
                    refine k_Vv F w (As := []) (rest := []) (a := 146) (kd_lt (a := 146) (show kd 146 = (12, 0, 0) from rfl) (by decide)) (sh_12 rfl _ _) rfl (q_X12_goesOn   hIN1035) gv_X12_221 hv_X12_goesOn ⟨(Nat.le_of_ble_eq_true rfl), (Nat.le_of_ble_eq_true rfl)⟩ hl.1 rfl (Nat.le_of_ble_eq_true rfl) ⟨Nat.zero_le _, Nat.zero_le _⟩ dX12_readsRule_253 (fun N1046 H locs hp w => ?_)
                    obtain ⟨⟨nz10470, nz10471, enz10470, enz10471, xz1047⟩, hIN1046, hFN1046⟩ := hp
                    have hGN1046 := Fr.tr hGN1035 hFN1046 (S := (fun b9 k9 => (b9 = 146 ∧ k9 = 11) ∨ (b9 = 146 ∧ k9 = 13) ∨ (b9 = 146 ∧ k9 = 14) ∨ (b9 = 146 ∧ k9 = 15) ∨ (b9 = 146 ∧ k9 = 16) ∨ (b9 = 146 ∧ k9 = 9) ∨ b9 = 153)) (fun b k h => by (try dsimp only at h ⊢); rcases h with ⟨rfl, rfl⟩ | ⟨rfl, rfl⟩ | ⟨rfl, rfl⟩ | ⟨rfl, rfl⟩ | ⟨rfl, rfl⟩ <;> first | decide | omega)
                    have kn1048 : N1046.1 153 1 = zI 1 := (hFN1046 153 1 (by first | decide | (dsimp only; first | done | decide | omega) | omega)).trans (kn1037)
                    have kn1049 : N1046.1 153 0 = zI 4 := (hFN1046 153 0 (by first | decide | (dsimp only; first | done | decide | omega) | omega)).trans (kn1038)
                    have kn1050 : N1046.1 153 2 = zI z977 := (hFN1046 153 2 (by first | decide | (dsimp only; first | done | decide | omega) | omega)).trans (kn1039)
                    have kn1051 : N1046.1 153 4 = zI z987 := (hFN1046 153 4 (by first | decide | (dsimp only; first | done | decide | omega) | omega)).trans (kn1040)
                    have kn1052 : N1046.1 146 16 = zI z1041 := (hFN1046 146 16 (by first | decide | (dsimp only; first | done | decide | omega) | omega)).trans (ez1041)
                    refine lv_goto (tgt := 264) hx hb dX12_readsRule_256 (by decide) ?_
                    obtain ⟨z1053, bz1053, ez1053⟩ := IvR.ld (k := 3) hIN1046 (show ivr 153 3 = (-99, 300) from rfl) (by decide)
                    rw [hQ]
                    exact e_v F w hr hlocks ⟨⟨nz10470, nz10471, z1041, (enz10470), (enz10471), (kn1052), ⟨by omega, by omega⟩, ⟨by omega, by omega⟩, ⟨by omega, by omega⟩, (by omega)⟩, (fun h8 => by have h9 := (zI_eq (a := 4) (b := 8) (by constructor <;> omega) (by constructor <;> omega)).mp ((kn1049).symm.trans h8); exact ⟨z1053, by omega, by omega, ez1053⟩), hIN1046, hGN1046⟩ dX12_readsRule_264
                · obtain ⟨z1054, bz1054, ez1054⟩ := IvR.ld (k := 3) hIN1035 (show ivr 153 3 = (-99, 300) from rfl) (by decide)
                  rw [hQ]
                  exact e_v F w hr hlocks ⟨⟨nz10360, nz10361, z1041, (enz10360), (enz10361), (ez1041), ⟨by omega, by omega⟩, ⟨by omega, by omega⟩, ⟨by omega, by omega⟩, (by omega)⟩, (fun h8 => by have h9 := (zI_eq (a := 4) (b := 8) (by constructor <;> omega) (by constructor <;> omega)).mp ((kn1038).symm.trans h8); exact ⟨z1054, by omega, by omega, ez1054⟩), hIN1035, hGN1035⟩ dX12_readsRule_243
          · refine lv_istore_n (lv' := [(1, .int (zI 5)), (0, .ref (B + 146))]) hx hb dX12_readsRule_63 rfl hl (by decide) rfl (fun ls hl => ?_)
            refine lv_aload_n hx hb dX12_readsRule_64 rfl (lv_at hl 1 rfl) ?_
            refine f_12_17 F w (a := 146) rfl tb_676 dX12_readsRule_65 ?_
            refine lv_iconst (v := zI 0) hx hb dX12_readsRule_68 rfl ?_
            refine lv_iload_n hx hb dX12_readsRule_69 rfl (lv_at hl 0 rfl) ?_
            refine g_iast F w (a := 153) rfl (j := 0) ⟨by decide, by decide⟩ (by omega) dX12_readsRule_70 (fun H locs w => ?_)
            refine lv_iload_n hx hb dX12_readsRule_71 rfl (lv_at hl 0 rfl) ?_
            refine lv_bipush (v := zI 8) hx hb dX12_readsRule_72 (by decide) ?_
            refine z_icmp_ne (tgt := 90) hx hb (by omega) (by omega) dX12_readsRule_74 (by decide) (fun c1055 => ?_) (fun c1055 => False.elim (by omega))
            refine lv_iload_n hx hb dX12_readsRule_90 rfl (lv_at hl 0 rfl) ?_
            refine z_if_eq (tgt := 119) hx hb (by omega) dX12_readsRule_91 (by decide) (fun c1056 => False.elim (by omega)) (fun c1056 => ?_)
            refine lv_aload_n hx hb dX12_readsRule_94 rfl (lv_at hl 1 rfl) ?_
            refine f_12_17 F w (a := 146) rfl tb_676 dX12_readsRule_95 ?_
            refine lv_iconst (v := zI 2) hx hb dX12_readsRule_98 rfl ?_
            refine lv_aload_n hx hb dX12_readsRule_99 rfl (lv_at hl 1 rfl) ?_
            refine lv_bipush (v := zI 11) hx hb dX12_readsRule_100 (by decide) ?_
            refine lv_iload_n hx hb dX12_readsRule_102 rfl (lv_at hl 0 rfl) ?_
            refine lv_bipush (v := zI 9) hx hb dX12_readsRule_103 (by decide) ?_
            refine z_icmp_ne (tgt := 113) hx hb (by omega) (by omega) dX12_readsRule_105 (by decide) (fun c1057 => ?_) (fun c1057 => False.elim (by omega))
            refine lv_bipush (v := zI 14) hx hb dX12_readsRule_113 (by decide) ?_
            refine k_Vi F w (As := [.int (zI 11), .int (zI 14)]) (rest := [.int (zI 2), .ref (B + 153)]) (a := 146) (kd_lt (a := 146) (show kd 146 = (12, 0, 0) from rfl) (by decide)) (sh_12 rfl _ _) rfl (q_X12_needs (x := 11) ⟨by omega, by omega⟩ (x1 := 14) ⟨by omega, by omega⟩ (tk := nz6710) ((st_ne (Or.inl (by decide))).trans enz6710) ⟨by omega, by omega⟩ (nb := nz6711) ((st_ne (Or.inl (by decide))).trans enz6711) ⟨by omega, by omega⟩ (by omega) (IvR.to hIN670 (a := 153) (k := 0) (x := 5) (show ivr 153 0 = ((-99), 300) from rfl) ⟨by omega, by omega⟩ ⟨by decide, by decide, by decide, fun q9 => absurd q9 (by decide)⟩)) gv_X12_227 hv_X12_needs ⟨(Nat.le_of_ble_eq_true rfl), (Nat.le_of_ble_eq_true rfl)⟩ hl.1 rfl (Nat.le_of_ble_eq_true rfl) ⟨Nat.zero_le _, Nat.zero_le _⟩ dX12_readsRule_115 (fun r1058 N1059 H locs hp w => ?_)
            obtain ⟨z1060, rfl, bz1060, ⟨nz10600, nz10601, enz10600, enz10601, xz1060⟩, hIN1059, hFN1059⟩ := hp
            have hGN1059 := Fr.tr (Fr.to hGN670 (by first | decide | (dsimp only; first | done | decide | omega) | omega)) hFN1059 (S := (fun b9 k9 => (b9 = 146 ∧ k9 = 11) ∨ (b9 = 146 ∧ k9 = 13) ∨ (b9 = 146 ∧ k9 = 14) ∨ (b9 = 146 ∧ k9 = 15) ∨ (b9 = 146 ∧ k9 = 16) ∨ (b9 = 146 ∧ k9 = 9) ∨ b9 = 153)) (fun b k h => by (try dsimp only at h ⊢); rcases h with ⟨rfl, rfl⟩ | ⟨rfl, rfl⟩ | ⟨rfl, rfl⟩ | ⟨rfl, rfl⟩ | ⟨rfl, rfl⟩ | ⟨rfl, rfl⟩ <;> first | decide | omega)
            have kn1061 : N1059.1 153 1 = zI 1 := (hFN1059 153 1 (by first | decide | (dsimp only; first | done | decide | omega) | omega)).trans ((st_ne (Or.inr (by decide))).trans kn672)
            have kn1062 : N1059.1 153 0 = zI 5 := (hFN1059 153 0 (by first | decide | (dsimp only; first | done | decide | omega) | omega)).trans (st_at)
            refine g_iast F w (a := 153) rfl (j := 2) ⟨by decide, by decide⟩ (by omega) dX12_readsRule_118 (fun H locs w => ?_)
            refine lv_iload_n hx hb dX12_readsRule_119 rfl (lv_at hl 0 rfl) ?_
            refine lv_bipush (v := zI 7) hx hb dX12_readsRule_120 (by decide) ?_
            refine z_icmp_ne (tgt := 148) hx hb (by omega) (by omega) dX12_readsRule_122 (by decide) (fun c1063 => ?_) (fun c1063 => False.elim (by omega))
            refine lv_iload_n hx hb dX12_readsRule_148 rfl (lv_at hl 0 rfl) ?_
            refine k_Si F w (As := [.int (zI 5)]) (rest := []) (q_X12_hasSide (x := 5) ⟨by omega, by omega⟩  (IvR.to hIN1059 (a := 153) (k := 2) (x := z1060) (show ivr 153 2 = ((-99), 300) from rfl) ⟨by omega, by omega⟩ ⟨by decide, by decide, by decide, fun q9 => absurd q9 (by decide)⟩)) gs_X12_137 hs_X12_hasSide ⟨(Nat.le_of_ble_eq_true rfl), (Nat.le_of_ble_eq_true rfl)⟩ hl.1 rfl (Nat.le_of_ble_eq_true rfl) ⟨Nat.zero_le _, Nat.zero_le _⟩ dX12_readsRule_149 (fun r1064 N1065 H locs hp w => ?_)
            obtain ⟨z1066, rfl, bz1066, xz1066, hMN1065⟩ := hp
            rw [hMN1065] at w
            refine z_if_eq (tgt := 169) hx hb (by omega) dX12_readsRule_152 (by decide) (fun c1067 => ?_) (fun c1067 => False.elim (by omega))
            refine lv_iload_n hx hb dX12_readsRule_169 rfl (lv_at hl 0 rfl) ?_
            refine lv_iconst (v := zI 3) hx hb dX12_readsRule_170 rfl ?_
            refine z_icmp_eq (tgt := 180) hx hb (by omega) (by omega) dX12_readsRule_171 (by decide) (fun c1068 => False.elim (by omega)) (fun c1068 => ?_)
            refine lv_iload_n hx hb dX12_readsRule_174 rfl (lv_at hl 0 rfl) ?_
            refine lv_bipush (v := zI 8) hx hb dX12_readsRule_175 (by decide) ?_
            refine z_icmp_ne (tgt := 194) hx hb (by omega) (by omega) dX12_readsRule_177 (by decide) (fun c1069 => ?_) (fun c1069 => False.elim (by omega))
            refine lv_iload_n hx hb dX12_readsRule_194 rfl (lv_at hl 0 rfl) ?_
            refine lv_iconst (v := zI 1) hx hb dX12_readsRule_195 rfl ?_
            refine z_icmp_ne (tgt := 209) hx hb (by omega) (by omega) dX12_readsRule_196 (by decide) (fun c1070 => ?_) (fun c1070 => False.elim (by omega))
            refine lv_aload_n hx hb dX12_readsRule_209 rfl (lv_at hl 1 rfl) ?_
            refine f_12_16 F w (a := 146) rfl tb_669 dX12_readsRule_210 ?_
            obtain ⟨z1071, bz1071, ez1071⟩ := IvR.ld (k := 16) (IvR.to hIN1059 (a := 153) (k := 2) (x := z1060) (show ivr 153 2 = ((-99), 300) from rfl) ⟨by omega, by omega⟩ ⟨by decide, by decide, by decide, fun q9 => absurd q9 (by decide)⟩) (show ivr 146 16 = (0, 1) from rfl) (show 146 ≤ 146 ∧ 146 < 159 by decide)
            refine r_val ez1071 ?_
            refine z_if_ne (tgt := 236) hx hb (by omega) dX12_readsRule_213 (by decide) (fun c1072 => ?_) (fun c1072 => ?_)
            · refine lv_aload_n hx hb dX12_readsRule_236 rfl (lv_at hl 1 rfl) ?_
              refine f_12_16 F w (a := 146) rfl tb_669 dX12_readsRule_237 ?_
              obtain ⟨z1073, bz1073, ez1073⟩ := IvR.ld (k := 16) (IvR.to hIN1059 (a := 153) (k := 2) (x := z1060) (show ivr 153 2 = ((-99), 300) from rfl) ⟨by omega, by omega⟩ ⟨by decide, by decide, by decide, fun q9 => absurd q9 (by decide)⟩) (show ivr 146 16 = (0, 1) from rfl) (show 146 ≤ 146 ∧ 146 < 159 by decide)
              refine r_val ez1073 ?_
              refine z_if_eq (tgt := 244) hx hb (by omega) dX12_readsRule_240 (by decide) (fun c1074 => ?_) (fun c1074 => ?_)
              · refine lv_aload_n hx hb dX12_readsRule_244 rfl (lv_at hl 1 rfl) ?_
                refine f_12_13 F w (a := 146) rfl tb_602 dX12_readsRule_245 ?_
                refine r_val (v := zI nz10600) ((st_ne (Or.inl (by decide))).trans enz10600) ?_
                refine lv_iconst (v := zI 3) hx hb dX12_readsRule_248 rfl ?_
                refine z_icmp_ne (tgt := 259) hx hb (by omega) (by omega) dX12_readsRule_249 (by decide) (fun c1075 => ?_) (fun c1075 => ?_)
                · refine lv_aload_n hx hb dX12_readsRule_259 rfl (lv_at hl 1 rfl) ?_
                  refine lv_iconst (v := zI 1) hx hb dX12_readsRule_260 rfl ?_
                  refine u_12_16 F w (a := 146) rfl (nar_z (by omega)) (fit_z (by omega)) tb_669 dX12_readsRule_261 (fun H locs w => ?_)
                  obtain ⟨z1076, bz1076, ez1076⟩ := IvR.ld (k := 3) (IvR.to (IvR.to hIN1059 (a := 153) (k := 2) (x := z1060) (show ivr 153 2 = ((-99), 300) from rfl) ⟨by omega, by omega⟩ ⟨by decide, by decide, by decide, fun q9 => absurd q9 (by decide)⟩) (a := 146) (k := 16) (x := 1) (show ivr 146 16 = (0, 1) from rfl) ⟨by omega, by omega⟩ ⟨by decide, by decide, by decide, fun q9 => absurd q9 (by decide)⟩) (show ivr 153 3 = (-99, 300) from rfl) (by decide)
                  rw [hQ]
                  exact e_v F w hr hlocks ⟨⟨nz10600, nz10601, 1, ((st_ne (Or.inr (by decide))).trans ((st_ne (Or.inl (by decide))).trans enz10600)), ((st_ne (Or.inr (by decide))).trans ((st_ne (Or.inl (by decide))).trans enz10601)), (st_at), ⟨by omega, by omega⟩, ⟨by omega, by omega⟩, ⟨by omega, by omega⟩, (by omega)⟩, (fun h8 => by have h9 := (zI_eq (a := 5) (b := 8) (by constructor <;> omega) (by constructor <;> omega)).mp (((st_ne (Or.inl (by decide))).trans ((st_ne (Or.inr (by decide))).trans kn1062)).symm.trans h8); exact ⟨z1076, by omega, by omega, ez1076⟩), (IvR.to (IvR.to hIN1059 (a := 153) (k := 2) (x := z1060) (show ivr 153 2 = ((-99), 300) from rfl) ⟨by omega, by omega⟩ ⟨by decide, by decide, by decide, fun q9 => absurd q9 (by decide)⟩) (a := 146) (k := 16) (x := 1) (show ivr 146 16 = (0, 1) from rfl) ⟨by omega, by omega⟩ ⟨by decide, by decide, by decide, fun q9 => absurd q9 (by decide)⟩), (Fr.to (Fr.to hGN1059 (by first | decide | (dsimp only; first | done | decide | omega) | omega)) (by first | decide | (dsimp only; first | done | decide | omega) | omega))⟩ dX12_readsRule_264
                · refine lv_aload_n hx hb dX12_readsRule_252 rfl (lv_at hl 1 rfl) ?_
                  refine k_Vv F w (As := []) (rest := []) (a := 146) (kd_lt (a := 146) (show kd 146 = (12, 0, 0) from rfl) (by decide)) (sh_12 rfl _ _) rfl (q_X12_goesOn   (IvR.to hIN1059 (a := 153) (k := 2) (x := z1060) (show ivr 153 2 = ((-99), 300) from rfl) ⟨by omega, by omega⟩ ⟨by decide, by decide, by decide, fun q9 => absurd q9 (by decide)⟩)) gv_X12_221 hv_X12_goesOn ⟨(Nat.le_of_ble_eq_true rfl), (Nat.le_of_ble_eq_true rfl)⟩ hl.1 rfl (Nat.le_of_ble_eq_true rfl) ⟨Nat.zero_le _, Nat.zero_le _⟩ dX12_readsRule_253 (fun N1078 H locs hp w => ?_)
                  obtain ⟨⟨nz10790, nz10791, enz10790, enz10791, xz1079⟩, hIN1078, hFN1078⟩ := hp
                  have hGN1078 := Fr.tr (Fr.to hGN1059 (by first | decide | (dsimp only; first | done | decide | omega) | omega)) hFN1078 (S := (fun b9 k9 => (b9 = 146 ∧ k9 = 11) ∨ (b9 = 146 ∧ k9 = 13) ∨ (b9 = 146 ∧ k9 = 14) ∨ (b9 = 146 ∧ k9 = 15) ∨ (b9 = 146 ∧ k9 = 16) ∨ (b9 = 146 ∧ k9 = 9) ∨ b9 = 153)) (fun b k h => by (try dsimp only at h ⊢); rcases h with ⟨rfl, rfl⟩ | ⟨rfl, rfl⟩ | ⟨rfl, rfl⟩ | ⟨rfl, rfl⟩ | ⟨rfl, rfl⟩ <;> first | decide | omega)
                  have kn1080 : N1078.1 153 1 = zI 1 := (hFN1078 153 1 (by first | decide | (dsimp only; first | done | decide | omega) | omega)).trans ((st_ne (Or.inr (by decide))).trans kn1061)
                  have kn1081 : N1078.1 153 0 = zI 5 := (hFN1078 153 0 (by first | decide | (dsimp only; first | done | decide | omega) | omega)).trans ((st_ne (Or.inr (by decide))).trans kn1062)
                  have kn1082 : N1078.1 153 2 = zI z1060 := (hFN1078 153 2 (by first | decide | (dsimp only; first | done | decide | omega) | omega)).trans (st_at)
                  refine lv_goto (tgt := 264) hx hb dX12_readsRule_256 (by decide) ?_
                  obtain ⟨z1083, bz1083, ez1083⟩ := IvR.ld (k := 16) hIN1078 (show ivr 146 16 = (0, 1) from rfl) (show 146 ≤ 146 ∧ 146 < 159 by decide)
                  obtain ⟨z1084, bz1084, ez1084⟩ := IvR.ld (k := 3) hIN1078 (show ivr 153 3 = (-99, 300) from rfl) (by decide)
                  rw [hQ]
                  exact e_v F w hr hlocks ⟨⟨nz10790, nz10791, z1083, (enz10790), (enz10791), (ez1083), ⟨by omega, by omega⟩, ⟨by omega, by omega⟩, ⟨by omega, by omega⟩, (by omega)⟩, (fun h8 => by have h9 := (zI_eq (a := 5) (b := 8) (by constructor <;> omega) (by constructor <;> omega)).mp ((kn1081).symm.trans h8); exact ⟨z1084, by omega, by omega, ez1084⟩), hIN1078, hGN1078⟩ dX12_readsRule_264
              · obtain ⟨z1085, bz1085, ez1085⟩ := IvR.ld (k := 16) (IvR.to hIN1059 (a := 153) (k := 2) (x := z1060) (show ivr 153 2 = ((-99), 300) from rfl) ⟨by omega, by omega⟩ ⟨by decide, by decide, by decide, fun q9 => absurd q9 (by decide)⟩) (show ivr 146 16 = (0, 1) from rfl) (show 146 ≤ 146 ∧ 146 < 159 by decide)
                obtain ⟨z1086, bz1086, ez1086⟩ := IvR.ld (k := 3) (IvR.to hIN1059 (a := 153) (k := 2) (x := z1060) (show ivr 153 2 = ((-99), 300) from rfl) ⟨by omega, by omega⟩ ⟨by decide, by decide, by decide, fun q9 => absurd q9 (by decide)⟩) (show ivr 153 3 = (-99, 300) from rfl) (by decide)
                rw [hQ]
                exact e_v F w hr hlocks ⟨⟨nz10600, nz10601, z1085, ((st_ne (Or.inl (by decide))).trans enz10600), ((st_ne (Or.inl (by decide))).trans enz10601), (ez1085), ⟨by omega, by omega⟩, ⟨by omega, by omega⟩, ⟨by omega, by omega⟩, (by omega)⟩, (fun h8 => by have h9 := (zI_eq (a := 5) (b := 8) (by constructor <;> omega) (by constructor <;> omega)).mp (((st_ne (Or.inr (by decide))).trans kn1062).symm.trans h8); exact ⟨z1086, by omega, by omega, ez1086⟩), (IvR.to hIN1059 (a := 153) (k := 2) (x := z1060) (show ivr 153 2 = ((-99), 300) from rfl) ⟨by omega, by omega⟩ ⟨by decide, by decide, by decide, fun q9 => absurd q9 (by decide)⟩), (Fr.to hGN1059 (by first | decide | (dsimp only; first | done | decide | omega) | omega))⟩ dX12_readsRule_243
            · refine lv_iload_n hx hb dX12_readsRule_216 rfl (lv_at hl 0 rfl) ?_
              refine k_Si F w (As := [.int (zI 5)]) (rest := []) (q_X12_isBySyllables (x := 5) ⟨by omega, by omega⟩  (IvR.to hIN1059 (a := 153) (k := 2) (x := z1060) (show ivr 153 2 = ((-99), 300) from rfl) ⟨by omega, by omega⟩ ⟨by decide, by decide, by decide, fun q9 => absurd q9 (by decide)⟩)) gs_X12_140 hs_X12_isBySyllables ⟨(Nat.le_of_ble_eq_true rfl), (Nat.le_of_ble_eq_true rfl)⟩ hl.1 rfl (Nat.le_of_ble_eq_true rfl) ⟨Nat.zero_le _, Nat.zero_le _⟩ dX12_readsRule_217 (fun r1087 N1088 H locs hp w => ?_)
              obtain ⟨z1089, rfl, bz1089, xz1089, hMN1088⟩ := hp
              rw [hMN1088] at w
              refine z_if_ne (tgt := 236) hx hb (by omega) dX12_readsRule_220 (by decide) (fun c1090 => False.elim (by omega)) (fun c1090 => ?_)
              refine lv_aload_n hx hb dX12_readsRule_223 rfl (lv_at hl 1 rfl) ?_
              refine lv_bipush (v := zI 20) hx hb dX12_readsRule_224 (by decide) ?_
              refine k_Vi F w (As := [.int (zI 20)]) (rest := []) (a := 146) (kd_lt (a := 146) (show kd 146 = (12, 0, 0) from rfl) (by decide)) (sh_12 rfl _ _) rfl (q_X12_isWord (x := 20) ⟨by omega, by omega⟩  (IvR.to hIN1059 (a := 153) (k := 2) (x := z1060) (show ivr 153 2 = ((-99), 300) from rfl) ⟨by omega, by omega⟩ ⟨by decide, by decide, by decide, fun q9 => absurd q9 (by decide)⟩)) gv_X12_224 hv_X12_isWord ⟨(Nat.le_of_ble_eq_true rfl), (Nat.le_of_ble_eq_true rfl)⟩ hl.1 rfl (Nat.le_of_ble_eq_true rfl) ⟨Nat.zero_le _, Nat.zero_le _⟩ dX12_readsRule_226 (fun r1091 N1092 H locs hp w => ?_)
              obtain ⟨z1093, rfl, bz1093, hMN1092⟩ := hp
              rw [hMN1092] at w
              refine z_if_eq (tgt := 236) hx hb (by omega) dX12_readsRule_229 (by decide) (fun c1094 => ?_) (fun c1094 => ?_)
              · refine lv_aload_n hx hb dX12_readsRule_236 rfl (lv_at hl 1 rfl) ?_
                refine f_12_16 F w (a := 146) rfl tb_669 dX12_readsRule_237 ?_
                obtain ⟨z1095, bz1095, ez1095⟩ := IvR.ld (k := 16) (IvR.to hIN1059 (a := 153) (k := 2) (x := z1060) (show ivr 153 2 = ((-99), 300) from rfl) ⟨by omega, by omega⟩ ⟨by decide, by decide, by decide, fun q9 => absurd q9 (by decide)⟩) (show ivr 146 16 = (0, 1) from rfl) (show 146 ≤ 146 ∧ 146 < 159 by decide)
                refine r_val ez1095 ?_
                refine z_if_eq (tgt := 244) hx hb (by omega) dX12_readsRule_240 (by decide) (fun c1096 => ?_) (fun c1096 => ?_)
                · refine lv_aload_n hx hb dX12_readsRule_244 rfl (lv_at hl 1 rfl) ?_
                  refine f_12_13 F w (a := 146) rfl tb_602 dX12_readsRule_245 ?_
                  refine r_val (v := zI nz10600) ((st_ne (Or.inl (by decide))).trans enz10600) ?_
                  refine lv_iconst (v := zI 3) hx hb dX12_readsRule_248 rfl ?_
                  refine z_icmp_ne (tgt := 259) hx hb (by omega) (by omega) dX12_readsRule_249 (by decide) (fun c1097 => ?_) (fun c1097 => ?_)
                  · refine lv_aload_n hx hb dX12_readsRule_259 rfl (lv_at hl 1 rfl) ?_
                    refine lv_iconst (v := zI 1) hx hb dX12_readsRule_260 rfl ?_
                    refine u_12_16 F w (a := 146) rfl (nar_z (by omega)) (fit_z (by omega)) tb_669 dX12_readsRule_261 (fun H locs w => ?_)
                    obtain ⟨z1098, bz1098, ez1098⟩ := IvR.ld (k := 3) (IvR.to (IvR.to hIN1059 (a := 153) (k := 2) (x := z1060) (show ivr 153 2 = ((-99), 300) from rfl) ⟨by omega, by omega⟩ ⟨by decide, by decide, by decide, fun q9 => absurd q9 (by decide)⟩) (a := 146) (k := 16) (x := 1) (show ivr 146 16 = (0, 1) from rfl) ⟨by omega, by omega⟩ ⟨by decide, by decide, by decide, fun q9 => absurd q9 (by decide)⟩) (show ivr 153 3 = (-99, 300) from rfl) (by decide)
                    rw [hQ]
                    exact e_v F w hr hlocks ⟨⟨nz10600, nz10601, 1, ((st_ne (Or.inr (by decide))).trans ((st_ne (Or.inl (by decide))).trans enz10600)), ((st_ne (Or.inr (by decide))).trans ((st_ne (Or.inl (by decide))).trans enz10601)), (st_at), ⟨by omega, by omega⟩, ⟨by omega, by omega⟩, ⟨by omega, by omega⟩, (by omega)⟩, (fun h8 => by have h9 := (zI_eq (a := 5) (b := 8) (by constructor <;> omega) (by constructor <;> omega)).mp (((st_ne (Or.inl (by decide))).trans ((st_ne (Or.inr (by decide))).trans kn1062)).symm.trans h8); exact ⟨z1098, by omega, by omega, ez1098⟩), (IvR.to (IvR.to hIN1059 (a := 153) (k := 2) (x := z1060) (show ivr 153 2 = ((-99), 300) from rfl) ⟨by omega, by omega⟩ ⟨by decide, by decide, by decide, fun q9 => absurd q9 (by decide)⟩) (a := 146) (k := 16) (x := 1) (show ivr 146 16 = (0, 1) from rfl) ⟨by omega, by omega⟩ ⟨by decide, by decide, by decide, fun q9 => absurd q9 (by decide)⟩), (Fr.to (Fr.to hGN1059 (by first | decide | (dsimp only; first | done | decide | omega) | omega)) (by first | decide | (dsimp only; first | done | decide | omega) | omega))⟩ dX12_readsRule_264
                  · refine lv_aload_n hx hb dX12_readsRule_252 rfl (lv_at hl 1 rfl) ?_
                    refine k_Vv F w (As := []) (rest := []) (a := 146) (kd_lt (a := 146) (show kd 146 = (12, 0, 0) from rfl) (by decide)) (sh_12 rfl _ _) rfl (q_X12_goesOn   (IvR.to hIN1059 (a := 153) (k := 2) (x := z1060) (show ivr 153 2 = ((-99), 300) from rfl) ⟨by omega, by omega⟩ ⟨by decide, by decide, by decide, fun q9 => absurd q9 (by decide)⟩)) gv_X12_221 hv_X12_goesOn ⟨(Nat.le_of_ble_eq_true rfl), (Nat.le_of_ble_eq_true rfl)⟩ hl.1 rfl (Nat.le_of_ble_eq_true rfl) ⟨Nat.zero_le _, Nat.zero_le _⟩ dX12_readsRule_253 (fun N1100 H locs hp w => ?_)
                    obtain ⟨⟨nz11010, nz11011, enz11010, enz11011, xz1101⟩, hIN1100, hFN1100⟩ := hp
                    have hGN1100 := Fr.tr (Fr.to hGN1059 (by first | decide | (dsimp only; first | done | decide | omega) | omega)) hFN1100 (S := (fun b9 k9 => (b9 = 146 ∧ k9 = 11) ∨ (b9 = 146 ∧ k9 = 13) ∨ (b9 = 146 ∧ k9 = 14) ∨ (b9 = 146 ∧ k9 = 15) ∨ (b9 = 146 ∧ k9 = 16) ∨ (b9 = 146 ∧ k9 = 9) ∨ b9 = 153)) (fun b k h => by (try dsimp only at h ⊢); rcases h with ⟨rfl, rfl⟩ | ⟨rfl, rfl⟩ | ⟨rfl, rfl⟩ | ⟨rfl, rfl⟩ | ⟨rfl, rfl⟩ <;> first | decide | omega)
                    have kn1102 : N1100.1 153 1 = zI 1 := (hFN1100 153 1 (by first | decide | (dsimp only; first | done | decide | omega) | omega)).trans ((st_ne (Or.inr (by decide))).trans kn1061)
                    have kn1103 : N1100.1 153 0 = zI 5 := (hFN1100 153 0 (by first | decide | (dsimp only; first | done | decide | omega) | omega)).trans ((st_ne (Or.inr (by decide))).trans kn1062)
                    have kn1104 : N1100.1 153 2 = zI z1060 := (hFN1100 153 2 (by first | decide | (dsimp only; first | done | decide | omega) | omega)).trans (st_at)
                    refine lv_goto (tgt := 264) hx hb dX12_readsRule_256 (by decide) ?_
                    obtain ⟨z1105, bz1105, ez1105⟩ := IvR.ld (k := 16) hIN1100 (show ivr 146 16 = (0, 1) from rfl) (show 146 ≤ 146 ∧ 146 < 159 by decide)
                    obtain ⟨z1106, bz1106, ez1106⟩ := IvR.ld (k := 3) hIN1100 (show ivr 153 3 = (-99, 300) from rfl) (by decide)
                    rw [hQ]
                    exact e_v F w hr hlocks ⟨⟨nz11010, nz11011, z1105, (enz11010), (enz11011), (ez1105), ⟨by omega, by omega⟩, ⟨by omega, by omega⟩, ⟨by omega, by omega⟩, (by omega)⟩, (fun h8 => by have h9 := (zI_eq (a := 5) (b := 8) (by constructor <;> omega) (by constructor <;> omega)).mp ((kn1103).symm.trans h8); exact ⟨z1106, by omega, by omega, ez1106⟩), hIN1100, hGN1100⟩ dX12_readsRule_264
                · obtain ⟨z1107, bz1107, ez1107⟩ := IvR.ld (k := 16) (IvR.to hIN1059 (a := 153) (k := 2) (x := z1060) (show ivr 153 2 = ((-99), 300) from rfl) ⟨by omega, by omega⟩ ⟨by decide, by decide, by decide, fun q9 => absurd q9 (by decide)⟩) (show ivr 146 16 = (0, 1) from rfl) (show 146 ≤ 146 ∧ 146 < 159 by decide)
                  obtain ⟨z1108, bz1108, ez1108⟩ := IvR.ld (k := 3) (IvR.to hIN1059 (a := 153) (k := 2) (x := z1060) (show ivr 153 2 = ((-99), 300) from rfl) ⟨by omega, by omega⟩ ⟨by decide, by decide, by decide, fun q9 => absurd q9 (by decide)⟩) (show ivr 153 3 = (-99, 300) from rfl) (by decide)
                  rw [hQ]
                  exact e_v F w hr hlocks ⟨⟨nz10600, nz10601, z1107, ((st_ne (Or.inl (by decide))).trans enz10600), ((st_ne (Or.inl (by decide))).trans enz10601), (ez1107), ⟨by omega, by omega⟩, ⟨by omega, by omega⟩, ⟨by omega, by omega⟩, (by omega)⟩, (fun h8 => by have h9 := (zI_eq (a := 5) (b := 8) (by constructor <;> omega) (by constructor <;> omega)).mp (((st_ne (Or.inr (by decide))).trans kn1062).symm.trans h8); exact ⟨z1108, by omega, by omega, ez1108⟩), (IvR.to hIN1059 (a := 153) (k := 2) (x := z1060) (show ivr 153 2 = ((-99), 300) from rfl) ⟨by omega, by omega⟩ ⟨by decide, by decide, by decide, fun q9 => absurd q9 (by decide)⟩), (Fr.to hGN1059 (by first | decide | (dsimp only; first | done | decide | omega) | omega))⟩ dX12_readsRule_243
              · refine lv_aload_n hx hb dX12_readsRule_232 rfl (lv_at hl 1 rfl) ?_
                refine k_Vv F w (As := []) (rest := []) (a := 146) (kd_lt (a := 146) (show kd 146 = (12, 0, 0) from rfl) (by decide)) (sh_12 rfl _ _) rfl (q_X12_readsTest   (IvR.to hIN1059 (a := 153) (k := 2) (x := z1060) (show ivr 153 2 = ((-99), 300) from rfl) ⟨by omega, by omega⟩ ⟨by decide, by decide, by decide, fun q9 => absurd q9 (by decide)⟩)) gv_X12_233 hv_X12_readsTest ⟨(Nat.le_of_ble_eq_true rfl), (Nat.le_of_ble_eq_true rfl)⟩ hl.1 rfl (Nat.le_of_ble_eq_true rfl) ⟨Nat.zero_le _, Nat.zero_le _⟩ dX12_readsRule_233 (fun N1110 H locs hp w => ?_)
                obtain ⟨⟨nz11110, nz11111, enz11110, enz11111, xz1111⟩, hIN1110, hFN1110⟩ := hp
                have hGN1110 := Fr.tr (Fr.to hGN1059 (by first | decide | (dsimp only; first | done | decide | omega) | omega)) hFN1110 (S := (fun b9 k9 => (b9 = 146 ∧ k9 = 11) ∨ (b9 = 146 ∧ k9 = 13) ∨ (b9 = 146 ∧ k9 = 14) ∨ (b9 = 146 ∧ k9 = 15) ∨ (b9 = 146 ∧ k9 = 16) ∨ (b9 = 146 ∧ k9 = 9) ∨ b9 = 153)) (fun b k h => by (try dsimp only at h ⊢); rcases h with ⟨rfl, rfl⟩ | ⟨rfl, rfl⟩ | ⟨rfl, rfl⟩ | ⟨rfl, rfl⟩ | ⟨rfl, rfl⟩ | ⟨rfl, rfl⟩ | ⟨rfl, q1, q2⟩ | ⟨rfl, q1, q2⟩ | ⟨rfl, q1, q2⟩ <;> first | decide | omega)
                have kn1112 : N1110.1 153 1 = zI 1 := (hFN1110 153 1 (by first | decide | (dsimp only; first | done | decide | omega) | omega)).trans ((st_ne (Or.inr (by decide))).trans kn1061)
                have kn1113 : N1110.1 153 0 = zI 5 := (hFN1110 153 0 (by first | decide | (dsimp only; first | done | decide | omega) | omega)).trans ((st_ne (Or.inr (by decide))).trans kn1062)
                have kn1114 : N1110.1 153 2 = zI z1060 := (hFN1110 153 2 (by first | decide | (dsimp only; first | done | decide | omega) | omega)).trans (st_at)
                refine lv_aload_n hx hb dX12_readsRule_236 rfl (lv_at hl 1 rfl) ?_
                refine f_12_16 F w (a := 146) rfl tb_669 dX12_readsRule_237 ?_
                obtain ⟨z1115, bz1115, ez1115⟩ := IvR.ld (k := 16) hIN1110 (show ivr 146 16 = (0, 1) from rfl) (show 146 ≤ 146 ∧ 146 < 159 by decide)
                refine r_val ez1115 ?_
                refine z_if_eq (tgt := 244) hx hb (by omega) dX12_readsRule_240 (by decide) (fun c1116 => ?_) (fun c1116 => ?_)
                · refine lv_aload_n hx hb dX12_readsRule_244 rfl (lv_at hl 1 rfl) ?_
                  refine f_12_13 F w (a := 146) rfl tb_602 dX12_readsRule_245 ?_
                  refine r_val (v := zI nz11110) (enz11110) ?_
                  refine lv_iconst (v := zI 3) hx hb dX12_readsRule_248 rfl ?_
                  refine z_icmp_ne (tgt := 259) hx hb (by omega) (by omega) dX12_readsRule_249 (by decide) (fun c1117 => ?_) (fun c1117 => ?_)
                  · refine lv_aload_n hx hb dX12_readsRule_259 rfl (lv_at hl 1 rfl) ?_
                    refine lv_iconst (v := zI 1) hx hb dX12_readsRule_260 rfl ?_
                    refine u_12_16 F w (a := 146) rfl (nar_z (by omega)) (fit_z (by omega)) tb_669 dX12_readsRule_261 (fun H locs w => ?_)
                    obtain ⟨z1118, bz1118, ez1118⟩ := IvR.ld (k := 3) (IvR.to hIN1110 (a := 146) (k := 16) (x := 1) (show ivr 146 16 = (0, 1) from rfl) ⟨by omega, by omega⟩ ⟨by decide, by decide, by decide, fun q9 => absurd q9 (by decide)⟩) (show ivr 153 3 = (-99, 300) from rfl) (by decide)
                    rw [hQ]
                    exact e_v F w hr hlocks ⟨⟨nz11110, nz11111, 1, ((st_ne (Or.inr (by decide))).trans enz11110), ((st_ne (Or.inr (by decide))).trans enz11111), (st_at), ⟨by omega, by omega⟩, ⟨by omega, by omega⟩, ⟨by omega, by omega⟩, (by omega)⟩, (fun h8 => by have h9 := (zI_eq (a := 5) (b := 8) (by constructor <;> omega) (by constructor <;> omega)).mp (((st_ne (Or.inl (by decide))).trans kn1113).symm.trans h8); exact ⟨z1118, by omega, by omega, ez1118⟩), (IvR.to hIN1110 (a := 146) (k := 16) (x := 1) (show ivr 146 16 = (0, 1) from rfl) ⟨by omega, by omega⟩ ⟨by decide, by decide, by decide, fun q9 => absurd q9 (by decide)⟩), (Fr.to hGN1110 (by first | decide | (dsimp only; first | done | decide | omega) | omega))⟩ dX12_readsRule_264
                  · refine lv_aload_n hx hb dX12_readsRule_252 rfl (lv_at hl 1 rfl) ?_
                    refine k_Vv F w (As := []) (rest := []) (a := 146) (kd_lt (a := 146) (show kd 146 = (12, 0, 0) from rfl) (by decide)) (sh_12 rfl _ _) rfl (q_X12_goesOn   hIN1110) gv_X12_221 hv_X12_goesOn ⟨(Nat.le_of_ble_eq_true rfl), (Nat.le_of_ble_eq_true rfl)⟩ hl.1 rfl (Nat.le_of_ble_eq_true rfl) ⟨Nat.zero_le _, Nat.zero_le _⟩ dX12_readsRule_253 (fun N1120 H locs hp w => ?_)
                    obtain ⟨⟨nz11210, nz11211, enz11210, enz11211, xz1121⟩, hIN1120, hFN1120⟩ := hp
                    have hGN1120 := Fr.tr hGN1110 hFN1120 (S := (fun b9 k9 => (b9 = 146 ∧ k9 = 11) ∨ (b9 = 146 ∧ k9 = 13) ∨ (b9 = 146 ∧ k9 = 14) ∨ (b9 = 146 ∧ k9 = 15) ∨ (b9 = 146 ∧ k9 = 16) ∨ (b9 = 146 ∧ k9 = 9) ∨ b9 = 153)) (fun b k h => by (try dsimp only at h ⊢); rcases h with ⟨rfl, rfl⟩ | ⟨rfl, rfl⟩ | ⟨rfl, rfl⟩ | ⟨rfl, rfl⟩ | ⟨rfl, rfl⟩ <;> first | decide | omega)
                    have kn1122 : N1120.1 153 1 = zI 1 := (hFN1120 153 1 (by first | decide | (dsimp only; first | done | decide | omega) | omega)).trans (kn1112)
                    have kn1123 : N1120.1 153 0 = zI 5 := (hFN1120 153 0 (by first | decide | (dsimp only; first | done | decide | omega) | omega)).trans (kn1113)
                    have kn1124 : N1120.1 153 2 = zI z1060 := (hFN1120 153 2 (by first | decide | (dsimp only; first | done | decide | omega) | omega)).trans (kn1114)
                    have kn1125 : N1120.1 146 16 = zI z1115 := (hFN1120 146 16 (by first | decide | (dsimp only; first | done | decide | omega) | omega)).trans (ez1115)
                    refine lv_goto (tgt := 264) hx hb dX12_readsRule_256 (by decide) ?_
                    obtain ⟨z1126, bz1126, ez1126⟩ := IvR.ld (k := 3) hIN1120 (show ivr 153 3 = (-99, 300) from rfl) (by decide)
                    rw [hQ]
                    exact e_v F w hr hlocks ⟨⟨nz11210, nz11211, z1115, (enz11210), (enz11211), (kn1125), ⟨by omega, by omega⟩, ⟨by omega, by omega⟩, ⟨by omega, by omega⟩, (by omega)⟩, (fun h8 => by have h9 := (zI_eq (a := 5) (b := 8) (by constructor <;> omega) (by constructor <;> omega)).mp ((kn1123).symm.trans h8); exact ⟨z1126, by omega, by omega, ez1126⟩), hIN1120, hGN1120⟩ dX12_readsRule_264
                · obtain ⟨z1127, bz1127, ez1127⟩ := IvR.ld (k := 3) hIN1110 (show ivr 153 3 = (-99, 300) from rfl) (by decide)
                  rw [hQ]
                  exact e_v F w hr hlocks ⟨⟨nz11110, nz11111, z1115, (enz11110), (enz11111), (ez1115), ⟨by omega, by omega⟩, ⟨by omega, by omega⟩, ⟨by omega, by omega⟩, (by omega)⟩, (fun h8 => by have h9 := (zI_eq (a := 5) (b := 8) (by constructor <;> omega) (by constructor <;> omega)).mp ((kn1113).symm.trans h8); exact ⟨z1127, by omega, by omega, ez1127⟩), hIN1110, hGN1110⟩ dX12_readsRule_243
          · refine lv_istore_n (lv' := [(1, .int (zI 6)), (0, .ref (B + 146))]) hx hb dX12_readsRule_63 rfl hl (by decide) rfl (fun ls hl => ?_)
            refine lv_aload_n hx hb dX12_readsRule_64 rfl (lv_at hl 1 rfl) ?_
            refine f_12_17 F w (a := 146) rfl tb_676 dX12_readsRule_65 ?_
            refine lv_iconst (v := zI 0) hx hb dX12_readsRule_68 rfl ?_
            refine lv_iload_n hx hb dX12_readsRule_69 rfl (lv_at hl 0 rfl) ?_
            refine g_iast F w (a := 153) rfl (j := 0) ⟨by decide, by decide⟩ (by omega) dX12_readsRule_70 (fun H locs w => ?_)
            refine lv_iload_n hx hb dX12_readsRule_71 rfl (lv_at hl 0 rfl) ?_
            refine lv_bipush (v := zI 8) hx hb dX12_readsRule_72 (by decide) ?_
            refine z_icmp_ne (tgt := 90) hx hb (by omega) (by omega) dX12_readsRule_74 (by decide) (fun c1128 => ?_) (fun c1128 => False.elim (by omega))
            refine lv_iload_n hx hb dX12_readsRule_90 rfl (lv_at hl 0 rfl) ?_
            refine z_if_eq (tgt := 119) hx hb (by omega) dX12_readsRule_91 (by decide) (fun c1129 => False.elim (by omega)) (fun c1129 => ?_)
            refine lv_aload_n hx hb dX12_readsRule_94 rfl (lv_at hl 1 rfl) ?_
            refine f_12_17 F w (a := 146) rfl tb_676 dX12_readsRule_95 ?_
            refine lv_iconst (v := zI 2) hx hb dX12_readsRule_98 rfl ?_
            refine lv_aload_n hx hb dX12_readsRule_99 rfl (lv_at hl 1 rfl) ?_
            refine lv_bipush (v := zI 11) hx hb dX12_readsRule_100 (by decide) ?_
            refine lv_iload_n hx hb dX12_readsRule_102 rfl (lv_at hl 0 rfl) ?_
            refine lv_bipush (v := zI 9) hx hb dX12_readsRule_103 (by decide) ?_
            refine z_icmp_ne (tgt := 113) hx hb (by omega) (by omega) dX12_readsRule_105 (by decide) (fun c1130 => ?_) (fun c1130 => False.elim (by omega))
            refine lv_bipush (v := zI 14) hx hb dX12_readsRule_113 (by decide) ?_
            refine k_Vi F w (As := [.int (zI 11), .int (zI 14)]) (rest := [.int (zI 2), .ref (B + 153)]) (a := 146) (kd_lt (a := 146) (show kd 146 = (12, 0, 0) from rfl) (by decide)) (sh_12 rfl _ _) rfl (q_X12_needs (x := 11) ⟨by omega, by omega⟩ (x1 := 14) ⟨by omega, by omega⟩ (tk := nz6710) ((st_ne (Or.inl (by decide))).trans enz6710) ⟨by omega, by omega⟩ (nb := nz6711) ((st_ne (Or.inl (by decide))).trans enz6711) ⟨by omega, by omega⟩ (by omega) (IvR.to hIN670 (a := 153) (k := 0) (x := 6) (show ivr 153 0 = ((-99), 300) from rfl) ⟨by omega, by omega⟩ ⟨by decide, by decide, by decide, fun q9 => absurd q9 (by decide)⟩)) gv_X12_227 hv_X12_needs ⟨(Nat.le_of_ble_eq_true rfl), (Nat.le_of_ble_eq_true rfl)⟩ hl.1 rfl (Nat.le_of_ble_eq_true rfl) ⟨Nat.zero_le _, Nat.zero_le _⟩ dX12_readsRule_115 (fun r1131 N1132 H locs hp w => ?_)
            obtain ⟨z1133, rfl, bz1133, ⟨nz11330, nz11331, enz11330, enz11331, xz1133⟩, hIN1132, hFN1132⟩ := hp
            have hGN1132 := Fr.tr (Fr.to hGN670 (by first | decide | (dsimp only; first | done | decide | omega) | omega)) hFN1132 (S := (fun b9 k9 => (b9 = 146 ∧ k9 = 11) ∨ (b9 = 146 ∧ k9 = 13) ∨ (b9 = 146 ∧ k9 = 14) ∨ (b9 = 146 ∧ k9 = 15) ∨ (b9 = 146 ∧ k9 = 16) ∨ (b9 = 146 ∧ k9 = 9) ∨ b9 = 153)) (fun b k h => by (try dsimp only at h ⊢); rcases h with ⟨rfl, rfl⟩ | ⟨rfl, rfl⟩ | ⟨rfl, rfl⟩ | ⟨rfl, rfl⟩ | ⟨rfl, rfl⟩ | ⟨rfl, rfl⟩ <;> first | decide | omega)
            have kn1134 : N1132.1 153 1 = zI 1 := (hFN1132 153 1 (by first | decide | (dsimp only; first | done | decide | omega) | omega)).trans ((st_ne (Or.inr (by decide))).trans kn672)
            have kn1135 : N1132.1 153 0 = zI 6 := (hFN1132 153 0 (by first | decide | (dsimp only; first | done | decide | omega) | omega)).trans (st_at)
            refine g_iast F w (a := 153) rfl (j := 2) ⟨by decide, by decide⟩ (by omega) dX12_readsRule_118 (fun H locs w => ?_)
            refine lv_iload_n hx hb dX12_readsRule_119 rfl (lv_at hl 0 rfl) ?_
            refine lv_bipush (v := zI 7) hx hb dX12_readsRule_120 (by decide) ?_
            refine z_icmp_ne (tgt := 148) hx hb (by omega) (by omega) dX12_readsRule_122 (by decide) (fun c1136 => ?_) (fun c1136 => False.elim (by omega))
            refine lv_iload_n hx hb dX12_readsRule_148 rfl (lv_at hl 0 rfl) ?_
            refine k_Si F w (As := [.int (zI 6)]) (rest := []) (q_X12_hasSide (x := 6) ⟨by omega, by omega⟩  (IvR.to hIN1132 (a := 153) (k := 2) (x := z1133) (show ivr 153 2 = ((-99), 300) from rfl) ⟨by omega, by omega⟩ ⟨by decide, by decide, by decide, fun q9 => absurd q9 (by decide)⟩)) gs_X12_137 hs_X12_hasSide ⟨(Nat.le_of_ble_eq_true rfl), (Nat.le_of_ble_eq_true rfl)⟩ hl.1 rfl (Nat.le_of_ble_eq_true rfl) ⟨Nat.zero_le _, Nat.zero_le _⟩ dX12_readsRule_149 (fun r1137 N1138 H locs hp w => ?_)
            obtain ⟨z1139, rfl, bz1139, xz1139, hMN1138⟩ := hp
            rw [hMN1138] at w
            refine z_if_eq (tgt := 169) hx hb (by omega) dX12_readsRule_152 (by decide) (fun c1140 => ?_) (fun c1140 => False.elim (by omega))
            refine lv_iload_n hx hb dX12_readsRule_169 rfl (lv_at hl 0 rfl) ?_
            refine lv_iconst (v := zI 3) hx hb dX12_readsRule_170 rfl ?_
            refine z_icmp_eq (tgt := 180) hx hb (by omega) (by omega) dX12_readsRule_171 (by decide) (fun c1141 => False.elim (by omega)) (fun c1141 => ?_)
            refine lv_iload_n hx hb dX12_readsRule_174 rfl (lv_at hl 0 rfl) ?_
            refine lv_bipush (v := zI 8) hx hb dX12_readsRule_175 (by decide) ?_
            refine z_icmp_ne (tgt := 194) hx hb (by omega) (by omega) dX12_readsRule_177 (by decide) (fun c1142 => ?_) (fun c1142 => False.elim (by omega))
            refine lv_iload_n hx hb dX12_readsRule_194 rfl (lv_at hl 0 rfl) ?_
            refine lv_iconst (v := zI 1) hx hb dX12_readsRule_195 rfl ?_
            refine z_icmp_ne (tgt := 209) hx hb (by omega) (by omega) dX12_readsRule_196 (by decide) (fun c1143 => ?_) (fun c1143 => False.elim (by omega))
            refine lv_aload_n hx hb dX12_readsRule_209 rfl (lv_at hl 1 rfl) ?_
            refine f_12_16 F w (a := 146) rfl tb_669 dX12_readsRule_210 ?_
            obtain ⟨z1144, bz1144, ez1144⟩ := IvR.ld (k := 16) (IvR.to hIN1132 (a := 153) (k := 2) (x := z1133) (show ivr 153 2 = ((-99), 300) from rfl) ⟨by omega, by omega⟩ ⟨by decide, by decide, by decide, fun q9 => absurd q9 (by decide)⟩) (show ivr 146 16 = (0, 1) from rfl) (show 146 ≤ 146 ∧ 146 < 159 by decide)
            refine r_val ez1144 ?_
            refine z_if_ne (tgt := 236) hx hb (by omega) dX12_readsRule_213 (by decide) (fun c1145 => ?_) (fun c1145 => ?_)
            · refine lv_aload_n hx hb dX12_readsRule_236 rfl (lv_at hl 1 rfl) ?_
              refine f_12_16 F w (a := 146) rfl tb_669 dX12_readsRule_237 ?_
              obtain ⟨z1146, bz1146, ez1146⟩ := IvR.ld (k := 16) (IvR.to hIN1132 (a := 153) (k := 2) (x := z1133) (show ivr 153 2 = ((-99), 300) from rfl) ⟨by omega, by omega⟩ ⟨by decide, by decide, by decide, fun q9 => absurd q9 (by decide)⟩) (show ivr 146 16 = (0, 1) from rfl) (show 146 ≤ 146 ∧ 146 < 159 by decide)
              refine r_val ez1146 ?_
              refine z_if_eq (tgt := 244) hx hb (by omega) dX12_readsRule_240 (by decide) (fun c1147 => ?_) (fun c1147 => ?_)
              · refine lv_aload_n hx hb dX12_readsRule_244 rfl (lv_at hl 1 rfl) ?_
                refine f_12_13 F w (a := 146) rfl tb_602 dX12_readsRule_245 ?_
                refine r_val (v := zI nz11330) ((st_ne (Or.inl (by decide))).trans enz11330) ?_
                refine lv_iconst (v := zI 3) hx hb dX12_readsRule_248 rfl ?_
                refine z_icmp_ne (tgt := 259) hx hb (by omega) (by omega) dX12_readsRule_249 (by decide) (fun c1148 => ?_) (fun c1148 => ?_)
                · refine lv_aload_n hx hb dX12_readsRule_259 rfl (lv_at hl 1 rfl) ?_
                  refine lv_iconst (v := zI 1) hx hb dX12_readsRule_260 rfl ?_
                  refine u_12_16 F w (a := 146) rfl (nar_z (by omega)) (fit_z (by omega)) tb_669 dX12_readsRule_261 (fun H locs w => ?_)
                  obtain ⟨z1149, bz1149, ez1149⟩ := IvR.ld (k := 3) (IvR.to (IvR.to hIN1132 (a := 153) (k := 2) (x := z1133) (show ivr 153 2 = ((-99), 300) from rfl) ⟨by omega, by omega⟩ ⟨by decide, by decide, by decide, fun q9 => absurd q9 (by decide)⟩) (a := 146) (k := 16) (x := 1) (show ivr 146 16 = (0, 1) from rfl) ⟨by omega, by omega⟩ ⟨by decide, by decide, by decide, fun q9 => absurd q9 (by decide)⟩) (show ivr 153 3 = (-99, 300) from rfl) (by decide)
                  rw [hQ]
                  exact e_v F w hr hlocks ⟨⟨nz11330, nz11331, 1, ((st_ne (Or.inr (by decide))).trans ((st_ne (Or.inl (by decide))).trans enz11330)), ((st_ne (Or.inr (by decide))).trans ((st_ne (Or.inl (by decide))).trans enz11331)), (st_at), ⟨by omega, by omega⟩, ⟨by omega, by omega⟩, ⟨by omega, by omega⟩, (by omega)⟩, (fun h8 => by have h9 := (zI_eq (a := 6) (b := 8) (by constructor <;> omega) (by constructor <;> omega)).mp (((st_ne (Or.inl (by decide))).trans ((st_ne (Or.inr (by decide))).trans kn1135)).symm.trans h8); exact ⟨z1149, by omega, by omega, ez1149⟩), (IvR.to (IvR.to hIN1132 (a := 153) (k := 2) (x := z1133) (show ivr 153 2 = ((-99), 300) from rfl) ⟨by omega, by omega⟩ ⟨by decide, by decide, by decide, fun q9 => absurd q9 (by decide)⟩) (a := 146) (k := 16) (x := 1) (show ivr 146 16 = (0, 1) from rfl) ⟨by omega, by omega⟩ ⟨by decide, by decide, by decide, fun q9 => absurd q9 (by decide)⟩), (Fr.to (Fr.to hGN1132 (by first | decide | (dsimp only; first | done | decide | omega) | omega)) (by first | decide | (dsimp only; first | done | decide | omega) | omega))⟩ dX12_readsRule_264
                · refine lv_aload_n hx hb dX12_readsRule_252 rfl (lv_at hl 1 rfl) ?_
                  refine k_Vv F w (As := []) (rest := []) (a := 146) (kd_lt (a := 146) (show kd 146 = (12, 0, 0) from rfl) (by decide)) (sh_12 rfl _ _) rfl (q_X12_goesOn   (IvR.to hIN1132 (a := 153) (k := 2) (x := z1133) (show ivr 153 2 = ((-99), 300) from rfl) ⟨by omega, by omega⟩ ⟨by decide, by decide, by decide, fun q9 => absurd q9 (by decide)⟩)) gv_X12_221 hv_X12_goesOn ⟨(Nat.le_of_ble_eq_true rfl), (Nat.le_of_ble_eq_true rfl)⟩ hl.1 rfl (Nat.le_of_ble_eq_true rfl) ⟨Nat.zero_le _, Nat.zero_le _⟩ dX12_readsRule_253 (fun N1151 H locs hp w => ?_)
                  obtain ⟨⟨nz11520, nz11521, enz11520, enz11521, xz1152⟩, hIN1151, hFN1151⟩ := hp
                  have hGN1151 := Fr.tr (Fr.to hGN1132 (by first | decide | (dsimp only; first | done | decide | omega) | omega)) hFN1151 (S := (fun b9 k9 => (b9 = 146 ∧ k9 = 11) ∨ (b9 = 146 ∧ k9 = 13) ∨ (b9 = 146 ∧ k9 = 14) ∨ (b9 = 146 ∧ k9 = 15) ∨ (b9 = 146 ∧ k9 = 16) ∨ (b9 = 146 ∧ k9 = 9) ∨ b9 = 153)) (fun b k h => by (try dsimp only at h ⊢); rcases h with ⟨rfl, rfl⟩ | ⟨rfl, rfl⟩ | ⟨rfl, rfl⟩ | ⟨rfl, rfl⟩ | ⟨rfl, rfl⟩ <;> first | decide | omega)
                  have kn1153 : N1151.1 153 1 = zI 1 := (hFN1151 153 1 (by first | decide | (dsimp only; first | done | decide | omega) | omega)).trans ((st_ne (Or.inr (by decide))).trans kn1134)
                  have kn1154 : N1151.1 153 0 = zI 6 := (hFN1151 153 0 (by first | decide | (dsimp only; first | done | decide | omega) | omega)).trans ((st_ne (Or.inr (by decide))).trans kn1135)
                  have kn1155 : N1151.1 153 2 = zI z1133 := (hFN1151 153 2 (by first | decide | (dsimp only; first | done | decide | omega) | omega)).trans (st_at)
                  refine lv_goto (tgt := 264) hx hb dX12_readsRule_256 (by decide) ?_
                  obtain ⟨z1156, bz1156, ez1156⟩ := IvR.ld (k := 16) hIN1151 (show ivr 146 16 = (0, 1) from rfl) (show 146 ≤ 146 ∧ 146 < 159 by decide)
                  obtain ⟨z1157, bz1157, ez1157⟩ := IvR.ld (k := 3) hIN1151 (show ivr 153 3 = (-99, 300) from rfl) (by decide)
                  rw [hQ]
                  exact e_v F w hr hlocks ⟨⟨nz11520, nz11521, z1156, (enz11520), (enz11521), (ez1156), ⟨by omega, by omega⟩, ⟨by omega, by omega⟩, ⟨by omega, by omega⟩, (by omega)⟩, (fun h8 => by have h9 := (zI_eq (a := 6) (b := 8) (by constructor <;> omega) (by constructor <;> omega)).mp ((kn1154).symm.trans h8); exact ⟨z1157, by omega, by omega, ez1157⟩), hIN1151, hGN1151⟩ dX12_readsRule_264
              · obtain ⟨z1158, bz1158, ez1158⟩ := IvR.ld (k := 16) (IvR.to hIN1132 (a := 153) (k := 2) (x := z1133) (show ivr 153 2 = ((-99), 300) from rfl) ⟨by omega, by omega⟩ ⟨by decide, by decide, by decide, fun q9 => absurd q9 (by decide)⟩) (show ivr 146 16 = (0, 1) from rfl) (show 146 ≤ 146 ∧ 146 < 159 by decide)
                obtain ⟨z1159, bz1159, ez1159⟩ := IvR.ld (k := 3) (IvR.to hIN1132 (a := 153) (k := 2) (x := z1133) (show ivr 153 2 = ((-99), 300) from rfl) ⟨by omega, by omega⟩ ⟨by decide, by decide, by decide, fun q9 => absurd q9 (by decide)⟩) (show ivr 153 3 = (-99, 300) from rfl) (by decide)
                rw [hQ]
                exact e_v F w hr hlocks ⟨⟨nz11330, nz11331, z1158, ((st_ne (Or.inl (by decide))).trans enz11330), ((st_ne (Or.inl (by decide))).trans enz11331), (ez1158), ⟨by omega, by omega⟩, ⟨by omega, by omega⟩, ⟨by omega, by omega⟩, (by omega)⟩, (fun h8 => by have h9 := (zI_eq (a := 6) (b := 8) (by constructor <;> omega) (by constructor <;> omega)).mp (((st_ne (Or.inr (by decide))).trans kn1135).symm.trans h8); exact ⟨z1159, by omega, by omega, ez1159⟩), (IvR.to hIN1132 (a := 153) (k := 2) (x := z1133) (show ivr 153 2 = ((-99), 300) from rfl) ⟨by omega, by omega⟩ ⟨by decide, by decide, by decide, fun q9 => absurd q9 (by decide)⟩), (Fr.to hGN1132 (by first | decide | (dsimp only; first | done | decide | omega) | omega))⟩ dX12_readsRule_243
            · refine lv_iload_n hx hb dX12_readsRule_216 rfl (lv_at hl 0 rfl) ?_
              refine k_Si F w (As := [.int (zI 6)]) (rest := []) (q_X12_isBySyllables (x := 6) ⟨by omega, by omega⟩  (IvR.to hIN1132 (a := 153) (k := 2) (x := z1133) (show ivr 153 2 = ((-99), 300) from rfl) ⟨by omega, by omega⟩ ⟨by decide, by decide, by decide, fun q9 => absurd q9 (by decide)⟩)) gs_X12_140 hs_X12_isBySyllables ⟨(Nat.le_of_ble_eq_true rfl), (Nat.le_of_ble_eq_true rfl)⟩ hl.1 rfl (Nat.le_of_ble_eq_true rfl) ⟨Nat.zero_le _, Nat.zero_le _⟩ dX12_readsRule_217 (fun r1160 N1161 H locs hp w => ?_)
              obtain ⟨z1162, rfl, bz1162, xz1162, hMN1161⟩ := hp
              rw [hMN1161] at w
              refine z_if_ne (tgt := 236) hx hb (by omega) dX12_readsRule_220 (by decide) (fun c1163 => False.elim (by omega)) (fun c1163 => ?_)
              refine lv_aload_n hx hb dX12_readsRule_223 rfl (lv_at hl 1 rfl) ?_
              refine lv_bipush (v := zI 20) hx hb dX12_readsRule_224 (by decide) ?_
              refine k_Vi F w (As := [.int (zI 20)]) (rest := []) (a := 146) (kd_lt (a := 146) (show kd 146 = (12, 0, 0) from rfl) (by decide)) (sh_12 rfl _ _) rfl (q_X12_isWord (x := 20) ⟨by omega, by omega⟩  (IvR.to hIN1132 (a := 153) (k := 2) (x := z1133) (show ivr 153 2 = ((-99), 300) from rfl) ⟨by omega, by omega⟩ ⟨by decide, by decide, by decide, fun q9 => absurd q9 (by decide)⟩)) gv_X12_224 hv_X12_isWord ⟨(Nat.le_of_ble_eq_true rfl), (Nat.le_of_ble_eq_true rfl)⟩ hl.1 rfl (Nat.le_of_ble_eq_true rfl) ⟨Nat.zero_le _, Nat.zero_le _⟩ dX12_readsRule_226 (fun r1164 N1165 H locs hp w => ?_)
              obtain ⟨z1166, rfl, bz1166, hMN1165⟩ := hp
              rw [hMN1165] at w
              refine z_if_eq (tgt := 236) hx hb (by omega) dX12_readsRule_229 (by decide) (fun c1167 => ?_) (fun c1167 => ?_)
              · refine lv_aload_n hx hb dX12_readsRule_236 rfl (lv_at hl 1 rfl) ?_
                refine f_12_16 F w (a := 146) rfl tb_669 dX12_readsRule_237 ?_
                obtain ⟨z1168, bz1168, ez1168⟩ := IvR.ld (k := 16) (IvR.to hIN1132 (a := 153) (k := 2) (x := z1133) (show ivr 153 2 = ((-99), 300) from rfl) ⟨by omega, by omega⟩ ⟨by decide, by decide, by decide, fun q9 => absurd q9 (by decide)⟩) (show ivr 146 16 = (0, 1) from rfl) (show 146 ≤ 146 ∧ 146 < 159 by decide)
                refine r_val ez1168 ?_
                refine z_if_eq (tgt := 244) hx hb (by omega) dX12_readsRule_240 (by decide) (fun c1169 => ?_) (fun c1169 => ?_)
                · refine lv_aload_n hx hb dX12_readsRule_244 rfl (lv_at hl 1 rfl) ?_
                  refine f_12_13 F w (a := 146) rfl tb_602 dX12_readsRule_245 ?_
                  refine r_val (v := zI nz11330) ((st_ne (Or.inl (by decide))).trans enz11330) ?_
                  refine lv_iconst (v := zI 3) hx hb dX12_readsRule_248 rfl ?_
                  refine z_icmp_ne (tgt := 259) hx hb (by omega) (by omega) dX12_readsRule_249 (by decide) (fun c1170 => ?_) (fun c1170 => ?_)
                  · refine lv_aload_n hx hb dX12_readsRule_259 rfl (lv_at hl 1 rfl) ?_
                    refine lv_iconst (v := zI 1) hx hb dX12_readsRule_260 rfl ?_
                    refine u_12_16 F w (a := 146) rfl (nar_z (by omega)) (fit_z (by omega)) tb_669 dX12_readsRule_261 (fun H locs w => ?_)
                    obtain ⟨z1171, bz1171, ez1171⟩ := IvR.ld (k := 3) (IvR.to (IvR.to hIN1132 (a := 153) (k := 2) (x := z1133) (show ivr 153 2 = ((-99), 300) from rfl) ⟨by omega, by omega⟩ ⟨by decide, by decide, by decide, fun q9 => absurd q9 (by decide)⟩) (a := 146) (k := 16) (x := 1) (show ivr 146 16 = (0, 1) from rfl) ⟨by omega, by omega⟩ ⟨by decide, by decide, by decide, fun q9 => absurd q9 (by decide)⟩) (show ivr 153 3 = (-99, 300) from rfl) (by decide)
                    rw [hQ]
                    exact e_v F w hr hlocks ⟨⟨nz11330, nz11331, 1, ((st_ne (Or.inr (by decide))).trans ((st_ne (Or.inl (by decide))).trans enz11330)), ((st_ne (Or.inr (by decide))).trans ((st_ne (Or.inl (by decide))).trans enz11331)), (st_at), ⟨by omega, by omega⟩, ⟨by omega, by omega⟩, ⟨by omega, by omega⟩, (by omega)⟩, (fun h8 => by have h9 := (zI_eq (a := 6) (b := 8) (by constructor <;> omega) (by constructor <;> omega)).mp (((st_ne (Or.inl (by decide))).trans ((st_ne (Or.inr (by decide))).trans kn1135)).symm.trans h8); exact ⟨z1171, by omega, by omega, ez1171⟩), (IvR.to (IvR.to hIN1132 (a := 153) (k := 2) (x := z1133) (show ivr 153 2 = ((-99), 300) from rfl) ⟨by omega, by omega⟩ ⟨by decide, by decide, by decide, fun q9 => absurd q9 (by decide)⟩) (a := 146) (k := 16) (x := 1) (show ivr 146 16 = (0, 1) from rfl) ⟨by omega, by omega⟩ ⟨by decide, by decide, by decide, fun q9 => absurd q9 (by decide)⟩), (Fr.to (Fr.to hGN1132 (by first | decide | (dsimp only; first | done | decide | omega) | omega)) (by first | decide | (dsimp only; first | done | decide | omega) | omega))⟩ dX12_readsRule_264
                  · refine lv_aload_n hx hb dX12_readsRule_252 rfl (lv_at hl 1 rfl) ?_
                    refine k_Vv F w (As := []) (rest := []) (a := 146) (kd_lt (a := 146) (show kd 146 = (12, 0, 0) from rfl) (by decide)) (sh_12 rfl _ _) rfl (q_X12_goesOn   (IvR.to hIN1132 (a := 153) (k := 2) (x := z1133) (show ivr 153 2 = ((-99), 300) from rfl) ⟨by omega, by omega⟩ ⟨by decide, by decide, by decide, fun q9 => absurd q9 (by decide)⟩)) gv_X12_221 hv_X12_goesOn ⟨(Nat.le_of_ble_eq_true rfl), (Nat.le_of_ble_eq_true rfl)⟩ hl.1 rfl (Nat.le_of_ble_eq_true rfl) ⟨Nat.zero_le _, Nat.zero_le _⟩ dX12_readsRule_253 (fun N1173 H locs hp w => ?_)
                    obtain ⟨⟨nz11740, nz11741, enz11740, enz11741, xz1174⟩, hIN1173, hFN1173⟩ := hp
                    have hGN1173 := Fr.tr (Fr.to hGN1132 (by first | decide | (dsimp only; first | done | decide | omega) | omega)) hFN1173 (S := (fun b9 k9 => (b9 = 146 ∧ k9 = 11) ∨ (b9 = 146 ∧ k9 = 13) ∨ (b9 = 146 ∧ k9 = 14) ∨ (b9 = 146 ∧ k9 = 15) ∨ (b9 = 146 ∧ k9 = 16) ∨ (b9 = 146 ∧ k9 = 9) ∨ b9 = 153)) (fun b k h => by (try dsimp only at h ⊢); rcases h with ⟨rfl, rfl⟩ | ⟨rfl, rfl⟩ | ⟨rfl, rfl⟩ | ⟨rfl, rfl⟩ | ⟨rfl, rfl⟩ <;> first | decide | omega)
                    have kn1175 : N1173.1 153 1 = zI 1 := (hFN1173 153 1 (by first | decide | (dsimp only; first | done | decide | omega) | omega)).trans ((st_ne (Or.inr (by decide))).trans kn1134)
                    have kn1176 : N1173.1 153 0 = zI 6 := (hFN1173 153 0 (by first | decide | (dsimp only; first | done | decide | omega) | omega)).trans ((st_ne (Or.inr (by decide))).trans kn1135)
                    have kn1177 : N1173.1 153 2 = zI z1133 := (hFN1173 153 2 (by first | decide | (dsimp only; first | done | decide | omega) | omega)).trans (st_at)
                    refine lv_goto (tgt := 264) hx hb dX12_readsRule_256 (by decide) ?_
                    obtain ⟨z1178, bz1178, ez1178⟩ := IvR.ld (k := 16) hIN1173 (show ivr 146 16 = (0, 1) from rfl) (show 146 ≤ 146 ∧ 146 < 159 by decide)
                    obtain ⟨z1179, bz1179, ez1179⟩ := IvR.ld (k := 3) hIN1173 (show ivr 153 3 = (-99, 300) from rfl) (by decide)
                    rw [hQ]
                    exact e_v F w hr hlocks ⟨⟨nz11740, nz11741, z1178, (enz11740), (enz11741), (ez1178), ⟨by omega, by omega⟩, ⟨by omega, by omega⟩, ⟨by omega, by omega⟩, (by omega)⟩, (fun h8 => by have h9 := (zI_eq (a := 6) (b := 8) (by constructor <;> omega) (by constructor <;> omega)).mp ((kn1176).symm.trans h8); exact ⟨z1179, by omega, by omega, ez1179⟩), hIN1173, hGN1173⟩ dX12_readsRule_264
                · obtain ⟨z1180, bz1180, ez1180⟩ := IvR.ld (k := 16) (IvR.to hIN1132 (a := 153) (k := 2) (x := z1133) (show ivr 153 2 = ((-99), 300) from rfl) ⟨by omega, by omega⟩ ⟨by decide, by decide, by decide, fun q9 => absurd q9 (by decide)⟩) (show ivr 146 16 = (0, 1) from rfl) (show 146 ≤ 146 ∧ 146 < 159 by decide)
                  obtain ⟨z1181, bz1181, ez1181⟩ := IvR.ld (k := 3) (IvR.to hIN1132 (a := 153) (k := 2) (x := z1133) (show ivr 153 2 = ((-99), 300) from rfl) ⟨by omega, by omega⟩ ⟨by decide, by decide, by decide, fun q9 => absurd q9 (by decide)⟩) (show ivr 153 3 = (-99, 300) from rfl) (by decide)
                  rw [hQ]
                  exact e_v F w hr hlocks ⟨⟨nz11330, nz11331, z1180, ((st_ne (Or.inl (by decide))).trans enz11330), ((st_ne (Or.inl (by decide))).trans enz11331), (ez1180), ⟨by omega, by omega⟩, ⟨by omega, by omega⟩, ⟨by omega, by omega⟩, (by omega)⟩, (fun h8 => by have h9 := (zI_eq (a := 6) (b := 8) (by constructor <;> omega) (by constructor <;> omega)).mp (((st_ne (Or.inr (by decide))).trans kn1135).symm.trans h8); exact ⟨z1181, by omega, by omega, ez1181⟩), (IvR.to hIN1132 (a := 153) (k := 2) (x := z1133) (show ivr 153 2 = ((-99), 300) from rfl) ⟨by omega, by omega⟩ ⟨by decide, by decide, by decide, fun q9 => absurd q9 (by decide)⟩), (Fr.to hGN1132 (by first | decide | (dsimp only; first | done | decide | omega) | omega))⟩ dX12_readsRule_243
              · refine lv_aload_n hx hb dX12_readsRule_232 rfl (lv_at hl 1 rfl) ?_
                refine k_Vv F w (As := []) (rest := []) (a := 146) (kd_lt (a := 146) (show kd 146 = (12, 0, 0) from rfl) (by decide)) (sh_12 rfl _ _) rfl (q_X12_readsTest   (IvR.to hIN1132 (a := 153) (k := 2) (x := z1133) (show ivr 153 2 = ((-99), 300) from rfl) ⟨by omega, by omega⟩ ⟨by decide, by decide, by decide, fun q9 => absurd q9 (by decide)⟩)) gv_X12_233 hv_X12_readsTest ⟨(Nat.le_of_ble_eq_true rfl), (Nat.le_of_ble_eq_true rfl)⟩ hl.1 rfl (Nat.le_of_ble_eq_true rfl) ⟨Nat.zero_le _, Nat.zero_le _⟩ dX12_readsRule_233 (fun N1183 H locs hp w => ?_)
                obtain ⟨⟨nz11840, nz11841, enz11840, enz11841, xz1184⟩, hIN1183, hFN1183⟩ := hp
                have hGN1183 := Fr.tr (Fr.to hGN1132 (by first | decide | (dsimp only; first | done | decide | omega) | omega)) hFN1183 (S := (fun b9 k9 => (b9 = 146 ∧ k9 = 11) ∨ (b9 = 146 ∧ k9 = 13) ∨ (b9 = 146 ∧ k9 = 14) ∨ (b9 = 146 ∧ k9 = 15) ∨ (b9 = 146 ∧ k9 = 16) ∨ (b9 = 146 ∧ k9 = 9) ∨ b9 = 153)) (fun b k h => by (try dsimp only at h ⊢); rcases h with ⟨rfl, rfl⟩ | ⟨rfl, rfl⟩ | ⟨rfl, rfl⟩ | ⟨rfl, rfl⟩ | ⟨rfl, rfl⟩ | ⟨rfl, rfl⟩ | ⟨rfl, q1, q2⟩ | ⟨rfl, q1, q2⟩ | ⟨rfl, q1, q2⟩ <;> first | decide | omega)
                have kn1185 : N1183.1 153 1 = zI 1 := (hFN1183 153 1 (by first | decide | (dsimp only; first | done | decide | omega) | omega)).trans ((st_ne (Or.inr (by decide))).trans kn1134)
                have kn1186 : N1183.1 153 0 = zI 6 := (hFN1183 153 0 (by first | decide | (dsimp only; first | done | decide | omega) | omega)).trans ((st_ne (Or.inr (by decide))).trans kn1135)
                have kn1187 : N1183.1 153 2 = zI z1133 := (hFN1183 153 2 (by first | decide | (dsimp only; first | done | decide | omega) | omega)).trans (st_at)
                refine lv_aload_n hx hb dX12_readsRule_236 rfl (lv_at hl 1 rfl) ?_
                refine f_12_16 F w (a := 146) rfl tb_669 dX12_readsRule_237 ?_
                obtain ⟨z1188, bz1188, ez1188⟩ := IvR.ld (k := 16) hIN1183 (show ivr 146 16 = (0, 1) from rfl) (show 146 ≤ 146 ∧ 146 < 159 by decide)
                refine r_val ez1188 ?_
                refine z_if_eq (tgt := 244) hx hb (by omega) dX12_readsRule_240 (by decide) (fun c1189 => ?_) (fun c1189 => ?_)
                · refine lv_aload_n hx hb dX12_readsRule_244 rfl (lv_at hl 1 rfl) ?_
                  refine f_12_13 F w (a := 146) rfl tb_602 dX12_readsRule_245 ?_
                  refine r_val (v := zI nz11840) (enz11840) ?_
                  refine lv_iconst (v := zI 3) hx hb dX12_readsRule_248 rfl ?_
                  refine z_icmp_ne (tgt := 259) hx hb (by omega) (by omega) dX12_readsRule_249 (by decide) (fun c1190 => ?_) (fun c1190 => ?_)
                  · refine lv_aload_n hx hb dX12_readsRule_259 rfl (lv_at hl 1 rfl) ?_
                    refine lv_iconst (v := zI 1) hx hb dX12_readsRule_260 rfl ?_
                    refine u_12_16 F w (a := 146) rfl (nar_z (by omega)) (fit_z (by omega)) tb_669 dX12_readsRule_261 (fun H locs w => ?_)
                    obtain ⟨z1191, bz1191, ez1191⟩ := IvR.ld (k := 3) (IvR.to hIN1183 (a := 146) (k := 16) (x := 1) (show ivr 146 16 = (0, 1) from rfl) ⟨by omega, by omega⟩ ⟨by decide, by decide, by decide, fun q9 => absurd q9 (by decide)⟩) (show ivr 153 3 = (-99, 300) from rfl) (by decide)
                    rw [hQ]
                    exact e_v F w hr hlocks ⟨⟨nz11840, nz11841, 1, ((st_ne (Or.inr (by decide))).trans enz11840), ((st_ne (Or.inr (by decide))).trans enz11841), (st_at), ⟨by omega, by omega⟩, ⟨by omega, by omega⟩, ⟨by omega, by omega⟩, (by omega)⟩, (fun h8 => by have h9 := (zI_eq (a := 6) (b := 8) (by constructor <;> omega) (by constructor <;> omega)).mp (((st_ne (Or.inl (by decide))).trans kn1186).symm.trans h8); exact ⟨z1191, by omega, by omega, ez1191⟩), (IvR.to hIN1183 (a := 146) (k := 16) (x := 1) (show ivr 146 16 = (0, 1) from rfl) ⟨by omega, by omega⟩ ⟨by decide, by decide, by decide, fun q9 => absurd q9 (by decide)⟩), (Fr.to hGN1183 (by first | decide | (dsimp only; first | done | decide | omega) | omega))⟩ dX12_readsRule_264
                  · refine lv_aload_n hx hb dX12_readsRule_252 rfl (lv_at hl 1 rfl) ?_
                    refine k_Vv F w (As := []) (rest := []) (a := 146) (kd_lt (a := 146) (show kd 146 = (12, 0, 0) from rfl) (by decide)) (sh_12 rfl _ _) rfl (q_X12_goesOn   hIN1183) gv_X12_221 hv_X12_goesOn ⟨(Nat.le_of_ble_eq_true rfl), (Nat.le_of_ble_eq_true rfl)⟩ hl.1 rfl (Nat.le_of_ble_eq_true rfl) ⟨Nat.zero_le _, Nat.zero_le _⟩ dX12_readsRule_253 (fun N1193 H locs hp w => ?_)
                    obtain ⟨⟨nz11940, nz11941, enz11940, enz11941, xz1194⟩, hIN1193, hFN1193⟩ := hp
                    have hGN1193 := Fr.tr hGN1183 hFN1193 (S := (fun b9 k9 => (b9 = 146 ∧ k9 = 11) ∨ (b9 = 146 ∧ k9 = 13) ∨ (b9 = 146 ∧ k9 = 14) ∨ (b9 = 146 ∧ k9 = 15) ∨ (b9 = 146 ∧ k9 = 16) ∨ (b9 = 146 ∧ k9 = 9) ∨ b9 = 153)) (fun b k h => by (try dsimp only at h ⊢); rcases h with ⟨rfl, rfl⟩ | ⟨rfl, rfl⟩ | ⟨rfl, rfl⟩ | ⟨rfl, rfl⟩ | ⟨rfl, rfl⟩ <;> first | decide | omega)
                    have kn1195 : N1193.1 153 1 = zI 1 := (hFN1193 153 1 (by first | decide | (dsimp only; first | done | decide | omega) | omega)).trans (kn1185)
                    have kn1196 : N1193.1 153 0 = zI 6 := (hFN1193 153 0 (by first | decide | (dsimp only; first | done | decide | omega) | omega)).trans (kn1186)
                    have kn1197 : N1193.1 153 2 = zI z1133 := (hFN1193 153 2 (by first | decide | (dsimp only; first | done | decide | omega) | omega)).trans (kn1187)
                    have kn1198 : N1193.1 146 16 = zI z1188 := (hFN1193 146 16 (by first | decide | (dsimp only; first | done | decide | omega) | omega)).trans (ez1188)
                    refine lv_goto (tgt := 264) hx hb dX12_readsRule_256 (by decide) ?_
                    obtain ⟨z1199, bz1199, ez1199⟩ := IvR.ld (k := 3) hIN1193 (show ivr 153 3 = (-99, 300) from rfl) (by decide)
                    rw [hQ]
                    exact e_v F w hr hlocks ⟨⟨nz11940, nz11941, z1188, (enz11940), (enz11941), (kn1198), ⟨by omega, by omega⟩, ⟨by omega, by omega⟩, ⟨by omega, by omega⟩, (by omega)⟩, (fun h8 => by have h9 := (zI_eq (a := 6) (b := 8) (by constructor <;> omega) (by constructor <;> omega)).mp ((kn1196).symm.trans h8); exact ⟨z1199, by omega, by omega, ez1199⟩), hIN1193, hGN1193⟩ dX12_readsRule_264
                · obtain ⟨z1200, bz1200, ez1200⟩ := IvR.ld (k := 3) hIN1183 (show ivr 153 3 = (-99, 300) from rfl) (by decide)
                  rw [hQ]
                  exact e_v F w hr hlocks ⟨⟨nz11840, nz11841, z1188, (enz11840), (enz11841), (ez1188), ⟨by omega, by omega⟩, ⟨by omega, by omega⟩, ⟨by omega, by omega⟩, (by omega)⟩, (fun h8 => by have h9 := (zI_eq (a := 6) (b := 8) (by constructor <;> omega) (by constructor <;> omega)).mp ((kn1186).symm.trans h8); exact ⟨z1200, by omega, by omega, ez1200⟩), hIN1183, hGN1183⟩ dX12_readsRule_243
          · refine lv_istore_n (lv' := [(1, .int (zI 7)), (0, .ref (B + 146))]) hx hb dX12_readsRule_63 rfl hl (by decide) rfl (fun ls hl => ?_)
            refine lv_aload_n hx hb dX12_readsRule_64 rfl (lv_at hl 1 rfl) ?_
            refine f_12_17 F w (a := 146) rfl tb_676 dX12_readsRule_65 ?_
            refine lv_iconst (v := zI 0) hx hb dX12_readsRule_68 rfl ?_
            refine lv_iload_n hx hb dX12_readsRule_69 rfl (lv_at hl 0 rfl) ?_
            refine g_iast F w (a := 153) rfl (j := 0) ⟨by decide, by decide⟩ (by omega) dX12_readsRule_70 (fun H locs w => ?_)
            refine lv_iload_n hx hb dX12_readsRule_71 rfl (lv_at hl 0 rfl) ?_
            refine lv_bipush (v := zI 8) hx hb dX12_readsRule_72 (by decide) ?_
            refine z_icmp_ne (tgt := 90) hx hb (by omega) (by omega) dX12_readsRule_74 (by decide) (fun c1201 => ?_) (fun c1201 => False.elim (by omega))
            refine lv_iload_n hx hb dX12_readsRule_90 rfl (lv_at hl 0 rfl) ?_
            refine z_if_eq (tgt := 119) hx hb (by omega) dX12_readsRule_91 (by decide) (fun c1202 => False.elim (by omega)) (fun c1202 => ?_)
            refine lv_aload_n hx hb dX12_readsRule_94 rfl (lv_at hl 1 rfl) ?_
            refine f_12_17 F w (a := 146) rfl tb_676 dX12_readsRule_95 ?_
            refine lv_iconst (v := zI 2) hx hb dX12_readsRule_98 rfl ?_
            refine lv_aload_n hx hb dX12_readsRule_99 rfl (lv_at hl 1 rfl) ?_
            refine lv_bipush (v := zI 11) hx hb dX12_readsRule_100 (by decide) ?_
            refine lv_iload_n hx hb dX12_readsRule_102 rfl (lv_at hl 0 rfl) ?_
            refine lv_bipush (v := zI 9) hx hb dX12_readsRule_103 (by decide) ?_
            refine z_icmp_ne (tgt := 113) hx hb (by omega) (by omega) dX12_readsRule_105 (by decide) (fun c1203 => ?_) (fun c1203 => False.elim (by omega))
            refine lv_bipush (v := zI 14) hx hb dX12_readsRule_113 (by decide) ?_
            refine k_Vi F w (As := [.int (zI 11), .int (zI 14)]) (rest := [.int (zI 2), .ref (B + 153)]) (a := 146) (kd_lt (a := 146) (show kd 146 = (12, 0, 0) from rfl) (by decide)) (sh_12 rfl _ _) rfl (q_X12_needs (x := 11) ⟨by omega, by omega⟩ (x1 := 14) ⟨by omega, by omega⟩ (tk := nz6710) ((st_ne (Or.inl (by decide))).trans enz6710) ⟨by omega, by omega⟩ (nb := nz6711) ((st_ne (Or.inl (by decide))).trans enz6711) ⟨by omega, by omega⟩ (by omega) (IvR.to hIN670 (a := 153) (k := 0) (x := 7) (show ivr 153 0 = ((-99), 300) from rfl) ⟨by omega, by omega⟩ ⟨by decide, by decide, by decide, fun q9 => absurd q9 (by decide)⟩)) gv_X12_227 hv_X12_needs ⟨(Nat.le_of_ble_eq_true rfl), (Nat.le_of_ble_eq_true rfl)⟩ hl.1 rfl (Nat.le_of_ble_eq_true rfl) ⟨Nat.zero_le _, Nat.zero_le _⟩ dX12_readsRule_115 (fun r1204 N1205 H locs hp w => ?_)
            obtain ⟨z1206, rfl, bz1206, ⟨nz12060, nz12061, enz12060, enz12061, xz1206⟩, hIN1205, hFN1205⟩ := hp
            have hGN1205 := Fr.tr (Fr.to hGN670 (by first | decide | (dsimp only; first | done | decide | omega) | omega)) hFN1205 (S := (fun b9 k9 => (b9 = 146 ∧ k9 = 11) ∨ (b9 = 146 ∧ k9 = 13) ∨ (b9 = 146 ∧ k9 = 14) ∨ (b9 = 146 ∧ k9 = 15) ∨ (b9 = 146 ∧ k9 = 16) ∨ (b9 = 146 ∧ k9 = 9) ∨ b9 = 153)) (fun b k h => by (try dsimp only at h ⊢); rcases h with ⟨rfl, rfl⟩ | ⟨rfl, rfl⟩ | ⟨rfl, rfl⟩ | ⟨rfl, rfl⟩ | ⟨rfl, rfl⟩ | ⟨rfl, rfl⟩ <;> first | decide | omega)
            have kn1207 : N1205.1 153 1 = zI 1 := (hFN1205 153 1 (by first | decide | (dsimp only; first | done | decide | omega) | omega)).trans ((st_ne (Or.inr (by decide))).trans kn672)
            have kn1208 : N1205.1 153 0 = zI 7 := (hFN1205 153 0 (by first | decide | (dsimp only; first | done | decide | omega) | omega)).trans (st_at)
            refine g_iast F w (a := 153) rfl (j := 2) ⟨by decide, by decide⟩ (by omega) dX12_readsRule_118 (fun H locs w => ?_)
            refine lv_iload_n hx hb dX12_readsRule_119 rfl (lv_at hl 0 rfl) ?_
            refine lv_bipush (v := zI 7) hx hb dX12_readsRule_120 (by decide) ?_
            refine z_icmp_ne (tgt := 148) hx hb (by omega) (by omega) dX12_readsRule_122 (by decide) (fun c1209 => False.elim (by omega)) (fun c1209 => ?_)
            refine lv_aload_n hx hb dX12_readsRule_125 rfl (lv_at hl 1 rfl) ?_
            refine lv_bipush (v := zI 19) hx hb dX12_readsRule_126 (by decide) ?_
            refine lv_bipush (v := zI 19) hx hb dX12_readsRule_128 (by decide) ?_
            refine k_Vi F w (As := [.int (zI 19), .int (zI 19)]) (rest := []) (a := 146) (kd_lt (a := 146) (show kd 146 = (12, 0, 0) from rfl) (by decide)) (sh_12 rfl _ _) rfl (q_X12_needs (x := 19) ⟨by omega, by omega⟩ (x1 := 19) ⟨by omega, by omega⟩ (tk := nz12060) ((st_ne (Or.inl (by decide))).trans enz12060) ⟨by omega, by omega⟩ (nb := nz12061) ((st_ne (Or.inl (by decide))).trans enz12061) ⟨by omega, by omega⟩ (by omega) (IvR.to hIN1205 (a := 153) (k := 2) (x := z1206) (show ivr 153 2 = ((-99), 300) from rfl) ⟨by omega, by omega⟩ ⟨by decide, by decide, by decide, fun q9 => absurd q9 (by decide)⟩)) gv_X12_227 hv_X12_needs ⟨(Nat.le_of_ble_eq_true rfl), (Nat.le_of_ble_eq_true rfl)⟩ hl.1 rfl (Nat.le_of_ble_eq_true rfl) ⟨Nat.zero_le _, Nat.zero_le _⟩ dX12_readsRule_130 (fun r1210 N1211 H locs hp w => ?_)
            obtain ⟨z1212, rfl, bz1212, ⟨nz12120, nz12121, enz12120, enz12121, xz1212⟩, hIN1211, hFN1211⟩ := hp
            have hGN1211 := Fr.tr (Fr.to hGN1205 (by first | decide | (dsimp only; first | done | decide | omega) | omega)) hFN1211 (S := (fun b9 k9 => (b9 = 146 ∧ k9 = 11) ∨ (b9 = 146 ∧ k9 = 13) ∨ (b9 = 146 ∧ k9 = 14) ∨ (b9 = 146 ∧ k9 = 15) ∨ (b9 = 146 ∧ k9 = 16) ∨ (b9 = 146 ∧ k9 = 9) ∨ b9 = 153)) (fun b k h => by (try dsimp only at h ⊢); rcases h with ⟨rfl, rfl⟩ | ⟨rfl, rfl⟩ | ⟨rfl, rfl⟩ | ⟨rfl, rfl⟩ | ⟨rfl, rfl⟩ | ⟨rfl, rfl⟩ <;> first | decide | omega)
            have kn1213 : N1211.1 153 1 = zI 1 := (hFN1211 153 1 (by first | decide | (dsimp only; first | done | decide | omega) | omega)).trans ((st_ne (Or.inr (by decide))).trans kn1207)
            have kn1214 : N1211.1 153 0 = zI 7 := (hFN1211 153 0 (by first | decide | (dsimp only; first | done | decide | omega) | omega)).trans ((st_ne (Or.inr (by decide))).trans kn1208)
            have kn1215 : N1211.1 153 2 = zI z1206 := (hFN1211 153 2 (by first | decide | (dsimp only; first | done | decide | omega) | omega)).trans (st_at)
            refine lv_pop hx hb dX12_readsRule_133 rfl ?_
            refine lv_aload_n hx hb dX12_readsRule_134 rfl (lv_at hl 1 rfl) ?_
            refine f_12_17 F w (a := 146) rfl tb_676 dX12_readsRule_135 ?_
            refine lv_iconst (v := zI 3) hx hb dX12_readsRule_138 rfl ?_
            refine lv_aload_n hx hb dX12_readsRule_139 rfl (lv_at hl 1 rfl) ?_
            refine lv_bipush (v := zI 11) hx hb dX12_readsRule_140 (by decide) ?_
            refine lv_bipush (v := zI 13) hx hb dX12_readsRule_142 (by decide) ?_
            refine k_Vi F w (As := [.int (zI 11), .int (zI 13)]) (rest := [.int (zI 3), .ref (B + 153)]) (a := 146) (kd_lt (a := 146) (show kd 146 = (12, 0, 0) from rfl) (by decide)) (sh_12 rfl _ _) rfl (q_X12_needs (x := 11) ⟨by omega, by omega⟩ (x1 := 13) ⟨by omega, by omega⟩ (tk := nz12120) (enz12120) ⟨by omega, by omega⟩ (nb := nz12121) (enz12121) ⟨by omega, by omega⟩ (by omega) hIN1211) gv_X12_227 hv_X12_needs ⟨(Nat.le_of_ble_eq_true rfl), (Nat.le_of_ble_eq_true rfl)⟩ hl.1 rfl (Nat.le_of_ble_eq_true rfl) ⟨Nat.zero_le _, Nat.zero_le _⟩ dX12_readsRule_144 (fun r1216 N1217 H locs hp w => ?_)
            obtain ⟨z1218, rfl, bz1218, ⟨nz12180, nz12181, enz12180, enz12181, xz1218⟩, hIN1217, hFN1217⟩ := hp
            have hGN1217 := Fr.tr hGN1211 hFN1217 (S := (fun b9 k9 => (b9 = 146 ∧ k9 = 11) ∨ (b9 = 146 ∧ k9 = 13) ∨ (b9 = 146 ∧ k9 = 14) ∨ (b9 = 146 ∧ k9 = 15) ∨ (b9 = 146 ∧ k9 = 16) ∨ (b9 = 146 ∧ k9 = 9) ∨ b9 = 153)) (fun b k h => by (try dsimp only at h ⊢); rcases h with ⟨rfl, rfl⟩ | ⟨rfl, rfl⟩ | ⟨rfl, rfl⟩ | ⟨rfl, rfl⟩ | ⟨rfl, rfl⟩ | ⟨rfl, rfl⟩ <;> first | decide | omega)
            have kn1219 : N1217.1 153 1 = zI 1 := (hFN1217 153 1 (by first | decide | (dsimp only; first | done | decide | omega) | omega)).trans (kn1213)
            have kn1220 : N1217.1 153 0 = zI 7 := (hFN1217 153 0 (by first | decide | (dsimp only; first | done | decide | omega) | omega)).trans (kn1214)
            have kn1221 : N1217.1 153 2 = zI z1206 := (hFN1217 153 2 (by first | decide | (dsimp only; first | done | decide | omega) | omega)).trans (kn1215)
            refine g_iast F w (a := 153) rfl (j := 3) ⟨by decide, by decide⟩ (by omega) dX12_readsRule_147 (fun H locs w => ?_)
            refine lv_iload_n hx hb dX12_readsRule_148 rfl (lv_at hl 0 rfl) ?_
            refine k_Si F w (As := [.int (zI 7)]) (rest := []) (q_X12_hasSide (x := 7) ⟨by omega, by omega⟩  (IvR.to hIN1217 (a := 153) (k := 3) (x := z1218) (show ivr 153 3 = ((-99), 300) from rfl) ⟨by omega, by omega⟩ ⟨by decide, by decide, by decide, fun q9 => absurd q9 (by decide)⟩)) gs_X12_137 hs_X12_hasSide ⟨(Nat.le_of_ble_eq_true rfl), (Nat.le_of_ble_eq_true rfl)⟩ hl.1 rfl (Nat.le_of_ble_eq_true rfl) ⟨Nat.zero_le _, Nat.zero_le _⟩ dX12_readsRule_149 (fun r1222 N1223 H locs hp w => ?_)
            obtain ⟨z1224, rfl, bz1224, xz1224, hMN1223⟩ := hp
            rw [hMN1223] at w
            refine z_if_eq (tgt := 169) hx hb (by omega) dX12_readsRule_152 (by decide) (fun c1225 => ?_) (fun c1225 => False.elim (by omega))
            refine lv_iload_n hx hb dX12_readsRule_169 rfl (lv_at hl 0 rfl) ?_
            refine lv_iconst (v := zI 3) hx hb dX12_readsRule_170 rfl ?_
            refine z_icmp_eq (tgt := 180) hx hb (by omega) (by omega) dX12_readsRule_171 (by decide) (fun c1226 => False.elim (by omega)) (fun c1226 => ?_)
            refine lv_iload_n hx hb dX12_readsRule_174 rfl (lv_at hl 0 rfl) ?_
            refine lv_bipush (v := zI 8) hx hb dX12_readsRule_175 (by decide) ?_
            refine z_icmp_ne (tgt := 194) hx hb (by omega) (by omega) dX12_readsRule_177 (by decide) (fun c1227 => ?_) (fun c1227 => False.elim (by omega))
            refine lv_iload_n hx hb dX12_readsRule_194 rfl (lv_at hl 0 rfl) ?_
            refine lv_iconst (v := zI 1) hx hb dX12_readsRule_195 rfl ?_
            refine z_icmp_ne (tgt := 209) hx hb (by omega) (by omega) dX12_readsRule_196 (by decide) (fun c1228 => ?_) (fun c1228 => False.elim (by omega))
            refine lv_aload_n hx hb dX12_readsRule_209 rfl (lv_at hl 1 rfl) ?_
            refine f_12_16 F w (a := 146) rfl tb_669 dX12_readsRule_210 ?_
            obtain ⟨z1229, bz1229, ez1229⟩ := IvR.ld (k := 16) (IvR.to hIN1217 (a := 153) (k := 3) (x := z1218) (show ivr 153 3 = ((-99), 300) from rfl) ⟨by omega, by omega⟩ ⟨by decide, by decide, by decide, fun q9 => absurd q9 (by decide)⟩) (show ivr 146 16 = (0, 1) from rfl) (show 146 ≤ 146 ∧ 146 < 159 by decide)
            refine r_val ez1229 ?_
            refine z_if_ne (tgt := 236) hx hb (by omega) dX12_readsRule_213 (by decide) (fun c1230 => ?_) (fun c1230 => ?_)
            · refine lv_aload_n hx hb dX12_readsRule_236 rfl (lv_at hl 1 rfl) ?_
              refine f_12_16 F w (a := 146) rfl tb_669 dX12_readsRule_237 ?_
              obtain ⟨z1231, bz1231, ez1231⟩ := IvR.ld (k := 16) (IvR.to hIN1217 (a := 153) (k := 3) (x := z1218) (show ivr 153 3 = ((-99), 300) from rfl) ⟨by omega, by omega⟩ ⟨by decide, by decide, by decide, fun q9 => absurd q9 (by decide)⟩) (show ivr 146 16 = (0, 1) from rfl) (show 146 ≤ 146 ∧ 146 < 159 by decide)
              refine r_val ez1231 ?_
              refine z_if_eq (tgt := 244) hx hb (by omega) dX12_readsRule_240 (by decide) (fun c1232 => ?_) (fun c1232 => ?_)
              · refine lv_aload_n hx hb dX12_readsRule_244 rfl (lv_at hl 1 rfl) ?_
                refine f_12_13 F w (a := 146) rfl tb_602 dX12_readsRule_245 ?_
                refine r_val (v := zI nz12180) ((st_ne (Or.inl (by decide))).trans enz12180) ?_
                refine lv_iconst (v := zI 3) hx hb dX12_readsRule_248 rfl ?_
                refine z_icmp_ne (tgt := 259) hx hb (by omega) (by omega) dX12_readsRule_249 (by decide) (fun c1233 => ?_) (fun c1233 => ?_)
                · refine lv_aload_n hx hb dX12_readsRule_259 rfl (lv_at hl 1 rfl) ?_
                  refine lv_iconst (v := zI 1) hx hb dX12_readsRule_260 rfl ?_
                  refine u_12_16 F w (a := 146) rfl (nar_z (by omega)) (fit_z (by omega)) tb_669 dX12_readsRule_261 (fun H locs w => ?_)
                  rw [hQ]
                  exact e_v F w hr hlocks ⟨⟨nz12180, nz12181, 1, ((st_ne (Or.inr (by decide))).trans ((st_ne (Or.inl (by decide))).trans enz12180)), ((st_ne (Or.inr (by decide))).trans ((st_ne (Or.inl (by decide))).trans enz12181)), (st_at), ⟨by omega, by omega⟩, ⟨by omega, by omega⟩, ⟨by omega, by omega⟩, (by omega)⟩, (fun h8 => by have h9 := (zI_eq (a := 7) (b := 8) (by constructor <;> omega) (by constructor <;> omega)).mp (((st_ne (Or.inl (by decide))).trans ((st_ne (Or.inr (by decide))).trans kn1220)).symm.trans h8); exact ⟨z1218, by omega, by omega, (st_ne (Or.inl (by decide))).trans st_at⟩), (IvR.to (IvR.to hIN1217 (a := 153) (k := 3) (x := z1218) (show ivr 153 3 = ((-99), 300) from rfl) ⟨by omega, by omega⟩ ⟨by decide, by decide, by decide, fun q9 => absurd q9 (by decide)⟩) (a := 146) (k := 16) (x := 1) (show ivr 146 16 = (0, 1) from rfl) ⟨by omega, by omega⟩ ⟨by decide, by decide, by decide, fun q9 => absurd q9 (by decide)⟩), (Fr.to (Fr.to hGN1217 (by first | decide | (dsimp only; first | done | decide | omega) | omega)) (by first | decide | (dsimp only; first | done | decide | omega) | omega))⟩ dX12_readsRule_264
                · refine lv_aload_n hx hb dX12_readsRule_252 rfl (lv_at hl 1 rfl) ?_
                  refine k_Vv F w (As := []) (rest := []) (a := 146) (kd_lt (a := 146) (show kd 146 = (12, 0, 0) from rfl) (by decide)) (sh_12 rfl _ _) rfl (q_X12_goesOn   (IvR.to hIN1217 (a := 153) (k := 3) (x := z1218) (show ivr 153 3 = ((-99), 300) from rfl) ⟨by omega, by omega⟩ ⟨by decide, by decide, by decide, fun q9 => absurd q9 (by decide)⟩)) gv_X12_221 hv_X12_goesOn ⟨(Nat.le_of_ble_eq_true rfl), (Nat.le_of_ble_eq_true rfl)⟩ hl.1 rfl (Nat.le_of_ble_eq_true rfl) ⟨Nat.zero_le _, Nat.zero_le _⟩ dX12_readsRule_253 (fun N1235 H locs hp w => ?_)
                  obtain ⟨⟨nz12360, nz12361, enz12360, enz12361, xz1236⟩, hIN1235, hFN1235⟩ := hp
                  have hGN1235 := Fr.tr (Fr.to hGN1217 (by first | decide | (dsimp only; first | done | decide | omega) | omega)) hFN1235 (S := (fun b9 k9 => (b9 = 146 ∧ k9 = 11) ∨ (b9 = 146 ∧ k9 = 13) ∨ (b9 = 146 ∧ k9 = 14) ∨ (b9 = 146 ∧ k9 = 15) ∨ (b9 = 146 ∧ k9 = 16) ∨ (b9 = 146 ∧ k9 = 9) ∨ b9 = 153)) (fun b k h => by (try dsimp only at h ⊢); rcases h with ⟨rfl, rfl⟩ | ⟨rfl, rfl⟩ | ⟨rfl, rfl⟩ | ⟨rfl, rfl⟩ | ⟨rfl, rfl⟩ <;> first | decide | omega)
                  have kn1237 : N1235.1 153 1 = zI 1 := (hFN1235 153 1 (by first | decide | (dsimp only; first | done | decide | omega) | omega)).trans ((st_ne (Or.inr (by decide))).trans kn1219)
                  have kn1238 : N1235.1 153 0 = zI 7 := (hFN1235 153 0 (by first | decide | (dsimp only; first | done | decide | omega) | omega)).trans ((st_ne (Or.inr (by decide))).trans kn1220)
                  have kn1239 : N1235.1 153 2 = zI z1206 := (hFN1235 153 2 (by first | decide | (dsimp only; first | done | decide | omega) | omega)).trans ((st_ne (Or.inr (by decide))).trans kn1221)
                  have kn1240 : N1235.1 153 3 = zI z1218 := (hFN1235 153 3 (by first | decide | (dsimp only; first | done | decide | omega) | omega)).trans (st_at)
                  refine lv_goto (tgt := 264) hx hb dX12_readsRule_256 (by decide) ?_
                  obtain ⟨z1241, bz1241, ez1241⟩ := IvR.ld (k := 16) hIN1235 (show ivr 146 16 = (0, 1) from rfl) (show 146 ≤ 146 ∧ 146 < 159 by decide)
                  rw [hQ]
                  exact e_v F w hr hlocks ⟨⟨nz12360, nz12361, z1241, (enz12360), (enz12361), (ez1241), ⟨by omega, by omega⟩, ⟨by omega, by omega⟩, ⟨by omega, by omega⟩, (by omega)⟩, (fun h8 => by have h9 := (zI_eq (a := 7) (b := 8) (by constructor <;> omega) (by constructor <;> omega)).mp ((kn1238).symm.trans h8); exact ⟨z1218, by omega, by omega, kn1240⟩), hIN1235, hGN1235⟩ dX12_readsRule_264
              · obtain ⟨z1242, bz1242, ez1242⟩ := IvR.ld (k := 16) (IvR.to hIN1217 (a := 153) (k := 3) (x := z1218) (show ivr 153 3 = ((-99), 300) from rfl) ⟨by omega, by omega⟩ ⟨by decide, by decide, by decide, fun q9 => absurd q9 (by decide)⟩) (show ivr 146 16 = (0, 1) from rfl) (show 146 ≤ 146 ∧ 146 < 159 by decide)
                rw [hQ]
                exact e_v F w hr hlocks ⟨⟨nz12180, nz12181, z1242, ((st_ne (Or.inl (by decide))).trans enz12180), ((st_ne (Or.inl (by decide))).trans enz12181), (ez1242), ⟨by omega, by omega⟩, ⟨by omega, by omega⟩, ⟨by omega, by omega⟩, (by omega)⟩, (fun h8 => by have h9 := (zI_eq (a := 7) (b := 8) (by constructor <;> omega) (by constructor <;> omega)).mp (((st_ne (Or.inr (by decide))).trans kn1220).symm.trans h8); exact ⟨z1218, by omega, by omega, st_at⟩), (IvR.to hIN1217 (a := 153) (k := 3) (x := z1218) (show ivr 153 3 = ((-99), 300) from rfl) ⟨by omega, by omega⟩ ⟨by decide, by decide, by decide, fun q9 => absurd q9 (by decide)⟩), (Fr.to hGN1217 (by first | decide | (dsimp only; first | done | decide | omega) | omega))⟩ dX12_readsRule_243
            · refine lv_iload_n hx hb dX12_readsRule_216 rfl (lv_at hl 0 rfl) ?_
              refine k_Si F w (As := [.int (zI 7)]) (rest := []) (q_X12_isBySyllables (x := 7) ⟨by omega, by omega⟩  (IvR.to hIN1217 (a := 153) (k := 3) (x := z1218) (show ivr 153 3 = ((-99), 300) from rfl) ⟨by omega, by omega⟩ ⟨by decide, by decide, by decide, fun q9 => absurd q9 (by decide)⟩)) gs_X12_140 hs_X12_isBySyllables ⟨(Nat.le_of_ble_eq_true rfl), (Nat.le_of_ble_eq_true rfl)⟩ hl.1 rfl (Nat.le_of_ble_eq_true rfl) ⟨Nat.zero_le _, Nat.zero_le _⟩ dX12_readsRule_217 (fun r1243 N1244 H locs hp w => ?_)
              obtain ⟨z1245, rfl, bz1245, xz1245, hMN1244⟩ := hp
              rw [hMN1244] at w
              refine z_if_ne (tgt := 236) hx hb (by omega) dX12_readsRule_220 (by decide) (fun c1246 => False.elim (by omega)) (fun c1246 => ?_)
              refine lv_aload_n hx hb dX12_readsRule_223 rfl (lv_at hl 1 rfl) ?_
              refine lv_bipush (v := zI 20) hx hb dX12_readsRule_224 (by decide) ?_
              refine k_Vi F w (As := [.int (zI 20)]) (rest := []) (a := 146) (kd_lt (a := 146) (show kd 146 = (12, 0, 0) from rfl) (by decide)) (sh_12 rfl _ _) rfl (q_X12_isWord (x := 20) ⟨by omega, by omega⟩  (IvR.to hIN1217 (a := 153) (k := 3) (x := z1218) (show ivr 153 3 = ((-99), 300) from rfl) ⟨by omega, by omega⟩ ⟨by decide, by decide, by decide, fun q9 => absurd q9 (by decide)⟩)) gv_X12_224 hv_X12_isWord ⟨(Nat.le_of_ble_eq_true rfl), (Nat.le_of_ble_eq_true rfl)⟩ hl.1 rfl (Nat.le_of_ble_eq_true rfl) ⟨Nat.zero_le _, Nat.zero_le _⟩ dX12_readsRule_226 (fun r1247 N1248 H locs hp w => ?_)
              obtain ⟨z1249, rfl, bz1249, hMN1248⟩ := hp
              rw [hMN1248] at w
              refine z_if_eq (tgt := 236) hx hb (by omega) dX12_readsRule_229 (by decide) (fun c1250 => ?_) (fun c1250 => ?_)
              · refine lv_aload_n hx hb dX12_readsRule_236 rfl (lv_at hl 1 rfl) ?_
                refine f_12_16 F w (a := 146) rfl tb_669 dX12_readsRule_237 ?_
                obtain ⟨z1251, bz1251, ez1251⟩ := IvR.ld (k := 16) (IvR.to hIN1217 (a := 153) (k := 3) (x := z1218) (show ivr 153 3 = ((-99), 300) from rfl) ⟨by omega, by omega⟩ ⟨by decide, by decide, by decide, fun q9 => absurd q9 (by decide)⟩) (show ivr 146 16 = (0, 1) from rfl) (show 146 ≤ 146 ∧ 146 < 159 by decide)
                refine r_val ez1251 ?_
                refine z_if_eq (tgt := 244) hx hb (by omega) dX12_readsRule_240 (by decide) (fun c1252 => ?_) (fun c1252 => ?_)
                · refine lv_aload_n hx hb dX12_readsRule_244 rfl (lv_at hl 1 rfl) ?_
                  refine f_12_13 F w (a := 146) rfl tb_602 dX12_readsRule_245 ?_
                  refine r_val (v := zI nz12180) ((st_ne (Or.inl (by decide))).trans enz12180) ?_
                  refine lv_iconst (v := zI 3) hx hb dX12_readsRule_248 rfl ?_
                  refine z_icmp_ne (tgt := 259) hx hb (by omega) (by omega) dX12_readsRule_249 (by decide) (fun c1253 => ?_) (fun c1253 => ?_)
                  · refine lv_aload_n hx hb dX12_readsRule_259 rfl (lv_at hl 1 rfl) ?_
                    refine lv_iconst (v := zI 1) hx hb dX12_readsRule_260 rfl ?_
                    refine u_12_16 F w (a := 146) rfl (nar_z (by omega)) (fit_z (by omega)) tb_669 dX12_readsRule_261 (fun H locs w => ?_)
                    rw [hQ]
                    exact e_v F w hr hlocks ⟨⟨nz12180, nz12181, 1, ((st_ne (Or.inr (by decide))).trans ((st_ne (Or.inl (by decide))).trans enz12180)), ((st_ne (Or.inr (by decide))).trans ((st_ne (Or.inl (by decide))).trans enz12181)), (st_at), ⟨by omega, by omega⟩, ⟨by omega, by omega⟩, ⟨by omega, by omega⟩, (by omega)⟩, (fun h8 => by have h9 := (zI_eq (a := 7) (b := 8) (by constructor <;> omega) (by constructor <;> omega)).mp (((st_ne (Or.inl (by decide))).trans ((st_ne (Or.inr (by decide))).trans kn1220)).symm.trans h8); exact ⟨z1218, by omega, by omega, (st_ne (Or.inl (by decide))).trans st_at⟩), (IvR.to (IvR.to hIN1217 (a := 153) (k := 3) (x := z1218) (show ivr 153 3 = ((-99), 300) from rfl) ⟨by omega, by omega⟩ ⟨by decide, by decide, by decide, fun q9 => absurd q9 (by decide)⟩) (a := 146) (k := 16) (x := 1) (show ivr 146 16 = (0, 1) from rfl) ⟨by omega, by omega⟩ ⟨by decide, by decide, by decide, fun q9 => absurd q9 (by decide)⟩), (Fr.to (Fr.to hGN1217 (by first | decide | (dsimp only; first | done | decide | omega) | omega)) (by first | decide | (dsimp only; first | done | decide | omega) | omega))⟩ dX12_readsRule_264
                  · refine lv_aload_n hx hb dX12_readsRule_252 rfl (lv_at hl 1 rfl) ?_
                    refine k_Vv F w (As := []) (rest := []) (a := 146) (kd_lt (a := 146) (show kd 146 = (12, 0, 0) from rfl) (by decide)) (sh_12 rfl _ _) rfl (q_X12_goesOn   (IvR.to hIN1217 (a := 153) (k := 3) (x := z1218) (show ivr 153 3 = ((-99), 300) from rfl) ⟨by omega, by omega⟩ ⟨by decide, by decide, by decide, fun q9 => absurd q9 (by decide)⟩)) gv_X12_221 hv_X12_goesOn ⟨(Nat.le_of_ble_eq_true rfl), (Nat.le_of_ble_eq_true rfl)⟩ hl.1 rfl (Nat.le_of_ble_eq_true rfl) ⟨Nat.zero_le _, Nat.zero_le _⟩ dX12_readsRule_253 (fun N1255 H locs hp w => ?_)
                    obtain ⟨⟨nz12560, nz12561, enz12560, enz12561, xz1256⟩, hIN1255, hFN1255⟩ := hp
                    have hGN1255 := Fr.tr (Fr.to hGN1217 (by first | decide | (dsimp only; first | done | decide | omega) | omega)) hFN1255 (S := (fun b9 k9 => (b9 = 146 ∧ k9 = 11) ∨ (b9 = 146 ∧ k9 = 13) ∨ (b9 = 146 ∧ k9 = 14) ∨ (b9 = 146 ∧ k9 = 15) ∨ (b9 = 146 ∧ k9 = 16) ∨ (b9 = 146 ∧ k9 = 9) ∨ b9 = 153)) (fun b k h => by (try dsimp only at h ⊢); rcases h with ⟨rfl, rfl⟩ | ⟨rfl, rfl⟩ | ⟨rfl, rfl⟩ | ⟨rfl, rfl⟩ | ⟨rfl, rfl⟩ <;> first | decide | omega)
                    have kn1257 : N1255.1 153 1 = zI 1 := (hFN1255 153 1 (by first | decide | (dsimp only; first | done | decide | omega) | omega)).trans ((st_ne (Or.inr (by decide))).trans kn1219)
                    have kn1258 : N1255.1 153 0 = zI 7 := (hFN1255 153 0 (by first | decide | (dsimp only; first | done | decide | omega) | omega)).trans ((st_ne (Or.inr (by decide))).trans kn1220)
                    have kn1259 : N1255.1 153 2 = zI z1206 := (hFN1255 153 2 (by first | decide | (dsimp only; first | done | decide | omega) | omega)).trans ((st_ne (Or.inr (by decide))).trans kn1221)
                    have kn1260 : N1255.1 153 3 = zI z1218 := (hFN1255 153 3 (by first | decide | (dsimp only; first | done | decide | omega) | omega)).trans (st_at)
                    refine lv_goto (tgt := 264) hx hb dX12_readsRule_256 (by decide) ?_
                    obtain ⟨z1261, bz1261, ez1261⟩ := IvR.ld (k := 16) hIN1255 (show ivr 146 16 = (0, 1) from rfl) (show 146 ≤ 146 ∧ 146 < 159 by decide)
                    rw [hQ]
                    exact e_v F w hr hlocks ⟨⟨nz12560, nz12561, z1261, (enz12560), (enz12561), (ez1261), ⟨by omega, by omega⟩, ⟨by omega, by omega⟩, ⟨by omega, by omega⟩, (by omega)⟩, (fun h8 => by have h9 := (zI_eq (a := 7) (b := 8) (by constructor <;> omega) (by constructor <;> omega)).mp ((kn1258).symm.trans h8); exact ⟨z1218, by omega, by omega, kn1260⟩), hIN1255, hGN1255⟩ dX12_readsRule_264
                · obtain ⟨z1262, bz1262, ez1262⟩ := IvR.ld (k := 16) (IvR.to hIN1217 (a := 153) (k := 3) (x := z1218) (show ivr 153 3 = ((-99), 300) from rfl) ⟨by omega, by omega⟩ ⟨by decide, by decide, by decide, fun q9 => absurd q9 (by decide)⟩) (show ivr 146 16 = (0, 1) from rfl) (show 146 ≤ 146 ∧ 146 < 159 by decide)
                  rw [hQ]
                  exact e_v F w hr hlocks ⟨⟨nz12180, nz12181, z1262, ((st_ne (Or.inl (by decide))).trans enz12180), ((st_ne (Or.inl (by decide))).trans enz12181), (ez1262), ⟨by omega, by omega⟩, ⟨by omega, by omega⟩, ⟨by omega, by omega⟩, (by omega)⟩, (fun h8 => by have h9 := (zI_eq (a := 7) (b := 8) (by constructor <;> omega) (by constructor <;> omega)).mp (((st_ne (Or.inr (by decide))).trans kn1220).symm.trans h8); exact ⟨z1218, by omega, by omega, st_at⟩), (IvR.to hIN1217 (a := 153) (k := 3) (x := z1218) (show ivr 153 3 = ((-99), 300) from rfl) ⟨by omega, by omega⟩ ⟨by decide, by decide, by decide, fun q9 => absurd q9 (by decide)⟩), (Fr.to hGN1217 (by first | decide | (dsimp only; first | done | decide | omega) | omega))⟩ dX12_readsRule_243
              · refine lv_aload_n hx hb dX12_readsRule_232 rfl (lv_at hl 1 rfl) ?_
                refine k_Vv F w (As := []) (rest := []) (a := 146) (kd_lt (a := 146) (show kd 146 = (12, 0, 0) from rfl) (by decide)) (sh_12 rfl _ _) rfl (q_X12_readsTest   (IvR.to hIN1217 (a := 153) (k := 3) (x := z1218) (show ivr 153 3 = ((-99), 300) from rfl) ⟨by omega, by omega⟩ ⟨by decide, by decide, by decide, fun q9 => absurd q9 (by decide)⟩)) gv_X12_233 hv_X12_readsTest ⟨(Nat.le_of_ble_eq_true rfl), (Nat.le_of_ble_eq_true rfl)⟩ hl.1 rfl (Nat.le_of_ble_eq_true rfl) ⟨Nat.zero_le _, Nat.zero_le _⟩ dX12_readsRule_233 (fun N1264 H locs hp w => ?_)
                obtain ⟨⟨nz12650, nz12651, enz12650, enz12651, xz1265⟩, hIN1264, hFN1264⟩ := hp
                have hGN1264 := Fr.tr (Fr.to hGN1217 (by first | decide | (dsimp only; first | done | decide | omega) | omega)) hFN1264 (S := (fun b9 k9 => (b9 = 146 ∧ k9 = 11) ∨ (b9 = 146 ∧ k9 = 13) ∨ (b9 = 146 ∧ k9 = 14) ∨ (b9 = 146 ∧ k9 = 15) ∨ (b9 = 146 ∧ k9 = 16) ∨ (b9 = 146 ∧ k9 = 9) ∨ b9 = 153)) (fun b k h => by (try dsimp only at h ⊢); rcases h with ⟨rfl, rfl⟩ | ⟨rfl, rfl⟩ | ⟨rfl, rfl⟩ | ⟨rfl, rfl⟩ | ⟨rfl, rfl⟩ | ⟨rfl, rfl⟩ | ⟨rfl, q1, q2⟩ | ⟨rfl, q1, q2⟩ | ⟨rfl, q1, q2⟩ <;> first | decide | omega)
                have kn1266 : N1264.1 153 1 = zI 1 := (hFN1264 153 1 (by first | decide | (dsimp only; first | done | decide | omega) | omega)).trans ((st_ne (Or.inr (by decide))).trans kn1219)
                have kn1267 : N1264.1 153 0 = zI 7 := (hFN1264 153 0 (by first | decide | (dsimp only; first | done | decide | omega) | omega)).trans ((st_ne (Or.inr (by decide))).trans kn1220)
                have kn1268 : N1264.1 153 2 = zI z1206 := (hFN1264 153 2 (by first | decide | (dsimp only; first | done | decide | omega) | omega)).trans ((st_ne (Or.inr (by decide))).trans kn1221)
                have kn1269 : N1264.1 153 3 = zI z1218 := (hFN1264 153 3 (by first | decide | (dsimp only; first | done | decide | omega) | omega)).trans (st_at)
                refine lv_aload_n hx hb dX12_readsRule_236 rfl (lv_at hl 1 rfl) ?_
                refine f_12_16 F w (a := 146) rfl tb_669 dX12_readsRule_237 ?_
                obtain ⟨z1270, bz1270, ez1270⟩ := IvR.ld (k := 16) hIN1264 (show ivr 146 16 = (0, 1) from rfl) (show 146 ≤ 146 ∧ 146 < 159 by decide)
                refine r_val ez1270 ?_
                refine z_if_eq (tgt := 244) hx hb (by omega) dX12_readsRule_240 (by decide) (fun c1271 => ?_) (fun c1271 => ?_)
                · refine lv_aload_n hx hb dX12_readsRule_244 rfl (lv_at hl 1 rfl) ?_
                  refine f_12_13 F w (a := 146) rfl tb_602 dX12_readsRule_245 ?_
                  refine r_val (v := zI nz12650) (enz12650) ?_
                  refine lv_iconst (v := zI 3) hx hb dX12_readsRule_248 rfl ?_
                  refine z_icmp_ne (tgt := 259) hx hb (by omega) (by omega) dX12_readsRule_249 (by decide) (fun c1272 => ?_) (fun c1272 => ?_)
                  · refine lv_aload_n hx hb dX12_readsRule_259 rfl (lv_at hl 1 rfl) ?_
                    refine lv_iconst (v := zI 1) hx hb dX12_readsRule_260 rfl ?_
                    refine u_12_16 F w (a := 146) rfl (nar_z (by omega)) (fit_z (by omega)) tb_669 dX12_readsRule_261 (fun H locs w => ?_)
                    rw [hQ]
                    exact e_v F w hr hlocks ⟨⟨nz12650, nz12651, 1, ((st_ne (Or.inr (by decide))).trans enz12650), ((st_ne (Or.inr (by decide))).trans enz12651), (st_at), ⟨by omega, by omega⟩, ⟨by omega, by omega⟩, ⟨by omega, by omega⟩, (by omega)⟩, (fun h8 => by have h9 := (zI_eq (a := 7) (b := 8) (by constructor <;> omega) (by constructor <;> omega)).mp (((st_ne (Or.inl (by decide))).trans kn1267).symm.trans h8); exact ⟨z1218, by omega, by omega, (st_ne (Or.inl (by decide))).trans kn1269⟩), (IvR.to hIN1264 (a := 146) (k := 16) (x := 1) (show ivr 146 16 = (0, 1) from rfl) ⟨by omega, by omega⟩ ⟨by decide, by decide, by decide, fun q9 => absurd q9 (by decide)⟩), (Fr.to hGN1264 (by first | decide | (dsimp only; first | done | decide | omega) | omega))⟩ dX12_readsRule_264
                  · refine lv_aload_n hx hb dX12_readsRule_252 rfl (lv_at hl 1 rfl) ?_
                    refine k_Vv F w (As := []) (rest := []) (a := 146) (kd_lt (a := 146) (show kd 146 = (12, 0, 0) from rfl) (by decide)) (sh_12 rfl _ _) rfl (q_X12_goesOn   hIN1264) gv_X12_221 hv_X12_goesOn ⟨(Nat.le_of_ble_eq_true rfl), (Nat.le_of_ble_eq_true rfl)⟩ hl.1 rfl (Nat.le_of_ble_eq_true rfl) ⟨Nat.zero_le _, Nat.zero_le _⟩ dX12_readsRule_253 (fun N1274 H locs hp w => ?_)
                    obtain ⟨⟨nz12750, nz12751, enz12750, enz12751, xz1275⟩, hIN1274, hFN1274⟩ := hp
                    have hGN1274 := Fr.tr hGN1264 hFN1274 (S := (fun b9 k9 => (b9 = 146 ∧ k9 = 11) ∨ (b9 = 146 ∧ k9 = 13) ∨ (b9 = 146 ∧ k9 = 14) ∨ (b9 = 146 ∧ k9 = 15) ∨ (b9 = 146 ∧ k9 = 16) ∨ (b9 = 146 ∧ k9 = 9) ∨ b9 = 153)) (fun b k h => by (try dsimp only at h ⊢); rcases h with ⟨rfl, rfl⟩ | ⟨rfl, rfl⟩ | ⟨rfl, rfl⟩ | ⟨rfl, rfl⟩ | ⟨rfl, rfl⟩ <;> first | decide | omega)
                    have kn1276 : N1274.1 153 1 = zI 1 := (hFN1274 153 1 (by first | decide | (dsimp only; first | done | decide | omega) | omega)).trans (kn1266)
                    have kn1277 : N1274.1 153 0 = zI 7 := (hFN1274 153 0 (by first | decide | (dsimp only; first | done | decide | omega) | omega)).trans (kn1267)
                    have kn1278 : N1274.1 153 2 = zI z1206 := (hFN1274 153 2 (by first | decide | (dsimp only; first | done | decide | omega) | omega)).trans (kn1268)
                    have kn1279 : N1274.1 153 3 = zI z1218 := (hFN1274 153 3 (by first | decide | (dsimp only; first | done | decide | omega) | omega)).trans (kn1269)
                    have kn1280 : N1274.1 146 16 = zI z1270 := (hFN1274 146 16 (by first | decide | (dsimp only; first | done | decide | omega) | omega)).trans (ez1270)
                    refine lv_goto (tgt := 264) hx hb dX12_readsRule_256 (by decide) ?_
                    rw [hQ]
                    exact e_v F w hr hlocks ⟨⟨nz12750, nz12751, z1270, (enz12750), (enz12751), (kn1280), ⟨by omega, by omega⟩, ⟨by omega, by omega⟩, ⟨by omega, by omega⟩, (by omega)⟩, (fun h8 => by have h9 := (zI_eq (a := 7) (b := 8) (by constructor <;> omega) (by constructor <;> omega)).mp ((kn1277).symm.trans h8); exact ⟨z1218, by omega, by omega, kn1279⟩), hIN1274, hGN1274⟩ dX12_readsRule_264
                · rw [hQ]
                  exact e_v F w hr hlocks ⟨⟨nz12650, nz12651, z1270, (enz12650), (enz12651), (ez1270), ⟨by omega, by omega⟩, ⟨by omega, by omega⟩, ⟨by omega, by omega⟩, (by omega)⟩, (fun h8 => by have h9 := (zI_eq (a := 7) (b := 8) (by constructor <;> omega) (by constructor <;> omega)).mp ((kn1267).symm.trans h8); exact ⟨z1218, by omega, by omega, kn1269⟩), hIN1264, hGN1264⟩ dX12_readsRule_243
          · refine lv_istore_n (lv' := [(1, .int (zI 8)), (0, .ref (B + 146))]) hx hb dX12_readsRule_63 rfl hl (by decide) rfl (fun ls hl => ?_)
            refine lv_aload_n hx hb dX12_readsRule_64 rfl (lv_at hl 1 rfl) ?_
            refine f_12_17 F w (a := 146) rfl tb_676 dX12_readsRule_65 ?_
            refine lv_iconst (v := zI 0) hx hb dX12_readsRule_68 rfl ?_
            refine lv_iload_n hx hb dX12_readsRule_69 rfl (lv_at hl 0 rfl) ?_
            refine g_iast F w (a := 153) rfl (j := 0) ⟨by decide, by decide⟩ (by omega) dX12_readsRule_70 (fun H locs w => ?_)
            refine lv_iload_n hx hb dX12_readsRule_71 rfl (lv_at hl 0 rfl) ?_
            refine lv_bipush (v := zI 8) hx hb dX12_readsRule_72 (by decide) ?_
            refine z_icmp_ne (tgt := 90) hx hb (by omega) (by omega) dX12_readsRule_74 (by decide) (fun c1281 => False.elim (by omega)) (fun c1281 => ?_)
            refine lv_aload_n hx hb dX12_readsRule_77 rfl (lv_at hl 1 rfl) ?_
            refine f_12_17 F w (a := 146) rfl tb_676 dX12_readsRule_78 ?_
            refine lv_iconst (v := zI 3) hx hb dX12_readsRule_81 rfl ?_
            refine lv_aload_n hx hb dX12_readsRule_82 rfl (lv_at hl 1 rfl) ?_
            refine k_Vi F w (As := []) (rest := [.int (zI 3), .ref (B + 153)]) (a := 146) (kd_lt (a := 146) (show kd 146 = (12, 0, 0) from rfl) (by decide)) (sh_12 rfl _ _) rfl (q_X12_needsNumber (tk := nz6710) ((st_ne (Or.inl (by decide))).trans enz6710) ⟨by omega, by omega⟩ (nb := nz6711) ((st_ne (Or.inl (by decide))).trans enz6711) ⟨by omega, by omega⟩ (by omega) (IvR.to hIN670 (a := 153) (k := 0) (x := 8) (show ivr 153 0 = ((-99), 300) from rfl) ⟨by omega, by omega⟩ ⟨by decide, by decide, by decide, fun q9 => absurd q9 (by decide)⟩)) gv_X12_230 hv_X12_needsNumber ⟨(Nat.le_of_ble_eq_true rfl), (Nat.le_of_ble_eq_true rfl)⟩ hl.1 rfl (Nat.le_of_ble_eq_true rfl) ⟨Nat.zero_le _, Nat.zero_le _⟩ dX12_readsRule_83 (fun r1282 N1283 H locs hp w => ?_)
            obtain ⟨z1284, rfl, bz1284, ⟨nz12840, nz12841, enz12840, enz12841, xz1284⟩, hIN1283, hFN1283⟩ := hp
            have hGN1283 := Fr.tr (Fr.to hGN670 (by first | decide | (dsimp only; first | done | decide | omega) | omega)) hFN1283 (S := (fun b9 k9 => (b9 = 146 ∧ k9 = 11) ∨ (b9 = 146 ∧ k9 = 13) ∨ (b9 = 146 ∧ k9 = 14) ∨ (b9 = 146 ∧ k9 = 15) ∨ (b9 = 146 ∧ k9 = 16) ∨ (b9 = 146 ∧ k9 = 9) ∨ b9 = 153)) (fun b k h => by (try dsimp only at h ⊢); rcases h with ⟨rfl, rfl⟩ | ⟨rfl, rfl⟩ | ⟨rfl, rfl⟩ | ⟨rfl, rfl⟩ | ⟨rfl, rfl⟩ | ⟨rfl, rfl⟩ <;> first | decide | omega)
            have kn1285 : N1283.1 153 1 = zI 1 := (hFN1283 153 1 (by first | decide | (dsimp only; first | done | decide | omega) | omega)).trans ((st_ne (Or.inr (by decide))).trans kn672)
            have kn1286 : N1283.1 153 0 = zI 8 := (hFN1283 153 0 (by first | decide | (dsimp only; first | done | decide | omega) | omega)).trans (st_at)
            refine g_iast F w (a := 153) rfl (j := 3) ⟨by decide, by decide⟩ (by omega) dX12_readsRule_86 (fun H locs w => ?_)
            refine lv_goto (tgt := 119) hx hb dX12_readsRule_87 (by decide) ?_
            refine lv_iload_n hx hb dX12_readsRule_119 rfl (lv_at hl 0 rfl) ?_
            refine lv_bipush (v := zI 7) hx hb dX12_readsRule_120 (by decide) ?_
            refine z_icmp_ne (tgt := 148) hx hb (by omega) (by omega) dX12_readsRule_122 (by decide) (fun c1287 => ?_) (fun c1287 => False.elim (by omega))
            refine lv_iload_n hx hb dX12_readsRule_148 rfl (lv_at hl 0 rfl) ?_
            refine k_Si F w (As := [.int (zI 8)]) (rest := []) (q_X12_hasSide (x := 8) ⟨by omega, by omega⟩  (IvR.to hIN1283 (a := 153) (k := 3) (x := z1284) (show ivr 153 3 = ((-99), 300) from rfl) ⟨by omega, by omega⟩ ⟨by decide, by decide, by decide, fun q9 => absurd q9 (by decide)⟩)) gs_X12_137 hs_X12_hasSide ⟨(Nat.le_of_ble_eq_true rfl), (Nat.le_of_ble_eq_true rfl)⟩ hl.1 rfl (Nat.le_of_ble_eq_true rfl) ⟨Nat.zero_le _, Nat.zero_le _⟩ dX12_readsRule_149 (fun r1288 N1289 H locs hp w => ?_)
            obtain ⟨z1290, rfl, bz1290, xz1290, hMN1289⟩ := hp
            rw [hMN1289] at w
            refine z_if_eq (tgt := 169) hx hb (by omega) dX12_readsRule_152 (by decide) (fun c1291 => ?_) (fun c1291 => False.elim (by omega))
            refine lv_iload_n hx hb dX12_readsRule_169 rfl (lv_at hl 0 rfl) ?_
            refine lv_iconst (v := zI 3) hx hb dX12_readsRule_170 rfl ?_
            refine z_icmp_eq (tgt := 180) hx hb (by omega) (by omega) dX12_readsRule_171 (by decide) (fun c1292 => False.elim (by omega)) (fun c1292 => ?_)
            refine lv_iload_n hx hb dX12_readsRule_174 rfl (lv_at hl 0 rfl) ?_
            refine lv_bipush (v := zI 8) hx hb dX12_readsRule_175 (by decide) ?_
            refine z_icmp_ne (tgt := 194) hx hb (by omega) (by omega) dX12_readsRule_177 (by decide) (fun c1293 => False.elim (by omega)) (fun c1293 => ?_)
            refine lv_aload_n hx hb dX12_readsRule_180 rfl (lv_at hl 1 rfl) ?_
            refine f_12_17 F w (a := 146) rfl tb_676 dX12_readsRule_181 ?_
            refine lv_iconst (v := zI 4) hx hb dX12_readsRule_184 rfl ?_
            refine lv_aload_n hx hb dX12_readsRule_185 rfl (lv_at hl 1 rfl) ?_
            refine lv_bipush (v := zI 17) hx hb dX12_readsRule_186 (by decide) ?_
            refine lv_bipush (v := zI 18) hx hb dX12_readsRule_188 (by decide) ?_
            refine k_Vi F w (As := [.int (zI 17), .int (zI 18)]) (rest := [.int (zI 4), .ref (B + 153)]) (a := 146) (kd_lt (a := 146) (show kd 146 = (12, 0, 0) from rfl) (by decide)) (sh_12 rfl _ _) rfl (q_X12_needs (x := 17) ⟨by omega, by omega⟩ (x1 := 18) ⟨by omega, by omega⟩ (tk := nz12840) ((st_ne (Or.inl (by decide))).trans enz12840) ⟨by omega, by omega⟩ (nb := nz12841) ((st_ne (Or.inl (by decide))).trans enz12841) ⟨by omega, by omega⟩ (by omega) (IvR.to hIN1283 (a := 153) (k := 3) (x := z1284) (show ivr 153 3 = ((-99), 300) from rfl) ⟨by omega, by omega⟩ ⟨by decide, by decide, by decide, fun q9 => absurd q9 (by decide)⟩)) gv_X12_227 hv_X12_needs ⟨(Nat.le_of_ble_eq_true rfl), (Nat.le_of_ble_eq_true rfl)⟩ hl.1 rfl (Nat.le_of_ble_eq_true rfl) ⟨Nat.zero_le _, Nat.zero_le _⟩ dX12_readsRule_190 (fun r1294 N1295 H locs hp w => ?_)
            obtain ⟨z1296, rfl, bz1296, ⟨nz12960, nz12961, enz12960, enz12961, xz1296⟩, hIN1295, hFN1295⟩ := hp
            have hGN1295 := Fr.tr (Fr.to hGN1283 (by first | decide | (dsimp only; first | done | decide | omega) | omega)) hFN1295 (S := (fun b9 k9 => (b9 = 146 ∧ k9 = 11) ∨ (b9 = 146 ∧ k9 = 13) ∨ (b9 = 146 ∧ k9 = 14) ∨ (b9 = 146 ∧ k9 = 15) ∨ (b9 = 146 ∧ k9 = 16) ∨ (b9 = 146 ∧ k9 = 9) ∨ b9 = 153)) (fun b k h => by (try dsimp only at h ⊢); rcases h with ⟨rfl, rfl⟩ | ⟨rfl, rfl⟩ | ⟨rfl, rfl⟩ | ⟨rfl, rfl⟩ | ⟨rfl, rfl⟩ | ⟨rfl, rfl⟩ <;> first | decide | omega)
            have kn1297 : N1295.1 153 1 = zI 1 := (hFN1295 153 1 (by first | decide | (dsimp only; first | done | decide | omega) | omega)).trans ((st_ne (Or.inr (by decide))).trans kn1285)
            have kn1298 : N1295.1 153 0 = zI 8 := (hFN1295 153 0 (by first | decide | (dsimp only; first | done | decide | omega) | omega)).trans ((st_ne (Or.inr (by decide))).trans kn1286)
            have kn1299 : N1295.1 153 3 = zI z1284 := (hFN1295 153 3 (by first | decide | (dsimp only; first | done | decide | omega) | omega)).trans (st_at)
            refine g_iast F w (a := 153) rfl (j := 4) ⟨by decide, by decide⟩ (by omega) dX12_readsRule_193 (fun H locs w => ?_)
            refine lv_iload_n hx hb dX12_readsRule_194 rfl (lv_at hl 0 rfl) ?_
            refine lv_iconst (v := zI 1) hx hb dX12_readsRule_195 rfl ?_
            refine z_icmp_ne (tgt := 209) hx hb (by omega) (by omega) dX12_readsRule_196 (by decide) (fun c1300 => ?_) (fun c1300 => False.elim (by omega))
            refine lv_aload_n hx hb dX12_readsRule_209 rfl (lv_at hl 1 rfl) ?_
            refine f_12_16 F w (a := 146) rfl tb_669 dX12_readsRule_210 ?_
            obtain ⟨z1301, bz1301, ez1301⟩ := IvR.ld (k := 16) (IvR.to hIN1295 (a := 153) (k := 4) (x := z1296) (show ivr 153 4 = ((-99), 300) from rfl) ⟨by omega, by omega⟩ ⟨by decide, by decide, by decide, fun q9 => absurd q9 (by decide)⟩) (show ivr 146 16 = (0, 1) from rfl) (show 146 ≤ 146 ∧ 146 < 159 by decide)
            refine r_val ez1301 ?_
            refine z_if_ne (tgt := 236) hx hb (by omega) dX12_readsRule_213 (by decide) (fun c1302 => ?_) (fun c1302 => ?_)
            · refine lv_aload_n hx hb dX12_readsRule_236 rfl (lv_at hl 1 rfl) ?_
              refine f_12_16 F w (a := 146) rfl tb_669 dX12_readsRule_237 ?_
              obtain ⟨z1303, bz1303, ez1303⟩ := IvR.ld (k := 16) (IvR.to hIN1295 (a := 153) (k := 4) (x := z1296) (show ivr 153 4 = ((-99), 300) from rfl) ⟨by omega, by omega⟩ ⟨by decide, by decide, by decide, fun q9 => absurd q9 (by decide)⟩) (show ivr 146 16 = (0, 1) from rfl) (show 146 ≤ 146 ∧ 146 < 159 by decide)
              refine r_val ez1303 ?_
              refine z_if_eq (tgt := 244) hx hb (by omega) dX12_readsRule_240 (by decide) (fun c1304 => ?_) (fun c1304 => ?_)
              · refine lv_aload_n hx hb dX12_readsRule_244 rfl (lv_at hl 1 rfl) ?_
                refine f_12_13 F w (a := 146) rfl tb_602 dX12_readsRule_245 ?_
                refine r_val (v := zI nz12960) ((st_ne (Or.inl (by decide))).trans enz12960) ?_
                refine lv_iconst (v := zI 3) hx hb dX12_readsRule_248 rfl ?_
                refine z_icmp_ne (tgt := 259) hx hb (by omega) (by omega) dX12_readsRule_249 (by decide) (fun c1305 => ?_) (fun c1305 => ?_)
                · refine lv_aload_n hx hb dX12_readsRule_259 rfl (lv_at hl 1 rfl) ?_
                  refine lv_iconst (v := zI 1) hx hb dX12_readsRule_260 rfl ?_
                  refine u_12_16 F w (a := 146) rfl (nar_z (by omega)) (fit_z (by omega)) tb_669 dX12_readsRule_261 (fun H locs w => ?_)
                  rw [hQ]
                  exact e_v F w hr hlocks ⟨⟨nz12960, nz12961, 1, ((st_ne (Or.inr (by decide))).trans ((st_ne (Or.inl (by decide))).trans enz12960)), ((st_ne (Or.inr (by decide))).trans ((st_ne (Or.inl (by decide))).trans enz12961)), (st_at), ⟨by omega, by omega⟩, ⟨by omega, by omega⟩, ⟨by omega, by omega⟩, (by omega)⟩, (fun h8 => by have h9 := (zI_eq (a := 8) (b := 8) (by constructor <;> omega) (by constructor <;> omega)).mp (((st_ne (Or.inl (by decide))).trans ((st_ne (Or.inr (by decide))).trans kn1298)).symm.trans h8); exact ⟨z1284, by omega, by omega, (st_ne (Or.inl (by decide))).trans ((st_ne (Or.inr (by decide))).trans kn1299)⟩), (IvR.to (IvR.to hIN1295 (a := 153) (k := 4) (x := z1296) (show ivr 153 4 = ((-99), 300) from rfl) ⟨by omega, by omega⟩ ⟨by decide, by decide, by decide, fun q9 => absurd q9 (by decide)⟩) (a := 146) (k := 16) (x := 1) (show ivr 146 16 = (0, 1) from rfl) ⟨by omega, by omega⟩ ⟨by decide, by decide, by decide, fun q9 => absurd q9 (by decide)⟩), (Fr.to (Fr.to hGN1295 (by first | decide | (dsimp only; first | done | decide | omega) | omega)) (by first | decide | (dsimp only; first | done | decide | omega) | omega))⟩ dX12_readsRule_264
                · refine lv_aload_n hx hb dX12_readsRule_252 rfl (lv_at hl 1 rfl) ?_
                  refine k_Vv F w (As := []) (rest := []) (a := 146) (kd_lt (a := 146) (show kd 146 = (12, 0, 0) from rfl) (by decide)) (sh_12 rfl _ _) rfl (q_X12_goesOn   (IvR.to hIN1295 (a := 153) (k := 4) (x := z1296) (show ivr 153 4 = ((-99), 300) from rfl) ⟨by omega, by omega⟩ ⟨by decide, by decide, by decide, fun q9 => absurd q9 (by decide)⟩)) gv_X12_221 hv_X12_goesOn ⟨(Nat.le_of_ble_eq_true rfl), (Nat.le_of_ble_eq_true rfl)⟩ hl.1 rfl (Nat.le_of_ble_eq_true rfl) ⟨Nat.zero_le _, Nat.zero_le _⟩ dX12_readsRule_253 (fun N1307 H locs hp w => ?_)
                  obtain ⟨⟨nz13080, nz13081, enz13080, enz13081, xz1308⟩, hIN1307, hFN1307⟩ := hp
                  have hGN1307 := Fr.tr (Fr.to hGN1295 (by first | decide | (dsimp only; first | done | decide | omega) | omega)) hFN1307 (S := (fun b9 k9 => (b9 = 146 ∧ k9 = 11) ∨ (b9 = 146 ∧ k9 = 13) ∨ (b9 = 146 ∧ k9 = 14) ∨ (b9 = 146 ∧ k9 = 15) ∨ (b9 = 146 ∧ k9 = 16) ∨ (b9 = 146 ∧ k9 = 9) ∨ b9 = 153)) (fun b k h => by (try dsimp only at h ⊢); rcases h with ⟨rfl, rfl⟩ | ⟨rfl, rfl⟩ | ⟨rfl, rfl⟩ | ⟨rfl, rfl⟩ | ⟨rfl, rfl⟩ <;> first | decide | omega)
                  have kn1309 : N1307.1 153 1 = zI 1 := (hFN1307 153 1 (by first | decide | (dsimp only; first | done | decide | omega) | omega)).trans ((st_ne (Or.inr (by decide))).trans kn1297)
                  have kn1310 : N1307.1 153 0 = zI 8 := (hFN1307 153 0 (by first | decide | (dsimp only; first | done | decide | omega) | omega)).trans ((st_ne (Or.inr (by decide))).trans kn1298)
                  have kn1311 : N1307.1 153 3 = zI z1284 := (hFN1307 153 3 (by first | decide | (dsimp only; first | done | decide | omega) | omega)).trans ((st_ne (Or.inr (by decide))).trans kn1299)
                  have kn1312 : N1307.1 153 4 = zI z1296 := (hFN1307 153 4 (by first | decide | (dsimp only; first | done | decide | omega) | omega)).trans (st_at)
                  refine lv_goto (tgt := 264) hx hb dX12_readsRule_256 (by decide) ?_
                  obtain ⟨z1313, bz1313, ez1313⟩ := IvR.ld (k := 16) hIN1307 (show ivr 146 16 = (0, 1) from rfl) (show 146 ≤ 146 ∧ 146 < 159 by decide)
                  rw [hQ]
                  exact e_v F w hr hlocks ⟨⟨nz13080, nz13081, z1313, (enz13080), (enz13081), (ez1313), ⟨by omega, by omega⟩, ⟨by omega, by omega⟩, ⟨by omega, by omega⟩, (by omega)⟩, (fun h8 => by have h9 := (zI_eq (a := 8) (b := 8) (by constructor <;> omega) (by constructor <;> omega)).mp ((kn1310).symm.trans h8); exact ⟨z1284, by omega, by omega, kn1311⟩), hIN1307, hGN1307⟩ dX12_readsRule_264
              · obtain ⟨z1314, bz1314, ez1314⟩ := IvR.ld (k := 16) (IvR.to hIN1295 (a := 153) (k := 4) (x := z1296) (show ivr 153 4 = ((-99), 300) from rfl) ⟨by omega, by omega⟩ ⟨by decide, by decide, by decide, fun q9 => absurd q9 (by decide)⟩) (show ivr 146 16 = (0, 1) from rfl) (show 146 ≤ 146 ∧ 146 < 159 by decide)
                rw [hQ]
                exact e_v F w hr hlocks ⟨⟨nz12960, nz12961, z1314, ((st_ne (Or.inl (by decide))).trans enz12960), ((st_ne (Or.inl (by decide))).trans enz12961), (ez1314), ⟨by omega, by omega⟩, ⟨by omega, by omega⟩, ⟨by omega, by omega⟩, (by omega)⟩, (fun h8 => by have h9 := (zI_eq (a := 8) (b := 8) (by constructor <;> omega) (by constructor <;> omega)).mp (((st_ne (Or.inr (by decide))).trans kn1298).symm.trans h8); exact ⟨z1284, by omega, by omega, (st_ne (Or.inr (by decide))).trans kn1299⟩), (IvR.to hIN1295 (a := 153) (k := 4) (x := z1296) (show ivr 153 4 = ((-99), 300) from rfl) ⟨by omega, by omega⟩ ⟨by decide, by decide, by decide, fun q9 => absurd q9 (by decide)⟩), (Fr.to hGN1295 (by first | decide | (dsimp only; first | done | decide | omega) | omega))⟩ dX12_readsRule_243
            · refine lv_iload_n hx hb dX12_readsRule_216 rfl (lv_at hl 0 rfl) ?_
              refine k_Si F w (As := [.int (zI 8)]) (rest := []) (q_X12_isBySyllables (x := 8) ⟨by omega, by omega⟩  (IvR.to hIN1295 (a := 153) (k := 4) (x := z1296) (show ivr 153 4 = ((-99), 300) from rfl) ⟨by omega, by omega⟩ ⟨by decide, by decide, by decide, fun q9 => absurd q9 (by decide)⟩)) gs_X12_140 hs_X12_isBySyllables ⟨(Nat.le_of_ble_eq_true rfl), (Nat.le_of_ble_eq_true rfl)⟩ hl.1 rfl (Nat.le_of_ble_eq_true rfl) ⟨Nat.zero_le _, Nat.zero_le _⟩ dX12_readsRule_217 (fun r1315 N1316 H locs hp w => ?_)
              obtain ⟨z1317, rfl, bz1317, xz1317, hMN1316⟩ := hp
              rw [hMN1316] at w
              refine z_if_ne (tgt := 236) hx hb (by omega) dX12_readsRule_220 (by decide) (fun c1318 => ?_) (fun c1318 => False.elim (by omega))
              refine lv_aload_n hx hb dX12_readsRule_236 rfl (lv_at hl 1 rfl) ?_
              refine f_12_16 F w (a := 146) rfl tb_669 dX12_readsRule_237 ?_
              obtain ⟨z1319, bz1319, ez1319⟩ := IvR.ld (k := 16) (IvR.to hIN1295 (a := 153) (k := 4) (x := z1296) (show ivr 153 4 = ((-99), 300) from rfl) ⟨by omega, by omega⟩ ⟨by decide, by decide, by decide, fun q9 => absurd q9 (by decide)⟩) (show ivr 146 16 = (0, 1) from rfl) (show 146 ≤ 146 ∧ 146 < 159 by decide)
              refine r_val ez1319 ?_
              refine z_if_eq (tgt := 244) hx hb (by omega) dX12_readsRule_240 (by decide) (fun c1320 => ?_) (fun c1320 => ?_)
              · refine lv_aload_n hx hb dX12_readsRule_244 rfl (lv_at hl 1 rfl) ?_
                refine f_12_13 F w (a := 146) rfl tb_602 dX12_readsRule_245 ?_
                refine r_val (v := zI nz12960) ((st_ne (Or.inl (by decide))).trans enz12960) ?_
                refine lv_iconst (v := zI 3) hx hb dX12_readsRule_248 rfl ?_
                refine z_icmp_ne (tgt := 259) hx hb (by omega) (by omega) dX12_readsRule_249 (by decide) (fun c1321 => ?_) (fun c1321 => ?_)
                · refine lv_aload_n hx hb dX12_readsRule_259 rfl (lv_at hl 1 rfl) ?_
                  refine lv_iconst (v := zI 1) hx hb dX12_readsRule_260 rfl ?_
                  refine u_12_16 F w (a := 146) rfl (nar_z (by omega)) (fit_z (by omega)) tb_669 dX12_readsRule_261 (fun H locs w => ?_)
                  rw [hQ]
                  exact e_v F w hr hlocks ⟨⟨nz12960, nz12961, 1, ((st_ne (Or.inr (by decide))).trans ((st_ne (Or.inl (by decide))).trans enz12960)), ((st_ne (Or.inr (by decide))).trans ((st_ne (Or.inl (by decide))).trans enz12961)), (st_at), ⟨by omega, by omega⟩, ⟨by omega, by omega⟩, ⟨by omega, by omega⟩, (by omega)⟩, (fun h8 => by have h9 := (zI_eq (a := 8) (b := 8) (by constructor <;> omega) (by constructor <;> omega)).mp (((st_ne (Or.inl (by decide))).trans ((st_ne (Or.inr (by decide))).trans kn1298)).symm.trans h8); exact ⟨z1284, by omega, by omega, (st_ne (Or.inl (by decide))).trans ((st_ne (Or.inr (by decide))).trans kn1299)⟩), (IvR.to (IvR.to hIN1295 (a := 153) (k := 4) (x := z1296) (show ivr 153 4 = ((-99), 300) from rfl) ⟨by omega, by omega⟩ ⟨by decide, by decide, by decide, fun q9 => absurd q9 (by decide)⟩) (a := 146) (k := 16) (x := 1) (show ivr 146 16 = (0, 1) from rfl) ⟨by omega, by omega⟩ ⟨by decide, by decide, by decide, fun q9 => absurd q9 (by decide)⟩), (Fr.to (Fr.to hGN1295 (by first | decide | (dsimp only; first | done | decide | omega) | omega)) (by first | decide | (dsimp only; first | done | decide | omega) | omega))⟩ dX12_readsRule_264
                · refine lv_aload_n hx hb dX12_readsRule_252 rfl (lv_at hl 1 rfl) ?_
                  refine k_Vv F w (As := []) (rest := []) (a := 146) (kd_lt (a := 146) (show kd 146 = (12, 0, 0) from rfl) (by decide)) (sh_12 rfl _ _) rfl (q_X12_goesOn   (IvR.to hIN1295 (a := 153) (k := 4) (x := z1296) (show ivr 153 4 = ((-99), 300) from rfl) ⟨by omega, by omega⟩ ⟨by decide, by decide, by decide, fun q9 => absurd q9 (by decide)⟩)) gv_X12_221 hv_X12_goesOn ⟨(Nat.le_of_ble_eq_true rfl), (Nat.le_of_ble_eq_true rfl)⟩ hl.1 rfl (Nat.le_of_ble_eq_true rfl) ⟨Nat.zero_le _, Nat.zero_le _⟩ dX12_readsRule_253 (fun N1323 H locs hp w => ?_)
                  obtain ⟨⟨nz13240, nz13241, enz13240, enz13241, xz1324⟩, hIN1323, hFN1323⟩ := hp
                  have hGN1323 := Fr.tr (Fr.to hGN1295 (by first | decide | (dsimp only; first | done | decide | omega) | omega)) hFN1323 (S := (fun b9 k9 => (b9 = 146 ∧ k9 = 11) ∨ (b9 = 146 ∧ k9 = 13) ∨ (b9 = 146 ∧ k9 = 14) ∨ (b9 = 146 ∧ k9 = 15) ∨ (b9 = 146 ∧ k9 = 16) ∨ (b9 = 146 ∧ k9 = 9) ∨ b9 = 153)) (fun b k h => by (try dsimp only at h ⊢); rcases h with ⟨rfl, rfl⟩ | ⟨rfl, rfl⟩ | ⟨rfl, rfl⟩ | ⟨rfl, rfl⟩ | ⟨rfl, rfl⟩ <;> first | decide | omega)
                  have kn1325 : N1323.1 153 1 = zI 1 := (hFN1323 153 1 (by first | decide | (dsimp only; first | done | decide | omega) | omega)).trans ((st_ne (Or.inr (by decide))).trans kn1297)
                  have kn1326 : N1323.1 153 0 = zI 8 := (hFN1323 153 0 (by first | decide | (dsimp only; first | done | decide | omega) | omega)).trans ((st_ne (Or.inr (by decide))).trans kn1298)
                  have kn1327 : N1323.1 153 3 = zI z1284 := (hFN1323 153 3 (by first | decide | (dsimp only; first | done | decide | omega) | omega)).trans ((st_ne (Or.inr (by decide))).trans kn1299)
                  have kn1328 : N1323.1 153 4 = zI z1296 := (hFN1323 153 4 (by first | decide | (dsimp only; first | done | decide | omega) | omega)).trans (st_at)
                  refine lv_goto (tgt := 264) hx hb dX12_readsRule_256 (by decide) ?_
                  obtain ⟨z1329, bz1329, ez1329⟩ := IvR.ld (k := 16) hIN1323 (show ivr 146 16 = (0, 1) from rfl) (show 146 ≤ 146 ∧ 146 < 159 by decide)
                  rw [hQ]
                  exact e_v F w hr hlocks ⟨⟨nz13240, nz13241, z1329, (enz13240), (enz13241), (ez1329), ⟨by omega, by omega⟩, ⟨by omega, by omega⟩, ⟨by omega, by omega⟩, (by omega)⟩, (fun h8 => by have h9 := (zI_eq (a := 8) (b := 8) (by constructor <;> omega) (by constructor <;> omega)).mp ((kn1326).symm.trans h8); exact ⟨z1284, by omega, by omega, kn1327⟩), hIN1323, hGN1323⟩ dX12_readsRule_264
              · obtain ⟨z1330, bz1330, ez1330⟩ := IvR.ld (k := 16) (IvR.to hIN1295 (a := 153) (k := 4) (x := z1296) (show ivr 153 4 = ((-99), 300) from rfl) ⟨by omega, by omega⟩ ⟨by decide, by decide, by decide, fun q9 => absurd q9 (by decide)⟩) (show ivr 146 16 = (0, 1) from rfl) (show 146 ≤ 146 ∧ 146 < 159 by decide)
                rw [hQ]
                exact e_v F w hr hlocks ⟨⟨nz12960, nz12961, z1330, ((st_ne (Or.inl (by decide))).trans enz12960), ((st_ne (Or.inl (by decide))).trans enz12961), (ez1330), ⟨by omega, by omega⟩, ⟨by omega, by omega⟩, ⟨by omega, by omega⟩, (by omega)⟩, (fun h8 => by have h9 := (zI_eq (a := 8) (b := 8) (by constructor <;> omega) (by constructor <;> omega)).mp (((st_ne (Or.inr (by decide))).trans kn1298).symm.trans h8); exact ⟨z1284, by omega, by omega, (st_ne (Or.inr (by decide))).trans kn1299⟩), (IvR.to hIN1295 (a := 153) (k := 4) (x := z1296) (show ivr 153 4 = ((-99), 300) from rfl) ⟨by omega, by omega⟩ ⟨by decide, by decide, by decide, fun q9 => absurd q9 (by decide)⟩), (Fr.to hGN1295 (by first | decide | (dsimp only; first | done | decide | omega) | omega))⟩ dX12_readsRule_243
          · refine lv_istore_n (lv' := [(1, .int (zI 9)), (0, .ref (B + 146))]) hx hb dX12_readsRule_63 rfl hl (by decide) rfl (fun ls hl => ?_)
            refine lv_aload_n hx hb dX12_readsRule_64 rfl (lv_at hl 1 rfl) ?_
            refine f_12_17 F w (a := 146) rfl tb_676 dX12_readsRule_65 ?_
            refine lv_iconst (v := zI 0) hx hb dX12_readsRule_68 rfl ?_
            refine lv_iload_n hx hb dX12_readsRule_69 rfl (lv_at hl 0 rfl) ?_
            refine g_iast F w (a := 153) rfl (j := 0) ⟨by decide, by decide⟩ (by omega) dX12_readsRule_70 (fun H locs w => ?_)
            refine lv_iload_n hx hb dX12_readsRule_71 rfl (lv_at hl 0 rfl) ?_
            refine lv_bipush (v := zI 8) hx hb dX12_readsRule_72 (by decide) ?_
            refine z_icmp_ne (tgt := 90) hx hb (by omega) (by omega) dX12_readsRule_74 (by decide) (fun c1331 => ?_) (fun c1331 => False.elim (by omega))
            refine lv_iload_n hx hb dX12_readsRule_90 rfl (lv_at hl 0 rfl) ?_
            refine z_if_eq (tgt := 119) hx hb (by omega) dX12_readsRule_91 (by decide) (fun c1332 => False.elim (by omega)) (fun c1332 => ?_)
            refine lv_aload_n hx hb dX12_readsRule_94 rfl (lv_at hl 1 rfl) ?_
            refine f_12_17 F w (a := 146) rfl tb_676 dX12_readsRule_95 ?_
            refine lv_iconst (v := zI 2) hx hb dX12_readsRule_98 rfl ?_
            refine lv_aload_n hx hb dX12_readsRule_99 rfl (lv_at hl 1 rfl) ?_
            refine lv_bipush (v := zI 11) hx hb dX12_readsRule_100 (by decide) ?_
            refine lv_iload_n hx hb dX12_readsRule_102 rfl (lv_at hl 0 rfl) ?_
            refine lv_bipush (v := zI 9) hx hb dX12_readsRule_103 (by decide) ?_
            refine z_icmp_ne (tgt := 113) hx hb (by omega) (by omega) dX12_readsRule_105 (by decide) (fun c1333 => False.elim (by omega)) (fun c1333 => ?_)
            refine lv_bipush (v := zI 13) hx hb dX12_readsRule_108 (by decide) ?_
            refine lv_goto (tgt := 115) hx hb dX12_readsRule_110 (by decide) ?_
            refine k_Vi F w (As := [.int (zI 11), .int (zI 13)]) (rest := [.int (zI 2), .ref (B + 153)]) (a := 146) (kd_lt (a := 146) (show kd 146 = (12, 0, 0) from rfl) (by decide)) (sh_12 rfl _ _) rfl (q_X12_needs (x := 11) ⟨by omega, by omega⟩ (x1 := 13) ⟨by omega, by omega⟩ (tk := nz6710) ((st_ne (Or.inl (by decide))).trans enz6710) ⟨by omega, by omega⟩ (nb := nz6711) ((st_ne (Or.inl (by decide))).trans enz6711) ⟨by omega, by omega⟩ (by omega) (IvR.to hIN670 (a := 153) (k := 0) (x := 9) (show ivr 153 0 = ((-99), 300) from rfl) ⟨by omega, by omega⟩ ⟨by decide, by decide, by decide, fun q9 => absurd q9 (by decide)⟩)) gv_X12_227 hv_X12_needs ⟨(Nat.le_of_ble_eq_true rfl), (Nat.le_of_ble_eq_true rfl)⟩ hl.1 rfl (Nat.le_of_ble_eq_true rfl) ⟨Nat.zero_le _, Nat.zero_le _⟩ dX12_readsRule_115 (fun r1334 N1335 H locs hp w => ?_)
            obtain ⟨z1336, rfl, bz1336, ⟨nz13360, nz13361, enz13360, enz13361, xz1336⟩, hIN1335, hFN1335⟩ := hp
            have hGN1335 := Fr.tr (Fr.to hGN670 (by first | decide | (dsimp only; first | done | decide | omega) | omega)) hFN1335 (S := (fun b9 k9 => (b9 = 146 ∧ k9 = 11) ∨ (b9 = 146 ∧ k9 = 13) ∨ (b9 = 146 ∧ k9 = 14) ∨ (b9 = 146 ∧ k9 = 15) ∨ (b9 = 146 ∧ k9 = 16) ∨ (b9 = 146 ∧ k9 = 9) ∨ b9 = 153)) (fun b k h => by (try dsimp only at h ⊢); rcases h with ⟨rfl, rfl⟩ | ⟨rfl, rfl⟩ | ⟨rfl, rfl⟩ | ⟨rfl, rfl⟩ | ⟨rfl, rfl⟩ | ⟨rfl, rfl⟩ <;> first | decide | omega)
            have kn1337 : N1335.1 153 1 = zI 1 := (hFN1335 153 1 (by first | decide | (dsimp only; first | done | decide | omega) | omega)).trans ((st_ne (Or.inr (by decide))).trans kn672)
            have kn1338 : N1335.1 153 0 = zI 9 := (hFN1335 153 0 (by first | decide | (dsimp only; first | done | decide | omega) | omega)).trans (st_at)
            refine g_iast F w (a := 153) rfl (j := 2) ⟨by decide, by decide⟩ (by omega) dX12_readsRule_118 (fun H locs w => ?_)
            refine lv_iload_n hx hb dX12_readsRule_119 rfl (lv_at hl 0 rfl) ?_
            refine lv_bipush (v := zI 7) hx hb dX12_readsRule_120 (by decide) ?_
            refine z_icmp_ne (tgt := 148) hx hb (by omega) (by omega) dX12_readsRule_122 (by decide) (fun c1339 => ?_) (fun c1339 => False.elim (by omega))
            refine lv_iload_n hx hb dX12_readsRule_148 rfl (lv_at hl 0 rfl) ?_
            refine k_Si F w (As := [.int (zI 9)]) (rest := []) (q_X12_hasSide (x := 9) ⟨by omega, by omega⟩  (IvR.to hIN1335 (a := 153) (k := 2) (x := z1336) (show ivr 153 2 = ((-99), 300) from rfl) ⟨by omega, by omega⟩ ⟨by decide, by decide, by decide, fun q9 => absurd q9 (by decide)⟩)) gs_X12_137 hs_X12_hasSide ⟨(Nat.le_of_ble_eq_true rfl), (Nat.le_of_ble_eq_true rfl)⟩ hl.1 rfl (Nat.le_of_ble_eq_true rfl) ⟨Nat.zero_le _, Nat.zero_le _⟩ dX12_readsRule_149 (fun r1340 N1341 H locs hp w => ?_)
            obtain ⟨z1342, rfl, bz1342, xz1342, hMN1341⟩ := hp
            rw [hMN1341] at w
            refine z_if_eq (tgt := 169) hx hb (by omega) dX12_readsRule_152 (by decide) (fun c1343 => ?_) (fun c1343 => False.elim (by omega))
            refine lv_iload_n hx hb dX12_readsRule_169 rfl (lv_at hl 0 rfl) ?_
            refine lv_iconst (v := zI 3) hx hb dX12_readsRule_170 rfl ?_
            refine z_icmp_eq (tgt := 180) hx hb (by omega) (by omega) dX12_readsRule_171 (by decide) (fun c1344 => False.elim (by omega)) (fun c1344 => ?_)
            refine lv_iload_n hx hb dX12_readsRule_174 rfl (lv_at hl 0 rfl) ?_
            refine lv_bipush (v := zI 8) hx hb dX12_readsRule_175 (by decide) ?_
            refine z_icmp_ne (tgt := 194) hx hb (by omega) (by omega) dX12_readsRule_177 (by decide) (fun c1345 => ?_) (fun c1345 => False.elim (by omega))
            refine lv_iload_n hx hb dX12_readsRule_194 rfl (lv_at hl 0 rfl) ?_
            refine lv_iconst (v := zI 1) hx hb dX12_readsRule_195 rfl ?_
            refine z_icmp_ne (tgt := 209) hx hb (by omega) (by omega) dX12_readsRule_196 (by decide) (fun c1346 => ?_) (fun c1346 => False.elim (by omega))
            refine lv_aload_n hx hb dX12_readsRule_209 rfl (lv_at hl 1 rfl) ?_
            refine f_12_16 F w (a := 146) rfl tb_669 dX12_readsRule_210 ?_
            obtain ⟨z1347, bz1347, ez1347⟩ := IvR.ld (k := 16) (IvR.to hIN1335 (a := 153) (k := 2) (x := z1336) (show ivr 153 2 = ((-99), 300) from rfl) ⟨by omega, by omega⟩ ⟨by decide, by decide, by decide, fun q9 => absurd q9 (by decide)⟩) (show ivr 146 16 = (0, 1) from rfl) (show 146 ≤ 146 ∧ 146 < 159 by decide)
            refine r_val ez1347 ?_
            refine z_if_ne (tgt := 236) hx hb (by omega) dX12_readsRule_213 (by decide) (fun c1348 => ?_) (fun c1348 => ?_)
            · refine lv_aload_n hx hb dX12_readsRule_236 rfl (lv_at hl 1 rfl) ?_
              refine f_12_16 F w (a := 146) rfl tb_669 dX12_readsRule_237 ?_
              obtain ⟨z1349, bz1349, ez1349⟩ := IvR.ld (k := 16) (IvR.to hIN1335 (a := 153) (k := 2) (x := z1336) (show ivr 153 2 = ((-99), 300) from rfl) ⟨by omega, by omega⟩ ⟨by decide, by decide, by decide, fun q9 => absurd q9 (by decide)⟩) (show ivr 146 16 = (0, 1) from rfl) (show 146 ≤ 146 ∧ 146 < 159 by decide)
              refine r_val ez1349 ?_
              refine z_if_eq (tgt := 244) hx hb (by omega) dX12_readsRule_240 (by decide) (fun c1350 => ?_) (fun c1350 => ?_)
              · refine lv_aload_n hx hb dX12_readsRule_244 rfl (lv_at hl 1 rfl) ?_
                refine f_12_13 F w (a := 146) rfl tb_602 dX12_readsRule_245 ?_
                refine r_val (v := zI nz13360) ((st_ne (Or.inl (by decide))).trans enz13360) ?_
                refine lv_iconst (v := zI 3) hx hb dX12_readsRule_248 rfl ?_
                refine z_icmp_ne (tgt := 259) hx hb (by omega) (by omega) dX12_readsRule_249 (by decide) (fun c1351 => ?_) (fun c1351 => ?_)
                · refine lv_aload_n hx hb dX12_readsRule_259 rfl (lv_at hl 1 rfl) ?_
                  refine lv_iconst (v := zI 1) hx hb dX12_readsRule_260 rfl ?_
                  refine u_12_16 F w (a := 146) rfl (nar_z (by omega)) (fit_z (by omega)) tb_669 dX12_readsRule_261 (fun H locs w => ?_)
                  obtain ⟨z1352, bz1352, ez1352⟩ := IvR.ld (k := 3) (IvR.to (IvR.to hIN1335 (a := 153) (k := 2) (x := z1336) (show ivr 153 2 = ((-99), 300) from rfl) ⟨by omega, by omega⟩ ⟨by decide, by decide, by decide, fun q9 => absurd q9 (by decide)⟩) (a := 146) (k := 16) (x := 1) (show ivr 146 16 = (0, 1) from rfl) ⟨by omega, by omega⟩ ⟨by decide, by decide, by decide, fun q9 => absurd q9 (by decide)⟩) (show ivr 153 3 = (-99, 300) from rfl) (by decide)
                  rw [hQ]
                  exact e_v F w hr hlocks ⟨⟨nz13360, nz13361, 1, ((st_ne (Or.inr (by decide))).trans ((st_ne (Or.inl (by decide))).trans enz13360)), ((st_ne (Or.inr (by decide))).trans ((st_ne (Or.inl (by decide))).trans enz13361)), (st_at), ⟨by omega, by omega⟩, ⟨by omega, by omega⟩, ⟨by omega, by omega⟩, (by omega)⟩, (fun h8 => by have h9 := (zI_eq (a := 9) (b := 8) (by constructor <;> omega) (by constructor <;> omega)).mp (((st_ne (Or.inl (by decide))).trans ((st_ne (Or.inr (by decide))).trans kn1338)).symm.trans h8); exact ⟨z1352, by omega, by omega, ez1352⟩), (IvR.to (IvR.to hIN1335 (a := 153) (k := 2) (x := z1336) (show ivr 153 2 = ((-99), 300) from rfl) ⟨by omega, by omega⟩ ⟨by decide, by decide, by decide, fun q9 => absurd q9 (by decide)⟩) (a := 146) (k := 16) (x := 1) (show ivr 146 16 = (0, 1) from rfl) ⟨by omega, by omega⟩ ⟨by decide, by decide, by decide, fun q9 => absurd q9 (by decide)⟩), (Fr.to (Fr.to hGN1335 (by first | decide | (dsimp only; first | done | decide | omega) | omega)) (by first | decide | (dsimp only; first | done | decide | omega) | omega))⟩ dX12_readsRule_264
                · refine lv_aload_n hx hb dX12_readsRule_252 rfl (lv_at hl 1 rfl) ?_
                  refine k_Vv F w (As := []) (rest := []) (a := 146) (kd_lt (a := 146) (show kd 146 = (12, 0, 0) from rfl) (by decide)) (sh_12 rfl _ _) rfl (q_X12_goesOn   (IvR.to hIN1335 (a := 153) (k := 2) (x := z1336) (show ivr 153 2 = ((-99), 300) from rfl) ⟨by omega, by omega⟩ ⟨by decide, by decide, by decide, fun q9 => absurd q9 (by decide)⟩)) gv_X12_221 hv_X12_goesOn ⟨(Nat.le_of_ble_eq_true rfl), (Nat.le_of_ble_eq_true rfl)⟩ hl.1 rfl (Nat.le_of_ble_eq_true rfl) ⟨Nat.zero_le _, Nat.zero_le _⟩ dX12_readsRule_253 (fun N1354 H locs hp w => ?_)
                  obtain ⟨⟨nz13550, nz13551, enz13550, enz13551, xz1355⟩, hIN1354, hFN1354⟩ := hp
                  have hGN1354 := Fr.tr (Fr.to hGN1335 (by first | decide | (dsimp only; first | done | decide | omega) | omega)) hFN1354 (S := (fun b9 k9 => (b9 = 146 ∧ k9 = 11) ∨ (b9 = 146 ∧ k9 = 13) ∨ (b9 = 146 ∧ k9 = 14) ∨ (b9 = 146 ∧ k9 = 15) ∨ (b9 = 146 ∧ k9 = 16) ∨ (b9 = 146 ∧ k9 = 9) ∨ b9 = 153)) (fun b k h => by (try dsimp only at h ⊢); rcases h with ⟨rfl, rfl⟩ | ⟨rfl, rfl⟩ | ⟨rfl, rfl⟩ | ⟨rfl, rfl⟩ | ⟨rfl, rfl⟩ <;> first | decide | omega)
                  have kn1356 : N1354.1 153 1 = zI 1 := (hFN1354 153 1 (by first | decide | (dsimp only; first | done | decide | omega) | omega)).trans ((st_ne (Or.inr (by decide))).trans kn1337)
                  have kn1357 : N1354.1 153 0 = zI 9 := (hFN1354 153 0 (by first | decide | (dsimp only; first | done | decide | omega) | omega)).trans ((st_ne (Or.inr (by decide))).trans kn1338)
                  have kn1358 : N1354.1 153 2 = zI z1336 := (hFN1354 153 2 (by first | decide | (dsimp only; first | done | decide | omega) | omega)).trans (st_at)
                  refine lv_goto (tgt := 264) hx hb dX12_readsRule_256 (by decide) ?_
                  obtain ⟨z1359, bz1359, ez1359⟩ := IvR.ld (k := 16) hIN1354 (show ivr 146 16 = (0, 1) from rfl) (show 146 ≤ 146 ∧ 146 < 159 by decide)
                  obtain ⟨z1360, bz1360, ez1360⟩ := IvR.ld (k := 3) hIN1354 (show ivr 153 3 = (-99, 300) from rfl) (by decide)
                  rw [hQ]
                  exact e_v F w hr hlocks ⟨⟨nz13550, nz13551, z1359, (enz13550), (enz13551), (ez1359), ⟨by omega, by omega⟩, ⟨by omega, by omega⟩, ⟨by omega, by omega⟩, (by omega)⟩, (fun h8 => by have h9 := (zI_eq (a := 9) (b := 8) (by constructor <;> omega) (by constructor <;> omega)).mp ((kn1357).symm.trans h8); exact ⟨z1360, by omega, by omega, ez1360⟩), hIN1354, hGN1354⟩ dX12_readsRule_264
              · obtain ⟨z1361, bz1361, ez1361⟩ := IvR.ld (k := 16) (IvR.to hIN1335 (a := 153) (k := 2) (x := z1336) (show ivr 153 2 = ((-99), 300) from rfl) ⟨by omega, by omega⟩ ⟨by decide, by decide, by decide, fun q9 => absurd q9 (by decide)⟩) (show ivr 146 16 = (0, 1) from rfl) (show 146 ≤ 146 ∧ 146 < 159 by decide)
                obtain ⟨z1362, bz1362, ez1362⟩ := IvR.ld (k := 3) (IvR.to hIN1335 (a := 153) (k := 2) (x := z1336) (show ivr 153 2 = ((-99), 300) from rfl) ⟨by omega, by omega⟩ ⟨by decide, by decide, by decide, fun q9 => absurd q9 (by decide)⟩) (show ivr 153 3 = (-99, 300) from rfl) (by decide)
                rw [hQ]
                exact e_v F w hr hlocks ⟨⟨nz13360, nz13361, z1361, ((st_ne (Or.inl (by decide))).trans enz13360), ((st_ne (Or.inl (by decide))).trans enz13361), (ez1361), ⟨by omega, by omega⟩, ⟨by omega, by omega⟩, ⟨by omega, by omega⟩, (by omega)⟩, (fun h8 => by have h9 := (zI_eq (a := 9) (b := 8) (by constructor <;> omega) (by constructor <;> omega)).mp (((st_ne (Or.inr (by decide))).trans kn1338).symm.trans h8); exact ⟨z1362, by omega, by omega, ez1362⟩), (IvR.to hIN1335 (a := 153) (k := 2) (x := z1336) (show ivr 153 2 = ((-99), 300) from rfl) ⟨by omega, by omega⟩ ⟨by decide, by decide, by decide, fun q9 => absurd q9 (by decide)⟩), (Fr.to hGN1335 (by first | decide | (dsimp only; first | done | decide | omega) | omega))⟩ dX12_readsRule_243
            · refine lv_iload_n hx hb dX12_readsRule_216 rfl (lv_at hl 0 rfl) ?_
              refine k_Si F w (As := [.int (zI 9)]) (rest := []) (q_X12_isBySyllables (x := 9) ⟨by omega, by omega⟩  (IvR.to hIN1335 (a := 153) (k := 2) (x := z1336) (show ivr 153 2 = ((-99), 300) from rfl) ⟨by omega, by omega⟩ ⟨by decide, by decide, by decide, fun q9 => absurd q9 (by decide)⟩)) gs_X12_140 hs_X12_isBySyllables ⟨(Nat.le_of_ble_eq_true rfl), (Nat.le_of_ble_eq_true rfl)⟩ hl.1 rfl (Nat.le_of_ble_eq_true rfl) ⟨Nat.zero_le _, Nat.zero_le _⟩ dX12_readsRule_217 (fun r1363 N1364 H locs hp w => ?_)
              obtain ⟨z1365, rfl, bz1365, xz1365, hMN1364⟩ := hp
              rw [hMN1364] at w
              refine z_if_ne (tgt := 236) hx hb (by omega) dX12_readsRule_220 (by decide) (fun c1366 => ?_) (fun c1366 => False.elim (by omega))
              refine lv_aload_n hx hb dX12_readsRule_236 rfl (lv_at hl 1 rfl) ?_
              refine f_12_16 F w (a := 146) rfl tb_669 dX12_readsRule_237 ?_
              obtain ⟨z1367, bz1367, ez1367⟩ := IvR.ld (k := 16) (IvR.to hIN1335 (a := 153) (k := 2) (x := z1336) (show ivr 153 2 = ((-99), 300) from rfl) ⟨by omega, by omega⟩ ⟨by decide, by decide, by decide, fun q9 => absurd q9 (by decide)⟩) (show ivr 146 16 = (0, 1) from rfl) (show 146 ≤ 146 ∧ 146 < 159 by decide)
              refine r_val ez1367 ?_
              refine z_if_eq (tgt := 244) hx hb (by omega) dX12_readsRule_240 (by decide) (fun c1368 => ?_) (fun c1368 => ?_)
              · refine lv_aload_n hx hb dX12_readsRule_244 rfl (lv_at hl 1 rfl) ?_
                refine f_12_13 F w (a := 146) rfl tb_602 dX12_readsRule_245 ?_
                refine r_val (v := zI nz13360) ((st_ne (Or.inl (by decide))).trans enz13360) ?_
                refine lv_iconst (v := zI 3) hx hb dX12_readsRule_248 rfl ?_
                refine z_icmp_ne (tgt := 259) hx hb (by omega) (by omega) dX12_readsRule_249 (by decide) (fun c1369 => ?_) (fun c1369 => ?_)
                · refine lv_aload_n hx hb dX12_readsRule_259 rfl (lv_at hl 1 rfl) ?_
                  refine lv_iconst (v := zI 1) hx hb dX12_readsRule_260 rfl ?_
                  refine u_12_16 F w (a := 146) rfl (nar_z (by omega)) (fit_z (by omega)) tb_669 dX12_readsRule_261 (fun H locs w => ?_)
                  obtain ⟨z1370, bz1370, ez1370⟩ := IvR.ld (k := 3) (IvR.to (IvR.to hIN1335 (a := 153) (k := 2) (x := z1336) (show ivr 153 2 = ((-99), 300) from rfl) ⟨by omega, by omega⟩ ⟨by decide, by decide, by decide, fun q9 => absurd q9 (by decide)⟩) (a := 146) (k := 16) (x := 1) (show ivr 146 16 = (0, 1) from rfl) ⟨by omega, by omega⟩ ⟨by decide, by decide, by decide, fun q9 => absurd q9 (by decide)⟩) (show ivr 153 3 = (-99, 300) from rfl) (by decide)
                  rw [hQ]
                  exact e_v F w hr hlocks ⟨⟨nz13360, nz13361, 1, ((st_ne (Or.inr (by decide))).trans ((st_ne (Or.inl (by decide))).trans enz13360)), ((st_ne (Or.inr (by decide))).trans ((st_ne (Or.inl (by decide))).trans enz13361)), (st_at), ⟨by omega, by omega⟩, ⟨by omega, by omega⟩, ⟨by omega, by omega⟩, (by omega)⟩, (fun h8 => by have h9 := (zI_eq (a := 9) (b := 8) (by constructor <;> omega) (by constructor <;> omega)).mp (((st_ne (Or.inl (by decide))).trans ((st_ne (Or.inr (by decide))).trans kn1338)).symm.trans h8); exact ⟨z1370, by omega, by omega, ez1370⟩), (IvR.to (IvR.to hIN1335 (a := 153) (k := 2) (x := z1336) (show ivr 153 2 = ((-99), 300) from rfl) ⟨by omega, by omega⟩ ⟨by decide, by decide, by decide, fun q9 => absurd q9 (by decide)⟩) (a := 146) (k := 16) (x := 1) (show ivr 146 16 = (0, 1) from rfl) ⟨by omega, by omega⟩ ⟨by decide, by decide, by decide, fun q9 => absurd q9 (by decide)⟩), (Fr.to (Fr.to hGN1335 (by first | decide | (dsimp only; first | done | decide | omega) | omega)) (by first | decide | (dsimp only; first | done | decide | omega) | omega))⟩ dX12_readsRule_264
                · refine lv_aload_n hx hb dX12_readsRule_252 rfl (lv_at hl 1 rfl) ?_
                  refine k_Vv F w (As := []) (rest := []) (a := 146) (kd_lt (a := 146) (show kd 146 = (12, 0, 0) from rfl) (by decide)) (sh_12 rfl _ _) rfl (q_X12_goesOn   (IvR.to hIN1335 (a := 153) (k := 2) (x := z1336) (show ivr 153 2 = ((-99), 300) from rfl) ⟨by omega, by omega⟩ ⟨by decide, by decide, by decide, fun q9 => absurd q9 (by decide)⟩)) gv_X12_221 hv_X12_goesOn ⟨(Nat.le_of_ble_eq_true rfl), (Nat.le_of_ble_eq_true rfl)⟩ hl.1 rfl (Nat.le_of_ble_eq_true rfl) ⟨Nat.zero_le _, Nat.zero_le _⟩ dX12_readsRule_253 (fun N1372 H locs hp w => ?_)
                  obtain ⟨⟨nz13730, nz13731, enz13730, enz13731, xz1373⟩, hIN1372, hFN1372⟩ := hp
                  have hGN1372 := Fr.tr (Fr.to hGN1335 (by first | decide | (dsimp only; first | done | decide | omega) | omega)) hFN1372 (S := (fun b9 k9 => (b9 = 146 ∧ k9 = 11) ∨ (b9 = 146 ∧ k9 = 13) ∨ (b9 = 146 ∧ k9 = 14) ∨ (b9 = 146 ∧ k9 = 15) ∨ (b9 = 146 ∧ k9 = 16) ∨ (b9 = 146 ∧ k9 = 9) ∨ b9 = 153)) (fun b k h => by (try dsimp only at h ⊢); rcases h with ⟨rfl, rfl⟩ | ⟨rfl, rfl⟩ | ⟨rfl, rfl⟩ | ⟨rfl, rfl⟩ | ⟨rfl, rfl⟩ <;> first | decide | omega)
                  have kn1374 : N1372.1 153 1 = zI 1 := (hFN1372 153 1 (by first | decide | (dsimp only; first | done | decide | omega) | omega)).trans ((st_ne (Or.inr (by decide))).trans kn1337)
                  have kn1375 : N1372.1 153 0 = zI 9 := (hFN1372 153 0 (by first | decide | (dsimp only; first | done | decide | omega) | omega)).trans ((st_ne (Or.inr (by decide))).trans kn1338)
                  have kn1376 : N1372.1 153 2 = zI z1336 := (hFN1372 153 2 (by first | decide | (dsimp only; first | done | decide | omega) | omega)).trans (st_at)
                  refine lv_goto (tgt := 264) hx hb dX12_readsRule_256 (by decide) ?_
                  obtain ⟨z1377, bz1377, ez1377⟩ := IvR.ld (k := 16) hIN1372 (show ivr 146 16 = (0, 1) from rfl) (show 146 ≤ 146 ∧ 146 < 159 by decide)
                  obtain ⟨z1378, bz1378, ez1378⟩ := IvR.ld (k := 3) hIN1372 (show ivr 153 3 = (-99, 300) from rfl) (by decide)
                  rw [hQ]
                  exact e_v F w hr hlocks ⟨⟨nz13730, nz13731, z1377, (enz13730), (enz13731), (ez1377), ⟨by omega, by omega⟩, ⟨by omega, by omega⟩, ⟨by omega, by omega⟩, (by omega)⟩, (fun h8 => by have h9 := (zI_eq (a := 9) (b := 8) (by constructor <;> omega) (by constructor <;> omega)).mp ((kn1375).symm.trans h8); exact ⟨z1378, by omega, by omega, ez1378⟩), hIN1372, hGN1372⟩ dX12_readsRule_264
              · obtain ⟨z1379, bz1379, ez1379⟩ := IvR.ld (k := 16) (IvR.to hIN1335 (a := 153) (k := 2) (x := z1336) (show ivr 153 2 = ((-99), 300) from rfl) ⟨by omega, by omega⟩ ⟨by decide, by decide, by decide, fun q9 => absurd q9 (by decide)⟩) (show ivr 146 16 = (0, 1) from rfl) (show 146 ≤ 146 ∧ 146 < 159 by decide)
                obtain ⟨z1380, bz1380, ez1380⟩ := IvR.ld (k := 3) (IvR.to hIN1335 (a := 153) (k := 2) (x := z1336) (show ivr 153 2 = ((-99), 300) from rfl) ⟨by omega, by omega⟩ ⟨by decide, by decide, by decide, fun q9 => absurd q9 (by decide)⟩) (show ivr 153 3 = (-99, 300) from rfl) (by decide)
                rw [hQ]
                exact e_v F w hr hlocks ⟨⟨nz13360, nz13361, z1379, ((st_ne (Or.inl (by decide))).trans enz13360), ((st_ne (Or.inl (by decide))).trans enz13361), (ez1379), ⟨by omega, by omega⟩, ⟨by omega, by omega⟩, ⟨by omega, by omega⟩, (by omega)⟩, (fun h8 => by have h9 := (zI_eq (a := 9) (b := 8) (by constructor <;> omega) (by constructor <;> omega)).mp (((st_ne (Or.inr (by decide))).trans kn1338).symm.trans h8); exact ⟨z1380, by omega, by omega, ez1380⟩), (IvR.to hIN1335 (a := 153) (k := 2) (x := z1336) (show ivr 153 2 = ((-99), 300) from rfl) ⟨by omega, by omega⟩ ⟨by decide, by decide, by decide, fun q9 => absurd q9 (by decide)⟩), (Fr.to hGN1335 (by first | decide | (dsimp only; first | done | decide | omega) | omega))⟩ dX12_readsRule_243
      · refine lv_aload_n hx hb dX12_readsRule_8 rfl (lv_at hl 1 rfl) ?_
        refine f_12_17 F w (a := 146) rfl tb_676 dX12_readsRule_9 ?_
        refine lv_iload_n hx hb dX12_readsRule_12 rfl (lv_at hl 0 rfl) ?_
        refine lv_iload_n hx hb dX12_readsRule_13 rfl (lv_at hl 0 rfl) ?_
        refine lv_iconst (v := zI 1) hx hb dX12_readsRule_14 rfl ?_
        refine z_icmp_eq (tgt := 24) hx hb (by omega) (by omega) dX12_readsRule_15 (by decide) (fun c1381 => ?_) (fun c1381 => ?_)
        · refine lv_iconst (v := zI 0) hx hb dX12_readsRule_24 rfl ?_
          refine lv_goto (tgt := 30) hx hb dX12_readsRule_25 (by decide) ?_
          refine g_iast F w (a := 153) rfl (j := (Int.toNat v1_2)) (ix_z (by omega) (by omega)) (by omega) dX12_readsRule_30 (fun H locs w => ?_)
          refine z_iinc (v := (v1_2 + 1)) (lv' := [(1, .int (zI (v1_2 + 1))), (0, .ref (B + 146))]) hx hb dX12_readsRule_31 hl (k := 0) rfl (by omega) (by decide) rfl (fun ls hl => ?_)
          refine lv_goto (tgt := 2) hx hb dX12_readsRule_34 (by decide) ?_
          exact ih2 (v1_2 + 1) (st NL2 153 (Int.toNat v1_2) (zI 0)) (by omega)  ((st_ne (Or.inl (by decide))).trans eg146_13_2) ((st_ne (Or.inl (by decide))).trans eg146_11_2)  (IvR.to hIL2 (a := 153) (k := (Int.toNat v1_2)) (x := 0) (show ivr 153 (Int.toNat v1_2) = ((-99), 300) from rfl) ⟨by omega, by omega⟩ ⟨by decide, by decide, by decide, fun q9 => absurd q9 (by decide)⟩) (Fr.to hFL2 (by first | decide | (dsimp only; first | done | decide | omega) | omega)) (by omega) _ _ _ w (lv_sub hl [0, 1] rfl)
        · refine lv_iload_n hx hb dX12_readsRule_18 rfl (lv_at hl 0 rfl) ?_
          refine lv_bipush (v := zI 6) hx hb dX12_readsRule_19 (by decide) ?_
          refine z_icmp_ne (tgt := 28) hx hb (by omega) (by omega) dX12_readsRule_21 (by decide) (fun c1382 => ?_) (fun c1382 => ?_)
          · refine lv_bipush (v := zI (-2)) hx hb dX12_readsRule_28 (by decide) ?_
            refine g_iast F w (a := 153) rfl (j := (Int.toNat v1_2)) (ix_z (by omega) (by omega)) (by omega) dX12_readsRule_30 (fun H locs w => ?_)
            refine z_iinc (v := (v1_2 + 1)) (lv' := [(1, .int (zI (v1_2 + 1))), (0, .ref (B + 146))]) hx hb dX12_readsRule_31 hl (k := 0) rfl (by omega) (by decide) rfl (fun ls hl => ?_)
            refine lv_goto (tgt := 2) hx hb dX12_readsRule_34 (by decide) ?_
            exact ih2 (v1_2 + 1) (st NL2 153 (Int.toNat v1_2) (zI (-2))) (by omega)  ((st_ne (Or.inl (by decide))).trans eg146_13_2) ((st_ne (Or.inl (by decide))).trans eg146_11_2)  (IvR.to hIL2 (a := 153) (k := (Int.toNat v1_2)) (x := (-2)) (show ivr 153 (Int.toNat v1_2) = ((-99), 300) from rfl) ⟨by omega, by omega⟩ ⟨by decide, by decide, by decide, fun q9 => absurd q9 (by decide)⟩) (Fr.to hFL2 (by first | decide | (dsimp only; first | done | decide | omega) | omega)) (by omega) _ _ _ w (lv_sub hl [0, 1] rfl)
          · refine lv_iconst (v := zI 0) hx hb dX12_readsRule_24 rfl ?_
            refine lv_goto (tgt := 30) hx hb dX12_readsRule_25 (by decide) ?_
            refine g_iast F w (a := 153) rfl (j := (Int.toNat v1_2)) (ix_z (by omega) (by omega)) (by omega) dX12_readsRule_30 (fun H locs w => ?_)
            refine z_iinc (v := (v1_2 + 1)) (lv' := [(1, .int (zI (v1_2 + 1))), (0, .ref (B + 146))]) hx hb dX12_readsRule_31 hl (k := 0) rfl (by omega) (by decide) rfl (fun ls hl => ?_)
            refine lv_goto (tgt := 2) hx hb dX12_readsRule_34 (by decide) ?_
            exact ih2 (v1_2 + 1) (st NL2 153 (Int.toNat v1_2) (zI 0)) (by omega)  ((st_ne (Or.inl (by decide))).trans eg146_13_2) ((st_ne (Or.inl (by decide))).trans eg146_11_2)  (IvR.to hIL2 (a := 153) (k := (Int.toNat v1_2)) (x := 0) (show ivr 153 (Int.toNat v1_2) = ((-99), 300) from rfl) ⟨by omega, by omega⟩ ⟨by decide, by decide, by decide, fun q9 => absurd q9 (by decide)⟩) (Fr.to hFL2 (by first | decide | (dsimp only; first | done | decide | omega) | omega)) (by omega) _ _ _ w (lv_sub hl [0, 1] rfl)
  exact lp2 _ 0 M (by omega) (hgtk) (hgnb) hI hF (Nat.lt_succ_self _) _ _ _ w (lv_sub hl [0, 1] rfl)
