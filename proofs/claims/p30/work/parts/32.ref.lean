theorem dX12_readsRule_0 : decode cX12_readsRule 0 = .ok (.iconst 0, 1) := rdX12_readsRule_0
theorem dX12_readsRule_1 : decode cX12_readsRule 1 = .ok (.istore_n 1, 1) := rdX12_readsRule_1
theorem dX12_readsRule_2 : decode cX12_readsRule 2 = .ok (.iload_n 1, 1) := rdX12_readsRule_2
theorem dX12_readsRule_3 : decode cX12_readsRule 3 = .ok (.bipush 8, 2) := rdX12_readsRule_3
theorem dX12_readsRule_5 : decode cX12_readsRule 5 = .ok (.if_icmp .ge 32, 3) := rdX12_readsRule_5
theorem dX12_readsRule_8 : decode cX12_readsRule 8 = .ok (.aload_n 0, 1) := rdX12_readsRule_8
theorem dX12_readsRule_9 : decode cX12_readsRule 9 = .ok (.getfield 33, 3) := rdX12_readsRule_9
theorem dX12_readsRule_12 : decode cX12_readsRule 12 = .ok (.iload_n 1, 1) := rdX12_readsRule_12
theorem dX12_readsRule_13 : decode cX12_readsRule 13 = .ok (.iload_n 1, 1) := rdX12_readsRule_13
theorem dX12_readsRule_14 : decode cX12_readsRule 14 = .ok (.iconst 1, 1) := rdX12_readsRule_14
theorem dX12_readsRule_15 : decode cX12_readsRule 15 = .ok (.if_icmp .eq 9, 3) := rdX12_readsRule_15
theorem dX12_readsRule_18 : decode cX12_readsRule 18 = .ok (.iload_n 1, 1) := rdX12_readsRule_18
theorem dX12_readsRule_19 : decode cX12_readsRule 19 = .ok (.bipush 6, 2) := rdX12_readsRule_19
theorem dX12_readsRule_21 : decode cX12_readsRule 21 = .ok (.if_icmp .ne 7, 3) := rdX12_readsRule_21
theorem dX12_readsRule_28 : decode cX12_readsRule 28 = .ok (.bipush (-2), 2) := rdX12_readsRule_28
theorem dX12_readsRule_30 : decode cX12_readsRule 30 = .ok (.iastore, 1) := rdX12_readsRule_30
theorem dX12_readsRule_31 : decode cX12_readsRule 31 = .ok (.iinc 1 1, 3) := rdX12_readsRule_31
theorem dX12_readsRule_34 : decode cX12_readsRule 34 = .ok (.goto (-32), 3) := rdX12_readsRule_34
theorem dX12_readsRule_24 : decode cX12_readsRule 24 = .ok (.iconst 0, 1) := rdX12_readsRule_24
theorem dX12_readsRule_25 : decode cX12_readsRule 25 = .ok (.goto 5, 3) := rdX12_readsRule_25
theorem dX12_readsRule_37 : decode cX12_readsRule 37 = .ok (.aload_n 0, 1) := rdX12_readsRule_37
theorem dX12_readsRule_38 : decode cX12_readsRule 38 = .ok (.iconst 0, 1) := rdX12_readsRule_38
theorem dX12_readsRule_39 : decode cX12_readsRule 39 = .ok (.invokevirtual 224, 3) := rdX12_readsRule_39
theorem dX12_readsRule_42 : decode cX12_readsRule 42 = .ok (.ifCond .eq 14, 3) := rdX12_readsRule_42
theorem dX12_readsRule_56 : decode cX12_readsRule 56 = .ok (.aload_n 0, 1) := rdX12_readsRule_56
theorem dX12_readsRule_57 : decode cX12_readsRule 57 = .ok (.iconst 1, 1) := rdX12_readsRule_57
theorem dX12_readsRule_58 : decode cX12_readsRule 58 = .ok (.bipush 10, 2) := rdX12_readsRule_58
theorem dX12_readsRule_60 : decode cX12_readsRule 60 = .ok (.invokevirtual 227, 3) := rdX12_readsRule_60
theorem dX12_readsRule_63 : decode cX12_readsRule 63 = .ok (.istore_n 1, 1) := rdX12_readsRule_63
theorem dX12_readsRule_64 : decode cX12_readsRule 64 = .ok (.aload_n 0, 1) := rdX12_readsRule_64
theorem dX12_readsRule_65 : decode cX12_readsRule 65 = .ok (.getfield 33, 3) := rdX12_readsRule_65
theorem dX12_readsRule_68 : decode cX12_readsRule 68 = .ok (.iconst 0, 1) := rdX12_readsRule_68
theorem dX12_readsRule_69 : decode cX12_readsRule 69 = .ok (.iload_n 1, 1) := rdX12_readsRule_69
theorem dX12_readsRule_70 : decode cX12_readsRule 70 = .ok (.iastore, 1) := rdX12_readsRule_70
theorem dX12_readsRule_71 : decode cX12_readsRule 71 = .ok (.iload_n 1, 1) := rdX12_readsRule_71
theorem dX12_readsRule_72 : decode cX12_readsRule 72 = .ok (.bipush 8, 2) := rdX12_readsRule_72
theorem dX12_readsRule_74 : decode cX12_readsRule 74 = .ok (.if_icmp .ne 16, 3) := rdX12_readsRule_74
theorem dX12_readsRule_90 : decode cX12_readsRule 90 = .ok (.iload_n 1, 1) := rdX12_readsRule_90
theorem dX12_readsRule_91 : decode cX12_readsRule 91 = .ok (.ifCond .eq 28, 3) := rdX12_readsRule_91
theorem dX12_readsRule_119 : decode cX12_readsRule 119 = .ok (.iload_n 1, 1) := rdX12_readsRule_119
theorem dX12_readsRule_120 : decode cX12_readsRule 120 = .ok (.bipush 7, 2) := rdX12_readsRule_120
theorem dX12_readsRule_122 : decode cX12_readsRule 122 = .ok (.if_icmp .ne 26, 3) := rdX12_readsRule_122
theorem dX12_readsRule_148 : decode cX12_readsRule 148 = .ok (.iload_n 1, 1) := rdX12_readsRule_148
theorem dX12_readsRule_149 : decode cX12_readsRule 149 = .ok (.invokestatic 137, 3) := rdX12_readsRule_149
theorem dX12_readsRule_152 : decode cX12_readsRule 152 = .ok (.ifCond .eq 17, 3) := rdX12_readsRule_152
theorem dX12_readsRule_155 : decode cX12_readsRule 155 = .ok (.aload_n 0, 1) := rdX12_readsRule_155
theorem dX12_readsRule_156 : decode cX12_readsRule 156 = .ok (.getfield 33, 3) := rdX12_readsRule_156
theorem dX12_readsRule_159 : decode cX12_readsRule 159 = .ok (.iconst 4, 1) := rdX12_readsRule_159
theorem dX12_readsRule_160 : decode cX12_readsRule 160 = .ok (.aload_n 0, 1) := rdX12_readsRule_160
theorem dX12_readsRule_161 : decode cX12_readsRule 161 = .ok (.bipush 15, 2) := rdX12_readsRule_161
theorem dX12_readsRule_163 : decode cX12_readsRule 163 = .ok (.bipush 16, 2) := rdX12_readsRule_163
theorem dX12_readsRule_165 : decode cX12_readsRule 165 = .ok (.invokevirtual 227, 3) := rdX12_readsRule_165
theorem dX12_readsRule_168 : decode cX12_readsRule 168 = .ok (.iastore, 1) := rdX12_readsRule_168
theorem dX12_readsRule_169 : decode cX12_readsRule 169 = .ok (.iload_n 1, 1) := rdX12_readsRule_169
theorem dX12_readsRule_170 : decode cX12_readsRule 170 = .ok (.iconst 3, 1) := rdX12_readsRule_170
theorem dX12_readsRule_171 : decode cX12_readsRule 171 = .ok (.if_icmp .eq 9, 3) := rdX12_readsRule_171
theorem dX12_readsRule_174 : decode cX12_readsRule 174 = .ok (.iload_n 1, 1) := rdX12_readsRule_174
theorem dX12_readsRule_175 : decode cX12_readsRule 175 = .ok (.bipush 8, 2) := rdX12_readsRule_175
theorem dX12_readsRule_177 : decode cX12_readsRule 177 = .ok (.if_icmp .ne 17, 3) := rdX12_readsRule_177
theorem dX12_readsRule_194 : decode cX12_readsRule 194 = .ok (.iload_n 1, 1) := rdX12_readsRule_194
theorem dX12_readsRule_195 : decode cX12_readsRule 195 = .ok (.iconst 1, 1) := rdX12_readsRule_195
theorem dX12_readsRule_196 : decode cX12_readsRule 196 = .ok (.if_icmp .ne 13, 3) := rdX12_readsRule_196
theorem dX12_readsRule_209 : decode cX12_readsRule 209 = .ok (.aload_n 0, 1) := rdX12_readsRule_209
theorem dX12_readsRule_210 : decode cX12_readsRule 210 = .ok (.getfield 217, 3) := rdX12_readsRule_210
theorem dX12_readsRule_213 : decode cX12_readsRule 213 = .ok (.ifCond .ne 23, 3) := rdX12_readsRule_213
theorem dX12_readsRule_236 : decode cX12_readsRule 236 = .ok (.aload_n 0, 1) := rdX12_readsRule_236
theorem dX12_readsRule_237 : decode cX12_readsRule 237 = .ok (.getfield 217, 3) := rdX12_readsRule_237
theorem dX12_readsRule_240 : decode cX12_readsRule 240 = .ok (.ifCond .eq 4, 3) := rdX12_readsRule_240
theorem dX12_readsRule_244 : decode cX12_readsRule 244 = .ok (.aload_n 0, 1) := rdX12_readsRule_244
theorem dX12_readsRule_245 : decode cX12_readsRule 245 = .ok (.getfield 204, 3) := rdX12_readsRule_245
theorem dX12_readsRule_248 : decode cX12_readsRule 248 = .ok (.iconst 3, 1) := rdX12_readsRule_248
theorem dX12_readsRule_249 : decode cX12_readsRule 249 = .ok (.if_icmp .ne 10, 3) := rdX12_readsRule_249
theorem dX12_readsRule_259 : decode cX12_readsRule 259 = .ok (.aload_n 0, 1) := rdX12_readsRule_259
theorem dX12_readsRule_260 : decode cX12_readsRule 260 = .ok (.iconst 1, 1) := rdX12_readsRule_260
theorem dX12_readsRule_261 : decode cX12_readsRule 261 = .ok (.putfield 217, 3) := rdX12_readsRule_261
theorem dX12_readsRule_264 : decode cX12_readsRule 264 = .ok (.return_, 1) := rdX12_readsRule_264
theorem dX12_readsRule_252 : decode cX12_readsRule 252 = .ok (.aload_n 0, 1) := rdX12_readsRule_252
theorem dX12_readsRule_253 : decode cX12_readsRule 253 = .ok (.invokevirtual 221, 3) := rdX12_readsRule_253
theorem dX12_readsRule_256 : decode cX12_readsRule 256 = .ok (.goto 8, 3) := rdX12_readsRule_256
theorem dX12_readsRule_243 : decode cX12_readsRule 243 = .ok (.return_, 1) := rdX12_readsRule_243
theorem dX12_readsRule_216 : decode cX12_readsRule 216 = .ok (.iload_n 1, 1) := rdX12_readsRule_216
theorem dX12_readsRule_217 : decode cX12_readsRule 217 = .ok (.invokestatic 140, 3) := rdX12_readsRule_217
theorem dX12_readsRule_220 : decode cX12_readsRule 220 = .ok (.ifCond .ne 16, 3) := rdX12_readsRule_220
theorem dX12_readsRule_94 : decode cX12_readsRule 94 = .ok (.aload_n 0, 1) := rdX12_readsRule_94
theorem dX12_readsRule_95 : decode cX12_readsRule 95 = .ok (.getfield 33, 3) := rdX12_readsRule_95
theorem dX12_readsRule_98 : decode cX12_readsRule 98 = .ok (.iconst 2, 1) := rdX12_readsRule_98
theorem dX12_readsRule_99 : decode cX12_readsRule 99 = .ok (.aload_n 0, 1) := rdX12_readsRule_99
theorem dX12_readsRule_100 : decode cX12_readsRule 100 = .ok (.bipush 11, 2) := rdX12_readsRule_100
theorem dX12_readsRule_102 : decode cX12_readsRule 102 = .ok (.iload_n 1, 1) := rdX12_readsRule_102
theorem dX12_readsRule_103 : decode cX12_readsRule 103 = .ok (.bipush 9, 2) := rdX12_readsRule_103
theorem dX12_readsRule_105 : decode cX12_readsRule 105 = .ok (.if_icmp .ne 8, 3) := rdX12_readsRule_105
theorem dX12_readsRule_113 : decode cX12_readsRule 113 = .ok (.bipush 14, 2) := rdX12_readsRule_113
theorem dX12_readsRule_115 : decode cX12_readsRule 115 = .ok (.invokevirtual 227, 3) := rdX12_readsRule_115
theorem dX12_readsRule_118 : decode cX12_readsRule 118 = .ok (.iastore, 1) := rdX12_readsRule_118
theorem dX12_readsRule_199 : decode cX12_readsRule 199 = .ok (.aload_n 0, 1) := rdX12_readsRule_199
theorem dX12_readsRule_200 : decode cX12_readsRule 200 = .ok (.getfield 33, 3) := rdX12_readsRule_200
theorem dX12_readsRule_203 : decode cX12_readsRule 203 = .ok (.iconst 3, 1) := rdX12_readsRule_203
theorem dX12_readsRule_204 : decode cX12_readsRule 204 = .ok (.aload_n 0, 1) := rdX12_readsRule_204
theorem dX12_readsRule_205 : decode cX12_readsRule 205 = .ok (.invokevirtual 230, 3) := rdX12_readsRule_205
theorem tk_X12_needsNumber : Cond.code yX12_needsNumber cX12_needsNumber 2 (some .int) ∈ TB := rtk_X12_needsNumber
theorem gc_X12_needsNumber : GoodIn TB (cw yX12_needsNumber cX12_needsNumber 2 (some .int)) := goodIn_c2 tk_X12_needsNumber
theorem tb_689 : Cond.methodLink "ToneLinesModel" 230 yX12_needsNumber ∈ TB := rtb_154
theorem tb_690 : Cond.instanceMethod yX12_needsNumber ∈ TB := rtb_155
theorem tb_691 : Cond.selects "ToneLinesModel" yX12_needsNumber yX12_needsNumber ∈ TB := rtb_156
theorem gv_X12_230 : GoodIn TB (wsV RX12 230 RX12 yX12_needsNumber (cw yX12_needsNumber cX12_needsNumber 2 (some .int))) := goodIn_4 tb_689 tb_690 tb_691 tb_38 gc_X12_needsNumber
theorem hv_X12_needsNumber : yX12_needsNumber.cls = RX12 ∧ yX12_needsNumber.cls ≠ "java/lang/invoke/MethodHandle" ∧ yX12_needsNumber.cls ≠ "java/lang/invoke/VarHandle" ∧ (parseMethodDescriptor yX12_needsNumber.desc).map (fun d => d.parameters.length) = some 0 := rhv_X12_needsNumber
theorem dX12_readsRule_208 : decode cX12_readsRule 208 = .ok (.iastore, 1) := rdX12_readsRule_208
theorem dX12_readsRule_223 : decode cX12_readsRule 223 = .ok (.aload_n 0, 1) := rdX12_readsRule_223
theorem dX12_readsRule_224 : decode cX12_readsRule 224 = .ok (.bipush 20, 2) := rdX12_readsRule_224
theorem dX12_readsRule_226 : decode cX12_readsRule 226 = .ok (.invokevirtual 224, 3) := rdX12_readsRule_226
theorem dX12_readsRule_229 : decode cX12_readsRule 229 = .ok (.ifCond .eq 7, 3) := rdX12_readsRule_229
theorem dX12_readsRule_232 : decode cX12_readsRule 232 = .ok (.aload_n 0, 1) := rdX12_readsRule_232
theorem dX12_readsRule_233 : decode cX12_readsRule 233 = .ok (.invokevirtual 233, 3) := rdX12_readsRule_233
theorem tk_X12_readsTest : Cond.code yX12_readsTest cX12_readsTest 1 none ∈ TB := rtk_X12_readsTest
theorem gc_X12_readsTest : GoodIn TB (cw yX12_readsTest cX12_readsTest 1 none) := goodIn_c2 tk_X12_readsTest
theorem tb_692 : Cond.methodLink "ToneLinesModel" 233 yX12_readsTest ∈ TB := rtb_157
theorem tb_693 : Cond.instanceMethod yX12_readsTest ∈ TB := rtb_158
theorem tb_694 : Cond.selects "ToneLinesModel" yX12_readsTest yX12_readsTest ∈ TB := rtb_159
theorem gv_X12_233 : GoodIn TB (wsV RX12 233 RX12 yX12_readsTest (cw yX12_readsTest cX12_readsTest 1 none)) := goodIn_4 tb_692 tb_693 tb_694 tb_38 gc_X12_readsTest
theorem hv_X12_readsTest : yX12_readsTest.cls = RX12 ∧ yX12_readsTest.cls ≠ "java/lang/invoke/MethodHandle" ∧ yX12_readsTest.cls ≠ "java/lang/invoke/VarHandle" ∧ (parseMethodDescriptor yX12_readsTest.desc).map (fun d => d.parameters.length) = some 0 := rhv_X12_readsTest
theorem dX12_readsRule_180 : decode cX12_readsRule 180 = .ok (.aload_n 0, 1) := rdX12_readsRule_180
theorem dX12_readsRule_181 : decode cX12_readsRule 181 = .ok (.getfield 33, 3) := rdX12_readsRule_181
theorem dX12_readsRule_184 : decode cX12_readsRule 184 = .ok (.iconst 4, 1) := rdX12_readsRule_184
theorem dX12_readsRule_185 : decode cX12_readsRule 185 = .ok (.aload_n 0, 1) := rdX12_readsRule_185
theorem dX12_readsRule_186 : decode cX12_readsRule 186 = .ok (.bipush 17, 2) := rdX12_readsRule_186
theorem dX12_readsRule_188 : decode cX12_readsRule 188 = .ok (.bipush 18, 2) := rdX12_readsRule_188
theorem dX12_readsRule_190 : decode cX12_readsRule 190 = .ok (.invokevirtual 227, 3) := rdX12_readsRule_190
theorem dX12_readsRule_193 : decode cX12_readsRule 193 = .ok (.iastore, 1) := rdX12_readsRule_193
theorem dX12_readsRule_125 : decode cX12_readsRule 125 = .ok (.aload_n 0, 1) := rdX12_readsRule_125
theorem dX12_readsRule_126 : decode cX12_readsRule 126 = .ok (.bipush 19, 2) := rdX12_readsRule_126
theorem dX12_readsRule_128 : decode cX12_readsRule 128 = .ok (.bipush 19, 2) := rdX12_readsRule_128
theorem dX12_readsRule_130 : decode cX12_readsRule 130 = .ok (.invokevirtual 227, 3) := rdX12_readsRule_130
theorem dX12_readsRule_133 : decode cX12_readsRule 133 = .ok (.pop, 1) := rdX12_readsRule_133
theorem dX12_readsRule_134 : decode cX12_readsRule 134 = .ok (.aload_n 0, 1) := rdX12_readsRule_134
theorem dX12_readsRule_135 : decode cX12_readsRule 135 = .ok (.getfield 33, 3) := rdX12_readsRule_135
theorem dX12_readsRule_138 : decode cX12_readsRule 138 = .ok (.iconst 3, 1) := rdX12_readsRule_138
theorem dX12_readsRule_139 : decode cX12_readsRule 139 = .ok (.aload_n 0, 1) := rdX12_readsRule_139
theorem dX12_readsRule_140 : decode cX12_readsRule 140 = .ok (.bipush 11, 2) := rdX12_readsRule_140
theorem dX12_readsRule_142 : decode cX12_readsRule 142 = .ok (.bipush 13, 2) := rdX12_readsRule_142
theorem dX12_readsRule_144 : decode cX12_readsRule 144 = .ok (.invokevirtual 227, 3) := rdX12_readsRule_144
theorem dX12_readsRule_147 : decode cX12_readsRule 147 = .ok (.iastore, 1) := rdX12_readsRule_147
theorem dX12_readsRule_77 : decode cX12_readsRule 77 = .ok (.aload_n 0, 1) := rdX12_readsRule_77
theorem dX12_readsRule_78 : decode cX12_readsRule 78 = .ok (.getfield 33, 3) := rdX12_readsRule_78
theorem dX12_readsRule_81 : decode cX12_readsRule 81 = .ok (.iconst 3, 1) := rdX12_readsRule_81
theorem dX12_readsRule_82 : decode cX12_readsRule 82 = .ok (.aload_n 0, 1) := rdX12_readsRule_82
theorem dX12_readsRule_83 : decode cX12_readsRule 83 = .ok (.invokevirtual 230, 3) := rdX12_readsRule_83
theorem dX12_readsRule_86 : decode cX12_readsRule 86 = .ok (.iastore, 1) := rdX12_readsRule_86
theorem dX12_readsRule_87 : decode cX12_readsRule 87 = .ok (.goto 32, 3) := rdX12_readsRule_87
theorem dX12_readsRule_108 : decode cX12_readsRule 108 = .ok (.bipush 13, 2) := rdX12_readsRule_108
theorem dX12_readsRule_110 : decode cX12_readsRule 110 = .ok (.goto 5, 3) := rdX12_readsRule_110
theorem dX12_readsRule_45 : decode cX12_readsRule 45 = .ok (.aload_n 0, 1) := rdX12_readsRule_45
theorem dX12_readsRule_46 : decode cX12_readsRule 46 = .ok (.getfield 33, 3) := rdX12_readsRule_46
theorem dX12_readsRule_49 : decode cX12_readsRule 49 = .ok (.iconst 1, 1) := rdX12_readsRule_49
theorem dX12_readsRule_50 : decode cX12_readsRule 50 = .ok (.iconst 1, 1) := rdX12_readsRule_50
theorem dX12_readsRule_51 : decode cX12_readsRule 51 = .ok (.iastore, 1) := rdX12_readsRule_51
theorem dX12_readsRule_52 : decode cX12_readsRule 52 = .ok (.aload_n 0, 1) := rdX12_readsRule_52
theorem dX12_readsRule_53 : decode cX12_readsRule 53 = .ok (.invokevirtual 221, 3) := rdX12_readsRule_53
set_option maxHeartbeats 4000000 in
set_option maxRecDepth 4000 in
theorem q_X12_readsRule {l : Launch} {D : va_G} {B : Nat} {cy : Nat → ClassId} {M : Mem} {tk : Int} (hgtk : M.1 146 13 = zI tk) (htk : (-2147483648) ≤ tk ∧ tk ≤ 2147483647) {nb : Int} (hgnb : M.1 146 11 = zI nb) (hnb : (-99) ≤ nb ∧ nb ≤ 300) (hpre0 : tk ≠ 2 ∨ 0 ≤ nb) (hI : IvR M) : Cv l D B cy yX12_readsRule cX12_readsRule 2 5 109 [.ref (B + 146)] M (fun M1 => (∃ tk2 nb2 wr2 : Int, M1.1 146 13 = zI tk2 ∧ M1.1 146 11 = zI nb2 ∧ M1.1 146 16 = zI wr2 ∧ (((-2147483648) ≤ tk2 ∧ tk2 ≤ 2147483647) ∧ ((-99) ≤ nb2 ∧ nb2 ≤ 300) ∧ (0 ≤ wr2 ∧ wr2 ≤ 1) ∧ (tk2 ≠ 2 ∨ 0 ≤ nb2))) ∧ (RKr (M1.1 153) 0) ∧ IvR M1 ∧ Fr (fun b9 k9 => (b9 = 146 ∧ k9 = 11) ∨ (b9 = 146 ∧ k9 = 13) ∨ (b9 = 146 ∧ k9 = 14) ∨ (b9 = 146 ∧ k9 = 15) ∨ (b9 = 146 ∧ k9 = 16) ∨ (b9 = 146 ∧ k9 = 9) ∨ b9 = 153) M1 M) := by
  refine s_anyQ (by decide) (Nat.le_of_ble_eq_true rfl) ?_
  intro p e s m args below meth c ls Q F hr hlocks hQ w hl
  have F : CallFix p m c cX12_readsRule 2 s args TB RX12 := F
  have hx := F.1
  have hb := F.2.1
  have hl : lv_has ls 2 [(0, .ref (B + 146))] := hl
  have hF : Fr (fun b9 k9 => (b9 = 146 ∧ k9 = 11) ∨ (b9 = 146 ∧ k9 = 13) ∨ (b9 = 146 ∧ k9 = 14) ∨ (b9 = 146 ∧ k9 = 15) ∨ (b9 = 146 ∧ k9 = 16) ∨ (b9 = 146 ∧ k9 = 9) ∨ b9 = 153) M M := Fr.rf
  refine lv_iconst (v := zI 0) hx hb dX12_readsRule_0 rfl ?_
  refine lv_istore_n (lv' := [(1, .int (zI 0)), (0, .ref (B + 146))]) hx hb dX12_readsRule_1 rfl hl (by decide) rfl (fun ls hl => ?_)
  have j236 : ∀ (N : Mem) (v tk nb : Int) (H : Heap) (locs : List Loc) (ls : Array Slot), Wd D B cy s s.heap N H locs → lv_has ls 2 [(1, .int (zI v)), (0, .ref (B + 146))] → N.1 146 13 = zI tk → ((-2147483648) ≤ tk ∧ tk ≤ 2147483647) → N.1 146 11 = zI nb → ((-99) ≤ nb ∧ nb ≤ 300) → (tk ≠ 2 ∨ 0 ≤ nb) → RKr (N.1 153) 0 → IvR N → Fr (fun b9 k9 => (b9 = 146 ∧ k9 = 11) ∨ (b9 = 146 ∧ k9 = 13) ∨ (b9 = 146 ∧ k9 = 14) ∨ (b9 = 146 ∧ k9 = 15) ∨ (b9 = 146 ∧ k9 = 16) ∨ (b9 = 146 ∧ k9 = 9) ∨ b9 = 153) N M → W p l e (rmm 5 109) s m args below meth c H locs 0 0 Q (F0 m 236 ls []) := by
    intro N v tk nb H locs ls w hl etk htk enb hnb hpre hR hIN hFN
    refine lv_aload_n hx hb dX12_readsRule_236 rfl (lv_at hl 1 rfl) ?_
    refine f_12_16 F w (a := 146) rfl tb_669 dX12_readsRule_237 ?_
    obtain ⟨z1, bz1, ez1⟩ := IvR.ld (k := 16) hIN (show ivr 146 16 = (0, 1) from rfl) (show 146 ≤ 146 ∧ 146 < 159 by decide)
    refine r_val ez1 ?_
    refine z_if_eq (tgt := 244) hx hb (by omega) dX12_readsRule_240 (by decide) (fun c1 => ?_) (fun c1 => ?_)
    · refine lv_aload_n hx hb dX12_readsRule_244 rfl (lv_at hl 1 rfl) ?_
      refine f_12_13 F w (a := 146) rfl tb_602 dX12_readsRule_245 ?_
      refine r_val (v := zI tk) etk ?_
      refine lv_iconst (v := zI 3) hx hb dX12_readsRule_248 rfl ?_
      refine z_icmp_ne (tgt := 259) hx hb (by omega) (by omega) dX12_readsRule_249 (by decide) (fun c2 => ?_) (fun c2 => ?_)
      · refine lv_aload_n hx hb dX12_readsRule_259 rfl (lv_at hl 1 rfl) ?_
        refine lv_iconst (v := zI 1) hx hb dX12_readsRule_260 rfl ?_
        refine u_12_16 F w (a := 146) rfl (nar_z (by omega)) (fit_z (by omega)) tb_669 dX12_readsRule_261 (fun H locs w => ?_)
        rw [hQ]
        exact e_v F w hr hlocks ⟨⟨tk, nb, 1, ((st_ne (Or.inr (by decide))).trans etk), ((st_ne (Or.inr (by decide))).trans enb), (st_at), ⟨by omega, by omega⟩, ⟨by omega, by omega⟩, ⟨by omega, by omega⟩, (by omega)⟩, (fun h8 => by obtain ⟨z9, g1, g2, g3⟩ := hR ((st_ne (Or.inl (by decide))).symm.trans h8); exact ⟨z9, g1, g2, (st_ne (Or.inl (by decide))).trans g3⟩), (IvR.to hIN (a := 146) (k := 16) (x := 1) (show ivr 146 16 = (0, 1) from rfl) ⟨by omega, by omega⟩ ⟨by decide, by decide, by decide, fun q9 => absurd q9 (by decide)⟩), (Fr.to hFN (by first | decide | (dsimp only; first | done | decide | omega) | omega))⟩ dX12_readsRule_264
      · refine lv_aload_n hx hb dX12_readsRule_252 rfl (lv_at hl 1 rfl) ?_
        refine k_Vv F w (As := []) (rest := []) (a := 146) (kd_lt (a := 146) (show kd 146 = (12, 0, 0) from rfl) (by decide)) (sh_12 rfl _ _) rfl (q_X12_goesOn   hIN) gv_X12_221 hv_X12_goesOn ⟨(Nat.le_of_ble_eq_true rfl), (Nat.le_of_ble_eq_true rfl)⟩ hl.1 rfl (Nat.le_of_ble_eq_true rfl) ⟨Nat.zero_le _, Nat.zero_le _⟩ dX12_readsRule_253 (fun N2 H locs hp w => ?_)
        obtain ⟨⟨t2, n2, et2, en2, x2⟩, hI2, hF2⟩ := hp
        have hG2 := Fr.tr hFN hF2 (S := (fun b9 k9 => (b9 = 146 ∧ k9 = 11) ∨ (b9 = 146 ∧ k9 = 13) ∨ (b9 = 146 ∧ k9 = 14) ∨ (b9 = 146 ∧ k9 = 15) ∨ (b9 = 146 ∧ k9 = 16) ∨ (b9 = 146 ∧ k9 = 9) ∨ b9 = 153)) (fun b k h => by (try dsimp only at h ⊢); rcases h with ⟨rfl, rfl⟩ | ⟨rfl, rfl⟩ | ⟨rfl, rfl⟩ | ⟨rfl, rfl⟩ | ⟨rfl, rfl⟩ <;> first | decide | omega)
        refine lv_goto (tgt := 264) hx hb dX12_readsRule_256 (by decide) ?_
        obtain ⟨z3, bz3, ez3⟩ := IvR.ld (k := 16) hI2 (show ivr 146 16 = (0, 1) from rfl) (show 146 ≤ 146 ∧ 146 < 159 by decide)
        rw [hQ]
        exact e_v F w hr hlocks ⟨⟨t2, n2, z3, (et2), (en2), (ez3), ⟨by omega, by omega⟩, ⟨by omega, by omega⟩, ⟨by omega, by omega⟩, (by omega)⟩, (fun h8 => by obtain ⟨z9, g1, g2, g3⟩ := hR ((hF2 153 0 (by first | decide | (dsimp only; first | done | decide | omega) | omega)).symm.trans h8); exact ⟨z9, g1, g2, (hF2 153 3 (by first | decide | (dsimp only; first | done | decide | omega) | omega)).trans g3⟩), hI2, hG2⟩ dX12_readsRule_264
    · obtain ⟨z4, bz4, ez4⟩ := IvR.ld (k := 16) hIN (show ivr 146 16 = (0, 1) from rfl) (show 146 ≤ 146 ∧ 146 < 159 by decide)
      rw [hQ]
      exact e_v F w hr hlocks ⟨⟨tk, nb, z4, (etk), (enb), (ez4), ⟨by omega, by omega⟩, ⟨by omega, by omega⟩, ⟨by omega, by omega⟩, (by omega)⟩, hR, hIN, hFN⟩ dX12_readsRule_243
  have j209 : ∀ (N : Mem) (v tk nb : Int) (H : Heap) (locs : List Loc) (ls : Array Slot), Wd D B cy s s.heap N H locs → lv_has ls 2 [(1, .int (zI v)), (0, .ref (B + 146))] → (0 ≤ v ∧ v ≤ 9) → N.1 146 13 = zI tk → ((-2147483648) ≤ tk ∧ tk ≤ 2147483647) → N.1 146 11 = zI nb → ((-99) ≤ nb ∧ nb ≤ 300) → (tk ≠ 2 ∨ 0 ≤ nb) → RKr (N.1 153) 0 → IvR N → Fr (fun b9 k9 => (b9 = 146 ∧ k9 = 11) ∨ (b9 = 146 ∧ k9 = 13) ∨ (b9 = 146 ∧ k9 = 14) ∨ (b9 = 146 ∧ k9 = 15) ∨ (b9 = 146 ∧ k9 = 16) ∨ (b9 = 146 ∧ k9 = 9) ∨ b9 = 153) N M → W p l e (rmm 5 109) s m args below meth c H locs 0 0 Q (F0 m 209 ls []) := by
    intro N v tk nb H locs ls w hl hv etk htk enb hnb hpre hR hIN hFN
    refine lv_aload_n hx hb dX12_readsRule_209 rfl (lv_at hl 1 rfl) ?_
    refine f_12_16 F w (a := 146) rfl tb_669 dX12_readsRule_210 ?_
    obtain ⟨z1, bz1, ez1⟩ := IvR.ld (k := 16) hIN (show ivr 146 16 = (0, 1) from rfl) (show 146 ≤ 146 ∧ 146 < 159 by decide)
    refine r_val ez1 ?_
    refine z_if_ne (tgt := 236) hx hb (by omega) dX12_readsRule_213 (by decide) (fun c1 => ?_) (fun c1 => ?_)
    · exact j236 N v tk nb H locs ls w hl etk htk enb hnb hpre hR hIN hFN
    · refine lv_iload_n hx hb dX12_readsRule_216 rfl (lv_at hl 0 rfl) ?_
      refine k_Si F w (As := [.int (zI v)]) (rest := []) (q_X12_isBySyllables (x := v) ⟨by omega, by omega⟩  hIN) gs_X12_140 hs_X12_isBySyllables ⟨(Nat.le_of_ble_eq_true rfl), (Nat.le_of_ble_eq_true rfl)⟩ hl.1 rfl (Nat.le_of_ble_eq_true rfl) ⟨Nat.zero_le _, Nat.zero_le _⟩ dX12_readsRule_217 (fun r2 N2 H locs hp w => ?_)
      obtain ⟨z3, rfl, bz3, xz3, hMN2⟩ := hp
      rw [hMN2] at w
      refine z_if_ne (tgt := 236) hx hb (by omega) dX12_readsRule_220 (by decide) (fun c4 => ?_) (fun c4 => ?_)
      · exact j236 N v tk nb H locs ls w hl etk htk enb hnb hpre hR hIN hFN
      · refine lv_aload_n hx hb dX12_readsRule_223 rfl (lv_at hl 1 rfl) ?_
        refine lv_bipush (v := zI 20) hx hb dX12_readsRule_224 (by decide) ?_
        refine k_Vi F w (As := [.int (zI 20)]) (rest := []) (a := 146) (kd_lt (a := 146) (show kd 146 = (12, 0, 0) from rfl) (by decide)) (sh_12 rfl _ _) rfl (q_X12_isWord (x := 20) ⟨by omega, by omega⟩  hIN) gv_X12_224 hv_X12_isWord ⟨(Nat.le_of_ble_eq_true rfl), (Nat.le_of_ble_eq_true rfl)⟩ hl.1 rfl (Nat.le_of_ble_eq_true rfl) ⟨Nat.zero_le _, Nat.zero_le _⟩ dX12_readsRule_226 (fun r5 N5 H locs hp w => ?_)
        obtain ⟨z6, rfl, bz6, hMN5⟩ := hp
        rw [hMN5] at w
        refine z_if_eq (tgt := 236) hx hb (by omega) dX12_readsRule_229 (by decide) (fun c7 => ?_) (fun c7 => ?_)
        · exact j236 N v tk nb H locs ls w hl etk htk enb hnb hpre hR hIN hFN
        · refine lv_aload_n hx hb dX12_readsRule_232 rfl (lv_at hl 1 rfl) ?_
          refine k_Vv F w (As := []) (rest := []) (a := 146) (kd_lt (a := 146) (show kd 146 = (12, 0, 0) from rfl) (by decide)) (sh_12 rfl _ _) rfl (q_X12_readsTest   hIN) gv_X12_233 hv_X12_readsTest ⟨(Nat.le_of_ble_eq_true rfl), (Nat.le_of_ble_eq_true rfl)⟩ hl.1 rfl (Nat.le_of_ble_eq_true rfl) ⟨Nat.zero_le _, Nat.zero_le _⟩ dX12_readsRule_233 (fun N8 H locs hp w => ?_)
          obtain ⟨⟨t8, n8, et8, en8, x8⟩, hI8, hF8⟩ := hp
          have hG8 := Fr.tr hFN hF8 (S := (fun b9 k9 => (b9 = 146 ∧ k9 = 11) ∨ (b9 = 146 ∧ k9 = 13) ∨ (b9 = 146 ∧ k9 = 14) ∨ (b9 = 146 ∧ k9 = 15) ∨ (b9 = 146 ∧ k9 = 16) ∨ (b9 = 146 ∧ k9 = 9) ∨ b9 = 153)) (fun b k h => by (try dsimp only at h ⊢); rcases h with ⟨rfl, rfl⟩ | ⟨rfl, rfl⟩ | ⟨rfl, rfl⟩ | ⟨rfl, rfl⟩ | ⟨rfl, rfl⟩ | ⟨rfl, rfl⟩ | ⟨rfl, q1, q2⟩ | ⟨rfl, q1, q2⟩ | ⟨rfl, q1, q2⟩ <;> first | decide | omega)
          exact j236 N8 v t8 n8 H locs ls w hl et8 ⟨by omega, by omega⟩ en8 ⟨by omega, by omega⟩ (by omega) (fun h8 => by obtain ⟨z9, g1, g2, g3⟩ := hR ((hF8 153 0 (by first | decide | (dsimp only; first | done | decide | omega) | omega)).symm.trans h8); exact ⟨z9, g1, g2, (hF8 153 3 (by first | decide | (dsimp only; first | done | decide | omega) | omega)).trans g3⟩) hI8 hG8
  have j56 : ∀ (NL2 : Mem) (v1_2 tk nb : Int) (H : Heap) (locs : List Loc) (ls : Array Slot), Wd D B cy s s.heap NL2 H locs → lv_has ls 2 [(1, .int (zI v1_2)), (0, .ref (B + 146))] → NL2.1 146 13 = zI tk → ((-2147483648) ≤ tk ∧ tk ≤ 2147483647) → NL2.1 146 11 = zI nb → ((-99) ≤ nb ∧ nb ≤ 300) → (tk ≠ 2 ∨ 0 ≤ nb) → IvR NL2 → Fr (fun b9 k9 => (b9 = 146 ∧ k9 = 11) ∨ (b9 = 146 ∧ k9 = 13) ∨ (b9 = 146 ∧ k9 = 14) ∨ (b9 = 146 ∧ k9 = 15) ∨ (b9 = 146 ∧ k9 = 16) ∨ (b9 = 146 ∧ k9 = 9) ∨ b9 = 153) NL2 M → W p l e (rmm 5 109) s m args below meth c H locs 0 0 Q (F0 m 56 ls []) := by
    intro NL2 v1_2 tk nb H locs ls w hl eg146_13_2 htk eg146_11_2 hnb hpre0 hIL2 hFL2
    refine lv_aload_n hx hb dX12_readsRule_56 rfl (lv_at hl 1 rfl) ?_
    refine lv_iconst (v := zI 1) hx hb dX12_readsRule_57 rfl ?_
    refine lv_bipush (v := zI 10) hx hb dX12_readsRule_58 (by decide) ?_
    refine k_Vi F w (As := [.int (zI 1), .int (zI 10)]) (rest := []) (a := 146) (kd_lt (a := 146) (show kd 146 = (12, 0, 0) from rfl) (by decide)) (sh_12 rfl _ _) rfl (q_X12_needs (x := 1) ⟨by omega, by omega⟩ (x1 := 10) ⟨by omega, by omega⟩ (tk := tk) (eg146_13_2) ⟨by omega, by omega⟩ (nb := nb) (eg146_11_2) ⟨by omega, by omega⟩ (by omega) hIL2) gv_X12_227 hv_X12_needs ⟨(Nat.le_of_ble_eq_true rfl), (Nat.le_of_ble_eq_true rfl)⟩ hl.1 rfl (Nat.le_of_ble_eq_true rfl) ⟨Nat.zero_le _, Nat.zero_le _⟩ dX12_readsRule_60 (fun r6 N7 H locs hp w => ?_)
    obtain ⟨z8, rfl, bz8, ⟨nz80, nz81, enz80, enz81, xz8⟩, hIN7, hFN7⟩ := hp
    have hGN7 := Fr.tr hFL2 hFN7 (S := (fun b9 k9 => (b9 = 146 ∧ k9 = 11) ∨ (b9 = 146 ∧ k9 = 13) ∨ (b9 = 146 ∧ k9 = 14) ∨ (b9 = 146 ∧ k9 = 15) ∨ (b9 = 146 ∧ k9 = 16) ∨ (b9 = 146 ∧ k9 = 9) ∨ b9 = 153)) (fun b k h => by (try dsimp only at h ⊢); rcases h with ⟨rfl, rfl⟩ | ⟨rfl, rfl⟩ | ⟨rfl, rfl⟩ | ⟨rfl, rfl⟩ | ⟨rfl, rfl⟩ | ⟨rfl, rfl⟩ <;> first | decide | omega)
    rcases (show z8 = 0 ∨ z8 = 1 ∨ z8 = 2 ∨ z8 = 3 ∨ z8 = 4 ∨ z8 = 5 ∨ z8 = 6 ∨ z8 = 7 ∨ z8 = 8 ∨ z8 = 9 by omega) with rfl | rfl | rfl | rfl | rfl | rfl | rfl | rfl | rfl | rfl
    · refine lv_istore_n (lv' := [(1, .int (zI 0)), (0, .ref (B + 146))]) hx hb dX12_readsRule_63 rfl hl (by decide) rfl (fun ls hl => ?_)
      refine lv_aload_n hx hb dX12_readsRule_64 rfl (lv_at hl 1 rfl) ?_
      refine f_12_17 F w (a := 146) rfl tb_676 dX12_readsRule_65 ?_
      refine lv_iconst (v := zI 0) hx hb dX12_readsRule_68 rfl ?_
      refine lv_iload_n hx hb dX12_readsRule_69 rfl (lv_at hl 0 rfl) ?_
      refine g_iast F w (a := 153) rfl (j := 0) ⟨by decide, by decide⟩ (by omega) dX12_readsRule_70 (fun H locs w => ?_)
      refine lv_iload_n hx hb dX12_readsRule_71 rfl (lv_at hl 0 rfl) ?_
      refine lv_bipush (v := zI 8) hx hb dX12_readsRule_72 (by decide) ?_
      refine z_icmp_ne (tgt := 90) hx hb (by omega) (by omega) dX12_readsRule_74 (by decide) (fun c9 => ?_) (fun c9 => False.elim (by omega))
      refine lv_iload_n hx hb dX12_readsRule_90 rfl (lv_at hl 0 rfl) ?_
      refine z_if_eq (tgt := 119) hx hb (by omega) dX12_readsRule_91 (by decide) (fun c10 => ?_) (fun c10 => False.elim (by omega))
      refine lv_iload_n hx hb dX12_readsRule_119 rfl (lv_at hl 0 rfl) ?_
      refine lv_bipush (v := zI 7) hx hb dX12_readsRule_120 (by decide) ?_
      refine z_icmp_ne (tgt := 148) hx hb (by omega) (by omega) dX12_readsRule_122 (by decide) (fun c11 => ?_) (fun c11 => False.elim (by omega))
      refine lv_iload_n hx hb dX12_readsRule_148 rfl (lv_at hl 0 rfl) ?_
      refine k_Si F w (As := [.int (zI 0)]) (rest := []) (q_X12_hasSide (x := 0) ⟨by omega, by omega⟩  (IvR.to hIN7 (a := 153) (k := 0) (x := 0) (show ivr 153 0 = ((-99), 300) from rfl) ⟨by omega, by omega⟩ ⟨by decide, by decide, by decide, fun q9 => absurd q9 (by decide)⟩)) gs_X12_137 hs_X12_hasSide ⟨(Nat.le_of_ble_eq_true rfl), (Nat.le_of_ble_eq_true rfl)⟩ hl.1 rfl (Nat.le_of_ble_eq_true rfl) ⟨Nat.zero_le _, Nat.zero_le _⟩ dX12_readsRule_149 (fun r12 N13 H locs hp w => ?_)
      obtain ⟨z14, rfl, bz14, xz14, hMN13⟩ := hp
      rw [hMN13] at w
      refine z_if_eq (tgt := 169) hx hb (by omega) dX12_readsRule_152 (by decide) (fun c15 => False.elim (by omega)) (fun c15 => ?_)
      refine lv_aload_n hx hb dX12_readsRule_155 rfl (lv_at hl 1 rfl) ?_
      refine f_12_17 F w (a := 146) rfl tb_676 dX12_readsRule_156 ?_
      refine lv_iconst (v := zI 4) hx hb dX12_readsRule_159 rfl ?_
      refine lv_aload_n hx hb dX12_readsRule_160 rfl (lv_at hl 1 rfl) ?_
      refine lv_bipush (v := zI 15) hx hb dX12_readsRule_161 (by decide) ?_
      refine lv_bipush (v := zI 16) hx hb dX12_readsRule_163 (by decide) ?_
      refine k_Vi F w (As := [.int (zI 15), .int (zI 16)]) (rest := [.int (zI 4), .ref (B + 153)]) (a := 146) (kd_lt (a := 146) (show kd 146 = (12, 0, 0) from rfl) (by decide)) (sh_12 rfl _ _) rfl (q_X12_needs (x := 15) ⟨by omega, by omega⟩ (x1 := 16) ⟨by omega, by omega⟩ (tk := nz80) ((st_ne (Or.inl (by decide))).trans enz80) ⟨by omega, by omega⟩ (nb := nz81) ((st_ne (Or.inl (by decide))).trans enz81) ⟨by omega, by omega⟩ (by omega) (IvR.to hIN7 (a := 153) (k := 0) (x := 0) (show ivr 153 0 = ((-99), 300) from rfl) ⟨by omega, by omega⟩ ⟨by decide, by decide, by decide, fun q9 => absurd q9 (by decide)⟩)) gv_X12_227 hv_X12_needs ⟨(Nat.le_of_ble_eq_true rfl), (Nat.le_of_ble_eq_true rfl)⟩ hl.1 rfl (Nat.le_of_ble_eq_true rfl) ⟨Nat.zero_le _, Nat.zero_le _⟩ dX12_readsRule_165 (fun r16 N17 H locs hp w => ?_)
      obtain ⟨z18, rfl, bz18, ⟨nz180, nz181, enz180, enz181, xz18⟩, hIN17, hFN17⟩ := hp
      have hGN17 := Fr.tr (Fr.to hGN7 (by first | decide | (dsimp only; first | done | decide | omega) | omega)) hFN17 (S := (fun b9 k9 => (b9 = 146 ∧ k9 = 11) ∨ (b9 = 146 ∧ k9 = 13) ∨ (b9 = 146 ∧ k9 = 14) ∨ (b9 = 146 ∧ k9 = 15) ∨ (b9 = 146 ∧ k9 = 16) ∨ (b9 = 146 ∧ k9 = 9) ∨ b9 = 153)) (fun b k h => by (try dsimp only at h ⊢); rcases h with ⟨rfl, rfl⟩ | ⟨rfl, rfl⟩ | ⟨rfl, rfl⟩ | ⟨rfl, rfl⟩ | ⟨rfl, rfl⟩ | ⟨rfl, rfl⟩ <;> first | decide | omega)
      have kn19 : N17.1 153 0 = zI 0 := (hFN17 153 0 (by first | decide | (dsimp only; first | done | decide | omega) | omega)).trans (st_at)
      refine g_iast F w (a := 153) rfl (j := 4) ⟨by decide, by decide⟩ (by omega) dX12_readsRule_168 (fun H locs w => ?_)
      refine lv_iload_n hx hb dX12_readsRule_169 rfl (lv_at hl 0 rfl) ?_
      refine lv_iconst (v := zI 3) hx hb dX12_readsRule_170 rfl ?_
      refine z_icmp_eq (tgt := 180) hx hb (by omega) (by omega) dX12_readsRule_171 (by decide) (fun c20 => False.elim (by omega)) (fun c20 => ?_)
      refine lv_iload_n hx hb dX12_readsRule_174 rfl (lv_at hl 0 rfl) ?_
      refine lv_bipush (v := zI 8) hx hb dX12_readsRule_175 (by decide) ?_
      refine z_icmp_ne (tgt := 194) hx hb (by omega) (by omega) dX12_readsRule_177 (by decide) (fun c21 => ?_) (fun c21 => False.elim (by omega))
      refine lv_iload_n hx hb dX12_readsRule_194 rfl (lv_at hl 0 rfl) ?_
      refine lv_iconst (v := zI 1) hx hb dX12_readsRule_195 rfl ?_
      refine z_icmp_ne (tgt := 209) hx hb (by omega) (by omega) dX12_readsRule_196 (by decide) (fun c22 => ?_) (fun c22 => False.elim (by omega))
      obtain ⟨z37, bz37, ez37⟩ := IvR.ld (k := 3) (IvR.to hIN17 (a := 153) (k := 4) (x := z18) (show ivr 153 4 = ((-99), 300) from rfl) ⟨by omega, by omega⟩ ⟨by decide, by decide, by decide, fun q9 => absurd q9 (by decide)⟩) (show ivr 153 3 = (-99, 300) from rfl) (by decide)
      exact j209 _ 0 nz180 nz181 H locs ls w hl ⟨by omega, by omega⟩ ((st_ne (Or.inl (by decide))).trans enz180) ⟨by omega, by omega⟩ ((st_ne (Or.inl (by decide))).trans enz181) ⟨by omega, by omega⟩ (by omega) (fun h8 => by have h9 := (zI_eq (a := 0) (b := 8) (by constructor <;> omega) (by constructor <;> omega)).mp (((st_ne (Or.inr (by decide))).trans kn19).symm.trans h8); exact ⟨z37, by omega, by omega, ez37⟩) (IvR.to hIN17 (a := 153) (k := 4) (x := z18) (show ivr 153 4 = ((-99), 300) from rfl) ⟨by omega, by omega⟩ ⟨by decide, by decide, by decide, fun q9 => absurd q9 (by decide)⟩) (Fr.to hGN17 (by first | decide | (dsimp only; first | done | decide | omega) | omega))
    · refine lv_istore_n (lv' := [(1, .int (zI 1)), (0, .ref (B + 146))]) hx hb dX12_readsRule_63 rfl hl (by decide) rfl (fun ls hl => ?_)
      refine lv_aload_n hx hb dX12_readsRule_64 rfl (lv_at hl 1 rfl) ?_
      refine f_12_17 F w (a := 146) rfl tb_676 dX12_readsRule_65 ?_
      refine lv_iconst (v := zI 0) hx hb dX12_readsRule_68 rfl ?_
      refine lv_iload_n hx hb dX12_readsRule_69 rfl (lv_at hl 0 rfl) ?_
      refine g_iast F w (a := 153) rfl (j := 0) ⟨by decide, by decide⟩ (by omega) dX12_readsRule_70 (fun H locs w => ?_)
      refine lv_iload_n hx hb dX12_readsRule_71 rfl (lv_at hl 0 rfl) ?_
      refine lv_bipush (v := zI 8) hx hb dX12_readsRule_72 (by decide) ?_
      refine z_icmp_ne (tgt := 90) hx hb (by omega) (by omega) dX12_readsRule_74 (by decide) (fun c55 => ?_) (fun c55 => False.elim (by omega))
      refine lv_iload_n hx hb dX12_readsRule_90 rfl (lv_at hl 0 rfl) ?_
      refine z_if_eq (tgt := 119) hx hb (by omega) dX12_readsRule_91 (by decide) (fun c56 => False.elim (by omega)) (fun c56 => ?_)
      refine lv_aload_n hx hb dX12_readsRule_94 rfl (lv_at hl 1 rfl) ?_
      refine f_12_17 F w (a := 146) rfl tb_676 dX12_readsRule_95 ?_
      refine lv_iconst (v := zI 2) hx hb dX12_readsRule_98 rfl ?_
      refine lv_aload_n hx hb dX12_readsRule_99 rfl (lv_at hl 1 rfl) ?_
      refine lv_bipush (v := zI 11) hx hb dX12_readsRule_100 (by decide) ?_
      refine lv_iload_n hx hb dX12_readsRule_102 rfl (lv_at hl 0 rfl) ?_
      refine lv_bipush (v := zI 9) hx hb dX12_readsRule_103 (by decide) ?_
      refine z_icmp_ne (tgt := 113) hx hb (by omega) (by omega) dX12_readsRule_105 (by decide) (fun c57 => ?_) (fun c57 => False.elim (by omega))
      refine lv_bipush (v := zI 14) hx hb dX12_readsRule_113 (by decide) ?_
      refine k_Vi F w (As := [.int (zI 11), .int (zI 14)]) (rest := [.int (zI 2), .ref (B + 153)]) (a := 146) (kd_lt (a := 146) (show kd 146 = (12, 0, 0) from rfl) (by decide)) (sh_12 rfl _ _) rfl (q_X12_needs (x := 11) ⟨by omega, by omega⟩ (x1 := 14) ⟨by omega, by omega⟩ (tk := nz80) ((st_ne (Or.inl (by decide))).trans enz80) ⟨by omega, by omega⟩ (nb := nz81) ((st_ne (Or.inl (by decide))).trans enz81) ⟨by omega, by omega⟩ (by omega) (IvR.to hIN7 (a := 153) (k := 0) (x := 1) (show ivr 153 0 = ((-99), 300) from rfl) ⟨by omega, by omega⟩ ⟨by decide, by decide, by decide, fun q9 => absurd q9 (by decide)⟩)) gv_X12_227 hv_X12_needs ⟨(Nat.le_of_ble_eq_true rfl), (Nat.le_of_ble_eq_true rfl)⟩ hl.1 rfl (Nat.le_of_ble_eq_true rfl) ⟨Nat.zero_le _, Nat.zero_le _⟩ dX12_readsRule_115 (fun r58 N59 H locs hp w => ?_)
      obtain ⟨z60, rfl, bz60, ⟨nz600, nz601, enz600, enz601, xz60⟩, hIN59, hFN59⟩ := hp
      have hGN59 := Fr.tr (Fr.to hGN7 (by first | decide | (dsimp only; first | done | decide | omega) | omega)) hFN59 (S := (fun b9 k9 => (b9 = 146 ∧ k9 = 11) ∨ (b9 = 146 ∧ k9 = 13) ∨ (b9 = 146 ∧ k9 = 14) ∨ (b9 = 146 ∧ k9 = 15) ∨ (b9 = 146 ∧ k9 = 16) ∨ (b9 = 146 ∧ k9 = 9) ∨ b9 = 153)) (fun b k h => by (try dsimp only at h ⊢); rcases h with ⟨rfl, rfl⟩ | ⟨rfl, rfl⟩ | ⟨rfl, rfl⟩ | ⟨rfl, rfl⟩ | ⟨rfl, rfl⟩ | ⟨rfl, rfl⟩ <;> first | decide | omega)
      have kn61 : N59.1 153 0 = zI 1 := (hFN59 153 0 (by first | decide | (dsimp only; first | done | decide | omega) | omega)).trans (st_at)
      refine g_iast F w (a := 153) rfl (j := 2) ⟨by decide, by decide⟩ (by omega) dX12_readsRule_118 (fun H locs w => ?_)
      refine lv_iload_n hx hb dX12_readsRule_119 rfl (lv_at hl 0 rfl) ?_
      refine lv_bipush (v := zI 7) hx hb dX12_readsRule_120 (by decide) ?_
      refine z_icmp_ne (tgt := 148) hx hb (by omega) (by omega) dX12_readsRule_122 (by decide) (fun c62 => ?_) (fun c62 => False.elim (by omega))
      refine lv_iload_n hx hb dX12_readsRule_148 rfl (lv_at hl 0 rfl) ?_
      refine k_Si F w (As := [.int (zI 1)]) (rest := []) (q_X12_hasSide (x := 1) ⟨by omega, by omega⟩  (IvR.to hIN59 (a := 153) (k := 2) (x := z60) (show ivr 153 2 = ((-99), 300) from rfl) ⟨by omega, by omega⟩ ⟨by decide, by decide, by decide, fun q9 => absurd q9 (by decide)⟩)) gs_X12_137 hs_X12_hasSide ⟨(Nat.le_of_ble_eq_true rfl), (Nat.le_of_ble_eq_true rfl)⟩ hl.1 rfl (Nat.le_of_ble_eq_true rfl) ⟨Nat.zero_le _, Nat.zero_le _⟩ dX12_readsRule_149 (fun r63 N64 H locs hp w => ?_)
      obtain ⟨z65, rfl, bz65, xz65, hMN64⟩ := hp
      rw [hMN64] at w
      refine z_if_eq (tgt := 169) hx hb (by omega) dX12_readsRule_152 (by decide) (fun c66 => False.elim (by omega)) (fun c66 => ?_)
      refine lv_aload_n hx hb dX12_readsRule_155 rfl (lv_at hl 1 rfl) ?_
      refine f_12_17 F w (a := 146) rfl tb_676 dX12_readsRule_156 ?_
      refine lv_iconst (v := zI 4) hx hb dX12_readsRule_159 rfl ?_
      refine lv_aload_n hx hb dX12_readsRule_160 rfl (lv_at hl 1 rfl) ?_
      refine lv_bipush (v := zI 15) hx hb dX12_readsRule_161 (by decide) ?_
      refine lv_bipush (v := zI 16) hx hb dX12_readsRule_163 (by decide) ?_
      refine k_Vi F w (As := [.int (zI 15), .int (zI 16)]) (rest := [.int (zI 4), .ref (B + 153)]) (a := 146) (kd_lt (a := 146) (show kd 146 = (12, 0, 0) from rfl) (by decide)) (sh_12 rfl _ _) rfl (q_X12_needs (x := 15) ⟨by omega, by omega⟩ (x1 := 16) ⟨by omega, by omega⟩ (tk := nz600) ((st_ne (Or.inl (by decide))).trans enz600) ⟨by omega, by omega⟩ (nb := nz601) ((st_ne (Or.inl (by decide))).trans enz601) ⟨by omega, by omega⟩ (by omega) (IvR.to hIN59 (a := 153) (k := 2) (x := z60) (show ivr 153 2 = ((-99), 300) from rfl) ⟨by omega, by omega⟩ ⟨by decide, by decide, by decide, fun q9 => absurd q9 (by decide)⟩)) gv_X12_227 hv_X12_needs ⟨(Nat.le_of_ble_eq_true rfl), (Nat.le_of_ble_eq_true rfl)⟩ hl.1 rfl (Nat.le_of_ble_eq_true rfl) ⟨Nat.zero_le _, Nat.zero_le _⟩ dX12_readsRule_165 (fun r67 N68 H locs hp w => ?_)
      obtain ⟨z69, rfl, bz69, ⟨nz690, nz691, enz690, enz691, xz69⟩, hIN68, hFN68⟩ := hp
      have hGN68 := Fr.tr (Fr.to hGN59 (by first | decide | (dsimp only; first | done | decide | omega) | omega)) hFN68 (S := (fun b9 k9 => (b9 = 146 ∧ k9 = 11) ∨ (b9 = 146 ∧ k9 = 13) ∨ (b9 = 146 ∧ k9 = 14) ∨ (b9 = 146 ∧ k9 = 15) ∨ (b9 = 146 ∧ k9 = 16) ∨ (b9 = 146 ∧ k9 = 9) ∨ b9 = 153)) (fun b k h => by (try dsimp only at h ⊢); rcases h with ⟨rfl, rfl⟩ | ⟨rfl, rfl⟩ | ⟨rfl, rfl⟩ | ⟨rfl, rfl⟩ | ⟨rfl, rfl⟩ | ⟨rfl, rfl⟩ <;> first | decide | omega)
      have kn70 : N68.1 153 0 = zI 1 := (hFN68 153 0 (by first | decide | (dsimp only; first | done | decide | omega) | omega)).trans ((st_ne (Or.inr (by decide))).trans kn61)
      have kn71 : N68.1 153 2 = zI z60 := (hFN68 153 2 (by first | decide | (dsimp only; first | done | decide | omega) | omega)).trans (st_at)
      refine g_iast F w (a := 153) rfl (j := 4) ⟨by decide, by decide⟩ (by omega) dX12_readsRule_168 (fun H locs w => ?_)
      refine lv_iload_n hx hb dX12_readsRule_169 rfl (lv_at hl 0 rfl) ?_
      refine lv_iconst (v := zI 3) hx hb dX12_readsRule_170 rfl ?_
      refine z_icmp_eq (tgt := 180) hx hb (by omega) (by omega) dX12_readsRule_171 (by decide) (fun c72 => False.elim (by omega)) (fun c72 => ?_)
      refine lv_iload_n hx hb dX12_readsRule_174 rfl (lv_at hl 0 rfl) ?_
      refine lv_bipush (v := zI 8) hx hb dX12_readsRule_175 (by decide) ?_
      refine z_icmp_ne (tgt := 194) hx hb (by omega) (by omega) dX12_readsRule_177 (by decide) (fun c73 => ?_) (fun c73 => False.elim (by omega))
      refine lv_iload_n hx hb dX12_readsRule_194 rfl (lv_at hl 0 rfl) ?_
      refine lv_iconst (v := zI 1) hx hb dX12_readsRule_195 rfl ?_
      refine z_icmp_ne (tgt := 209) hx hb (by omega) (by omega) dX12_readsRule_196 (by decide) (fun c74 => False.elim (by omega)) (fun c74 => ?_)
      refine lv_aload_n hx hb dX12_readsRule_199 rfl (lv_at hl 1 rfl) ?_
      refine f_12_17 F w (a := 146) rfl tb_676 dX12_readsRule_200 ?_
      refine lv_iconst (v := zI 3) hx hb dX12_readsRule_203 rfl ?_
      refine lv_aload_n hx hb dX12_readsRule_204 rfl (lv_at hl 1 rfl) ?_
      refine k_Vi F w (As := []) (rest := [.int (zI 3), .ref (B + 153)]) (a := 146) (kd_lt (a := 146) (show kd 146 = (12, 0, 0) from rfl) (by decide)) (sh_12 rfl _ _) rfl (q_X12_needsNumber (tk := nz690) ((st_ne (Or.inl (by decide))).trans enz690) ⟨by omega, by omega⟩ (nb := nz691) ((st_ne (Or.inl (by decide))).trans enz691) ⟨by omega, by omega⟩ (by omega) (IvR.to hIN68 (a := 153) (k := 4) (x := z69) (show ivr 153 4 = ((-99), 300) from rfl) ⟨by omega, by omega⟩ ⟨by decide, by decide, by decide, fun q9 => absurd q9 (by decide)⟩)) gv_X12_230 hv_X12_needsNumber ⟨(Nat.le_of_ble_eq_true rfl), (Nat.le_of_ble_eq_true rfl)⟩ hl.1 rfl (Nat.le_of_ble_eq_true rfl) ⟨Nat.zero_le _, Nat.zero_le _⟩ dX12_readsRule_205 (fun r75 N76 H locs hp w => ?_)
      obtain ⟨z77, rfl, bz77, ⟨nz770, nz771, enz770, enz771, xz77⟩, hIN76, hFN76⟩ := hp
      have hGN76 := Fr.tr (Fr.to hGN68 (by first | decide | (dsimp only; first | done | decide | omega) | omega)) hFN76 (S := (fun b9 k9 => (b9 = 146 ∧ k9 = 11) ∨ (b9 = 146 ∧ k9 = 13) ∨ (b9 = 146 ∧ k9 = 14) ∨ (b9 = 146 ∧ k9 = 15) ∨ (b9 = 146 ∧ k9 = 16) ∨ (b9 = 146 ∧ k9 = 9) ∨ b9 = 153)) (fun b k h => by (try dsimp only at h ⊢); rcases h with ⟨rfl, rfl⟩ | ⟨rfl, rfl⟩ | ⟨rfl, rfl⟩ | ⟨rfl, rfl⟩ | ⟨rfl, rfl⟩ | ⟨rfl, rfl⟩ <;> first | decide | omega)
      have kn78 : N76.1 153 0 = zI 1 := (hFN76 153 0 (by first | decide | (dsimp only; first | done | decide | omega) | omega)).trans ((st_ne (Or.inr (by decide))).trans kn70)
      have kn79 : N76.1 153 2 = zI z60 := (hFN76 153 2 (by first | decide | (dsimp only; first | done | decide | omega) | omega)).trans ((st_ne (Or.inr (by decide))).trans kn71)
      have kn80 : N76.1 153 4 = zI z69 := (hFN76 153 4 (by first | decide | (dsimp only; first | done | decide | omega) | omega)).trans (st_at)
      refine g_iast F w (a := 153) rfl (j := 3) ⟨by decide, by decide⟩ (by omega) dX12_readsRule_208 (fun H locs w => ?_)
      obtain ⟨z94, bz94, ez94⟩ := IvR.ld (k := 16) (IvR.to hIN76 (a := 153) (k := 3) (x := z77) (show ivr 153 3 = ((-99), 300) from rfl) ⟨by omega, by omega⟩ ⟨by decide, by decide, by decide, fun q9 => absurd q9 (by decide)⟩) (show ivr 146 16 = (0, 1) from rfl) (show 146 ≤ 146 ∧ 146 < 159 by decide)
      exact j209 _ 1 nz770 nz771 H locs ls w hl ⟨by omega, by omega⟩ ((st_ne (Or.inl (by decide))).trans enz770) ⟨by omega, by omega⟩ ((st_ne (Or.inl (by decide))).trans enz771) ⟨by omega, by omega⟩ (by omega) (fun h8 => by have h9 := (zI_eq (a := 1) (b := 8) (by constructor <;> omega) (by constructor <;> omega)).mp (((st_ne (Or.inr (by decide))).trans kn78).symm.trans h8); exact ⟨z77, by omega, by omega, st_at⟩) (IvR.to hIN76 (a := 153) (k := 3) (x := z77) (show ivr 153 3 = ((-99), 300) from rfl) ⟨by omega, by omega⟩ ⟨by decide, by decide, by decide, fun q9 => absurd q9 (by decide)⟩) (Fr.to hGN76 (by first | decide | (dsimp only; first | done | decide | omega) | omega))
    · refine lv_istore_n (lv' := [(1, .int (zI 2)), (0, .ref (B + 146))]) hx hb dX12_readsRule_63 rfl hl (by decide) rfl (fun ls hl => ?_)
      refine lv_aload_n hx hb dX12_readsRule_64 rfl (lv_at hl 1 rfl) ?_
      refine f_12_17 F w (a := 146) rfl tb_676 dX12_readsRule_65 ?_
      refine lv_iconst (v := zI 0) hx hb dX12_readsRule_68 rfl ?_
      refine lv_iload_n hx hb dX12_readsRule_69 rfl (lv_at hl 0 rfl) ?_
      refine g_iast F w (a := 153) rfl (j := 0) ⟨by decide, by decide⟩ (by omega) dX12_readsRule_70 (fun H locs w => ?_)
      refine lv_iload_n hx hb dX12_readsRule_71 rfl (lv_at hl 0 rfl) ?_
      refine lv_bipush (v := zI 8) hx hb dX12_readsRule_72 (by decide) ?_
      refine z_icmp_ne (tgt := 90) hx hb (by omega) (by omega) dX12_readsRule_74 (by decide) (fun c133 => ?_) (fun c133 => False.elim (by omega))
      refine lv_iload_n hx hb dX12_readsRule_90 rfl (lv_at hl 0 rfl) ?_
      refine z_if_eq (tgt := 119) hx hb (by omega) dX12_readsRule_91 (by decide) (fun c134 => False.elim (by omega)) (fun c134 => ?_)
      refine lv_aload_n hx hb dX12_readsRule_94 rfl (lv_at hl 1 rfl) ?_
      refine f_12_17 F w (a := 146) rfl tb_676 dX12_readsRule_95 ?_
      refine lv_iconst (v := zI 2) hx hb dX12_readsRule_98 rfl ?_
      refine lv_aload_n hx hb dX12_readsRule_99 rfl (lv_at hl 1 rfl) ?_
      refine lv_bipush (v := zI 11) hx hb dX12_readsRule_100 (by decide) ?_
      refine lv_iload_n hx hb dX12_readsRule_102 rfl (lv_at hl 0 rfl) ?_
      refine lv_bipush (v := zI 9) hx hb dX12_readsRule_103 (by decide) ?_
      refine z_icmp_ne (tgt := 113) hx hb (by omega) (by omega) dX12_readsRule_105 (by decide) (fun c135 => ?_) (fun c135 => False.elim (by omega))
      refine lv_bipush (v := zI 14) hx hb dX12_readsRule_113 (by decide) ?_
      refine k_Vi F w (As := [.int (zI 11), .int (zI 14)]) (rest := [.int (zI 2), .ref (B + 153)]) (a := 146) (kd_lt (a := 146) (show kd 146 = (12, 0, 0) from rfl) (by decide)) (sh_12 rfl _ _) rfl (q_X12_needs (x := 11) ⟨by omega, by omega⟩ (x1 := 14) ⟨by omega, by omega⟩ (tk := nz80) ((st_ne (Or.inl (by decide))).trans enz80) ⟨by omega, by omega⟩ (nb := nz81) ((st_ne (Or.inl (by decide))).trans enz81) ⟨by omega, by omega⟩ (by omega) (IvR.to hIN7 (a := 153) (k := 0) (x := 2) (show ivr 153 0 = ((-99), 300) from rfl) ⟨by omega, by omega⟩ ⟨by decide, by decide, by decide, fun q9 => absurd q9 (by decide)⟩)) gv_X12_227 hv_X12_needs ⟨(Nat.le_of_ble_eq_true rfl), (Nat.le_of_ble_eq_true rfl)⟩ hl.1 rfl (Nat.le_of_ble_eq_true rfl) ⟨Nat.zero_le _, Nat.zero_le _⟩ dX12_readsRule_115 (fun r136 N137 H locs hp w => ?_)
      obtain ⟨z138, rfl, bz138, ⟨nz1380, nz1381, enz1380, enz1381, xz138⟩, hIN137, hFN137⟩ := hp
      have hGN137 := Fr.tr (Fr.to hGN7 (by first | decide | (dsimp only; first | done | decide | omega) | omega)) hFN137 (S := (fun b9 k9 => (b9 = 146 ∧ k9 = 11) ∨ (b9 = 146 ∧ k9 = 13) ∨ (b9 = 146 ∧ k9 = 14) ∨ (b9 = 146 ∧ k9 = 15) ∨ (b9 = 146 ∧ k9 = 16) ∨ (b9 = 146 ∧ k9 = 9) ∨ b9 = 153)) (fun b k h => by (try dsimp only at h ⊢); rcases h with ⟨rfl, rfl⟩ | ⟨rfl, rfl⟩ | ⟨rfl, rfl⟩ | ⟨rfl, rfl⟩ | ⟨rfl, rfl⟩ | ⟨rfl, rfl⟩ <;> first | decide | omega)
      have kn139 : N137.1 153 0 = zI 2 := (hFN137 153 0 (by first | decide | (dsimp only; first | done | decide | omega) | omega)).trans (st_at)
      refine g_iast F w (a := 153) rfl (j := 2) ⟨by decide, by decide⟩ (by omega) dX12_readsRule_118 (fun H locs w => ?_)
      refine lv_iload_n hx hb dX12_readsRule_119 rfl (lv_at hl 0 rfl) ?_
      refine lv_bipush (v := zI 7) hx hb dX12_readsRule_120 (by decide) ?_
      refine z_icmp_ne (tgt := 148) hx hb (by omega) (by omega) dX12_readsRule_122 (by decide) (fun c140 => ?_) (fun c140 => False.elim (by omega))
      refine lv_iload_n hx hb dX12_readsRule_148 rfl (lv_at hl 0 rfl) ?_
      refine k_Si F w (As := [.int (zI 2)]) (rest := []) (q_X12_hasSide (x := 2) ⟨by omega, by omega⟩  (IvR.to hIN137 (a := 153) (k := 2) (x := z138) (show ivr 153 2 = ((-99), 300) from rfl) ⟨by omega, by omega⟩ ⟨by decide, by decide, by decide, fun q9 => absurd q9 (by decide)⟩)) gs_X12_137 hs_X12_hasSide ⟨(Nat.le_of_ble_eq_true rfl), (Nat.le_of_ble_eq_true rfl)⟩ hl.1 rfl (Nat.le_of_ble_eq_true rfl) ⟨Nat.zero_le _, Nat.zero_le _⟩ dX12_readsRule_149 (fun r141 N142 H locs hp w => ?_)
      obtain ⟨z143, rfl, bz143, xz143, hMN142⟩ := hp
      rw [hMN142] at w
      refine z_if_eq (tgt := 169) hx hb (by omega) dX12_readsRule_152 (by decide) (fun c144 => False.elim (by omega)) (fun c144 => ?_)
      refine lv_aload_n hx hb dX12_readsRule_155 rfl (lv_at hl 1 rfl) ?_
      refine f_12_17 F w (a := 146) rfl tb_676 dX12_readsRule_156 ?_
      refine lv_iconst (v := zI 4) hx hb dX12_readsRule_159 rfl ?_
      refine lv_aload_n hx hb dX12_readsRule_160 rfl (lv_at hl 1 rfl) ?_
      refine lv_bipush (v := zI 15) hx hb dX12_readsRule_161 (by decide) ?_
      refine lv_bipush (v := zI 16) hx hb dX12_readsRule_163 (by decide) ?_
      refine k_Vi F w (As := [.int (zI 15), .int (zI 16)]) (rest := [.int (zI 4), .ref (B + 153)]) (a := 146) (kd_lt (a := 146) (show kd 146 = (12, 0, 0) from rfl) (by decide)) (sh_12 rfl _ _) rfl (q_X12_needs (x := 15) ⟨by omega, by omega⟩ (x1 := 16) ⟨by omega, by omega⟩ (tk := nz1380) ((st_ne (Or.inl (by decide))).trans enz1380) ⟨by omega, by omega⟩ (nb := nz1381) ((st_ne (Or.inl (by decide))).trans enz1381) ⟨by omega, by omega⟩ (by omega) (IvR.to hIN137 (a := 153) (k := 2) (x := z138) (show ivr 153 2 = ((-99), 300) from rfl) ⟨by omega, by omega⟩ ⟨by decide, by decide, by decide, fun q9 => absurd q9 (by decide)⟩)) gv_X12_227 hv_X12_needs ⟨(Nat.le_of_ble_eq_true rfl), (Nat.le_of_ble_eq_true rfl)⟩ hl.1 rfl (Nat.le_of_ble_eq_true rfl) ⟨Nat.zero_le _, Nat.zero_le _⟩ dX12_readsRule_165 (fun r145 N146 H locs hp w => ?_)
      obtain ⟨z147, rfl, bz147, ⟨nz1470, nz1471, enz1470, enz1471, xz147⟩, hIN146, hFN146⟩ := hp
      have hGN146 := Fr.tr (Fr.to hGN137 (by first | decide | (dsimp only; first | done | decide | omega) | omega)) hFN146 (S := (fun b9 k9 => (b9 = 146 ∧ k9 = 11) ∨ (b9 = 146 ∧ k9 = 13) ∨ (b9 = 146 ∧ k9 = 14) ∨ (b9 = 146 ∧ k9 = 15) ∨ (b9 = 146 ∧ k9 = 16) ∨ (b9 = 146 ∧ k9 = 9) ∨ b9 = 153)) (fun b k h => by (try dsimp only at h ⊢); rcases h with ⟨rfl, rfl⟩ | ⟨rfl, rfl⟩ | ⟨rfl, rfl⟩ | ⟨rfl, rfl⟩ | ⟨rfl, rfl⟩ | ⟨rfl, rfl⟩ <;> first | decide | omega)
      have kn148 : N146.1 153 0 = zI 2 := (hFN146 153 0 (by first | decide | (dsimp only; first | done | decide | omega) | omega)).trans ((st_ne (Or.inr (by decide))).trans kn139)
      have kn149 : N146.1 153 2 = zI z138 := (hFN146 153 2 (by first | decide | (dsimp only; first | done | decide | omega) | omega)).trans (st_at)
      refine g_iast F w (a := 153) rfl (j := 4) ⟨by decide, by decide⟩ (by omega) dX12_readsRule_168 (fun H locs w => ?_)
      refine lv_iload_n hx hb dX12_readsRule_169 rfl (lv_at hl 0 rfl) ?_
      refine lv_iconst (v := zI 3) hx hb dX12_readsRule_170 rfl ?_
      refine z_icmp_eq (tgt := 180) hx hb (by omega) (by omega) dX12_readsRule_171 (by decide) (fun c150 => False.elim (by omega)) (fun c150 => ?_)
      refine lv_iload_n hx hb dX12_readsRule_174 rfl (lv_at hl 0 rfl) ?_
      refine lv_bipush (v := zI 8) hx hb dX12_readsRule_175 (by decide) ?_
      refine z_icmp_ne (tgt := 194) hx hb (by omega) (by omega) dX12_readsRule_177 (by decide) (fun c151 => ?_) (fun c151 => False.elim (by omega))
      refine lv_iload_n hx hb dX12_readsRule_194 rfl (lv_at hl 0 rfl) ?_
      refine lv_iconst (v := zI 1) hx hb dX12_readsRule_195 rfl ?_
      refine z_icmp_ne (tgt := 209) hx hb (by omega) (by omega) dX12_readsRule_196 (by decide) (fun c152 => ?_) (fun c152 => False.elim (by omega))
      obtain ⟨z168, bz168, ez168⟩ := IvR.ld (k := 3) (IvR.to hIN146 (a := 153) (k := 4) (x := z147) (show ivr 153 4 = ((-99), 300) from rfl) ⟨by omega, by omega⟩ ⟨by decide, by decide, by decide, fun q9 => absurd q9 (by decide)⟩) (show ivr 153 3 = (-99, 300) from rfl) (by decide)
      exact j209 _ 2 nz1470 nz1471 H locs ls w hl ⟨by omega, by omega⟩ ((st_ne (Or.inl (by decide))).trans enz1470) ⟨by omega, by omega⟩ ((st_ne (Or.inl (by decide))).trans enz1471) ⟨by omega, by omega⟩ (by omega) (fun h8 => by have h9 := (zI_eq (a := 2) (b := 8) (by constructor <;> omega) (by constructor <;> omega)).mp (((st_ne (Or.inr (by decide))).trans kn148).symm.trans h8); exact ⟨z168, by omega, by omega, ez168⟩) (IvR.to hIN146 (a := 153) (k := 4) (x := z147) (show ivr 153 4 = ((-99), 300) from rfl) ⟨by omega, by omega⟩ ⟨by decide, by decide, by decide, fun q9 => absurd q9 (by decide)⟩) (Fr.to hGN146 (by first | decide | (dsimp only; first | done | decide | omega) | omega))
    · refine lv_istore_n (lv' := [(1, .int (zI 3)), (0, .ref (B + 146))]) hx hb dX12_readsRule_63 rfl hl (by decide) rfl (fun ls hl => ?_)
      refine lv_aload_n hx hb dX12_readsRule_64 rfl (lv_at hl 1 rfl) ?_
      refine f_12_17 F w (a := 146) rfl tb_676 dX12_readsRule_65 ?_
      refine lv_iconst (v := zI 0) hx hb dX12_readsRule_68 rfl ?_
      refine lv_iload_n hx hb dX12_readsRule_69 rfl (lv_at hl 0 rfl) ?_
      refine g_iast F w (a := 153) rfl (j := 0) ⟨by decide, by decide⟩ (by omega) dX12_readsRule_70 (fun H locs w => ?_)
      refine lv_iload_n hx hb dX12_readsRule_71 rfl (lv_at hl 0 rfl) ?_
      refine lv_bipush (v := zI 8) hx hb dX12_readsRule_72 (by decide) ?_
      refine z_icmp_ne (tgt := 90) hx hb (by omega) (by omega) dX12_readsRule_74 (by decide) (fun c210 => ?_) (fun c210 => False.elim (by omega))
      refine lv_iload_n hx hb dX12_readsRule_90 rfl (lv_at hl 0 rfl) ?_
      refine z_if_eq (tgt := 119) hx hb (by omega) dX12_readsRule_91 (by decide) (fun c211 => False.elim (by omega)) (fun c211 => ?_)
      refine lv_aload_n hx hb dX12_readsRule_94 rfl (lv_at hl 1 rfl) ?_
      refine f_12_17 F w (a := 146) rfl tb_676 dX12_readsRule_95 ?_
      refine lv_iconst (v := zI 2) hx hb dX12_readsRule_98 rfl ?_
      refine lv_aload_n hx hb dX12_readsRule_99 rfl (lv_at hl 1 rfl) ?_
      refine lv_bipush (v := zI 11) hx hb dX12_readsRule_100 (by decide) ?_
      refine lv_iload_n hx hb dX12_readsRule_102 rfl (lv_at hl 0 rfl) ?_
      refine lv_bipush (v := zI 9) hx hb dX12_readsRule_103 (by decide) ?_
      refine z_icmp_ne (tgt := 113) hx hb (by omega) (by omega) dX12_readsRule_105 (by decide) (fun c212 => ?_) (fun c212 => False.elim (by omega))
      refine lv_bipush (v := zI 14) hx hb dX12_readsRule_113 (by decide) ?_
      refine k_Vi F w (As := [.int (zI 11), .int (zI 14)]) (rest := [.int (zI 2), .ref (B + 153)]) (a := 146) (kd_lt (a := 146) (show kd 146 = (12, 0, 0) from rfl) (by decide)) (sh_12 rfl _ _) rfl (q_X12_needs (x := 11) ⟨by omega, by omega⟩ (x1 := 14) ⟨by omega, by omega⟩ (tk := nz80) ((st_ne (Or.inl (by decide))).trans enz80) ⟨by omega, by omega⟩ (nb := nz81) ((st_ne (Or.inl (by decide))).trans enz81) ⟨by omega, by omega⟩ (by omega) (IvR.to hIN7 (a := 153) (k := 0) (x := 3) (show ivr 153 0 = ((-99), 300) from rfl) ⟨by omega, by omega⟩ ⟨by decide, by decide, by decide, fun q9 => absurd q9 (by decide)⟩)) gv_X12_227 hv_X12_needs ⟨(Nat.le_of_ble_eq_true rfl), (Nat.le_of_ble_eq_true rfl)⟩ hl.1 rfl (Nat.le_of_ble_eq_true rfl) ⟨Nat.zero_le _, Nat.zero_le _⟩ dX12_readsRule_115 (fun r213 N214 H locs hp w => ?_)
      obtain ⟨z215, rfl, bz215, ⟨nz2150, nz2151, enz2150, enz2151, xz215⟩, hIN214, hFN214⟩ := hp
      have hGN214 := Fr.tr (Fr.to hGN7 (by first | decide | (dsimp only; first | done | decide | omega) | omega)) hFN214 (S := (fun b9 k9 => (b9 = 146 ∧ k9 = 11) ∨ (b9 = 146 ∧ k9 = 13) ∨ (b9 = 146 ∧ k9 = 14) ∨ (b9 = 146 ∧ k9 = 15) ∨ (b9 = 146 ∧ k9 = 16) ∨ (b9 = 146 ∧ k9 = 9) ∨ b9 = 153)) (fun b k h => by (try dsimp only at h ⊢); rcases h with ⟨rfl, rfl⟩ | ⟨rfl, rfl⟩ | ⟨rfl, rfl⟩ | ⟨rfl, rfl⟩ | ⟨rfl, rfl⟩ | ⟨rfl, rfl⟩ <;> first | decide | omega)
      have kn216 : N214.1 153 0 = zI 3 := (hFN214 153 0 (by first | decide | (dsimp only; first | done | decide | omega) | omega)).trans (st_at)
      refine g_iast F w (a := 153) rfl (j := 2) ⟨by decide, by decide⟩ (by omega) dX12_readsRule_118 (fun H locs w => ?_)
      refine lv_iload_n hx hb dX12_readsRule_119 rfl (lv_at hl 0 rfl) ?_
      refine lv_bipush (v := zI 7) hx hb dX12_readsRule_120 (by decide) ?_
      refine z_icmp_ne (tgt := 148) hx hb (by omega) (by omega) dX12_readsRule_122 (by decide) (fun c217 => ?_) (fun c217 => False.elim (by omega))
      refine lv_iload_n hx hb dX12_readsRule_148 rfl (lv_at hl 0 rfl) ?_
      refine k_Si F w (As := [.int (zI 3)]) (rest := []) (q_X12_hasSide (x := 3) ⟨by omega, by omega⟩  (IvR.to hIN214 (a := 153) (k := 2) (x := z215) (show ivr 153 2 = ((-99), 300) from rfl) ⟨by omega, by omega⟩ ⟨by decide, by decide, by decide, fun q9 => absurd q9 (by decide)⟩)) gs_X12_137 hs_X12_hasSide ⟨(Nat.le_of_ble_eq_true rfl), (Nat.le_of_ble_eq_true rfl)⟩ hl.1 rfl (Nat.le_of_ble_eq_true rfl) ⟨Nat.zero_le _, Nat.zero_le _⟩ dX12_readsRule_149 (fun r218 N219 H locs hp w => ?_)
      obtain ⟨z220, rfl, bz220, xz220, hMN219⟩ := hp
      rw [hMN219] at w
      refine z_if_eq (tgt := 169) hx hb (by omega) dX12_readsRule_152 (by decide) (fun c221 => ?_) (fun c221 => False.elim (by omega))
      refine lv_iload_n hx hb dX12_readsRule_169 rfl (lv_at hl 0 rfl) ?_
      refine lv_iconst (v := zI 3) hx hb dX12_readsRule_170 rfl ?_
      refine z_icmp_eq (tgt := 180) hx hb (by omega) (by omega) dX12_readsRule_171 (by decide) (fun c222 => ?_) (fun c222 => False.elim (by omega))
      refine lv_aload_n hx hb dX12_readsRule_180 rfl (lv_at hl 1 rfl) ?_
      refine f_12_17 F w (a := 146) rfl tb_676 dX12_readsRule_181 ?_
      refine lv_iconst (v := zI 4) hx hb dX12_readsRule_184 rfl ?_
      refine lv_aload_n hx hb dX12_readsRule_185 rfl (lv_at hl 1 rfl) ?_
      refine lv_bipush (v := zI 17) hx hb dX12_readsRule_186 (by decide) ?_
      refine lv_bipush (v := zI 18) hx hb dX12_readsRule_188 (by decide) ?_
      refine k_Vi F w (As := [.int (zI 17), .int (zI 18)]) (rest := [.int (zI 4), .ref (B + 153)]) (a := 146) (kd_lt (a := 146) (show kd 146 = (12, 0, 0) from rfl) (by decide)) (sh_12 rfl _ _) rfl (q_X12_needs (x := 17) ⟨by omega, by omega⟩ (x1 := 18) ⟨by omega, by omega⟩ (tk := nz2150) ((st_ne (Or.inl (by decide))).trans enz2150) ⟨by omega, by omega⟩ (nb := nz2151) ((st_ne (Or.inl (by decide))).trans enz2151) ⟨by omega, by omega⟩ (by omega) (IvR.to hIN214 (a := 153) (k := 2) (x := z215) (show ivr 153 2 = ((-99), 300) from rfl) ⟨by omega, by omega⟩ ⟨by decide, by decide, by decide, fun q9 => absurd q9 (by decide)⟩)) gv_X12_227 hv_X12_needs ⟨(Nat.le_of_ble_eq_true rfl), (Nat.le_of_ble_eq_true rfl)⟩ hl.1 rfl (Nat.le_of_ble_eq_true rfl) ⟨Nat.zero_le _, Nat.zero_le _⟩ dX12_readsRule_190 (fun r223 N224 H locs hp w => ?_)
      obtain ⟨z225, rfl, bz225, ⟨nz2250, nz2251, enz2250, enz2251, xz225⟩, hIN224, hFN224⟩ := hp
      have hGN224 := Fr.tr (Fr.to hGN214 (by first | decide | (dsimp only; first | done | decide | omega) | omega)) hFN224 (S := (fun b9 k9 => (b9 = 146 ∧ k9 = 11) ∨ (b9 = 146 ∧ k9 = 13) ∨ (b9 = 146 ∧ k9 = 14) ∨ (b9 = 146 ∧ k9 = 15) ∨ (b9 = 146 ∧ k9 = 16) ∨ (b9 = 146 ∧ k9 = 9) ∨ b9 = 153)) (fun b k h => by (try dsimp only at h ⊢); rcases h with ⟨rfl, rfl⟩ | ⟨rfl, rfl⟩ | ⟨rfl, rfl⟩ | ⟨rfl, rfl⟩ | ⟨rfl, rfl⟩ | ⟨rfl, rfl⟩ <;> first | decide | omega)
      have kn226 : N224.1 153 0 = zI 3 := (hFN224 153 0 (by first | decide | (dsimp only; first | done | decide | omega) | omega)).trans ((st_ne (Or.inr (by decide))).trans kn216)
      have kn227 : N224.1 153 2 = zI z215 := (hFN224 153 2 (by first | decide | (dsimp only; first | done | decide | omega) | omega)).trans (st_at)
      refine g_iast F w (a := 153) rfl (j := 4) ⟨by decide, by decide⟩ (by omega) dX12_readsRule_193 (fun H locs w => ?_)
      refine lv_iload_n hx hb dX12_readsRule_194 rfl (lv_at hl 0 rfl) ?_
      refine lv_iconst (v := zI 1) hx hb dX12_readsRule_195 rfl ?_
      refine z_icmp_ne (tgt := 209) hx hb (by omega) (by omega) dX12_readsRule_196 (by decide) (fun c228 => ?_) (fun c228 => False.elim (by omega))
      obtain ⟨z244, bz244, ez244⟩ := IvR.ld (k := 3) (IvR.to hIN224 (a := 153) (k := 4) (x := z225) (show ivr 153 4 = ((-99), 300) from rfl) ⟨by omega, by omega⟩ ⟨by decide, by decide, by decide, fun q9 => absurd q9 (by decide)⟩) (show ivr 153 3 = (-99, 300) from rfl) (by decide)
      exact j209 _ 3 nz2250 nz2251 H locs ls w hl ⟨by omega, by omega⟩ ((st_ne (Or.inl (by decide))).trans enz2250) ⟨by omega, by omega⟩ ((st_ne (Or.inl (by decide))).trans enz2251) ⟨by omega, by omega⟩ (by omega) (fun h8 => by have h9 := (zI_eq (a := 3) (b := 8) (by constructor <;> omega) (by constructor <;> omega)).mp (((st_ne (Or.inr (by decide))).trans kn226).symm.trans h8); exact ⟨z244, by omega, by omega, ez244⟩) (IvR.to hIN224 (a := 153) (k := 4) (x := z225) (show ivr 153 4 = ((-99), 300) from rfl) ⟨by omega, by omega⟩ ⟨by decide, by decide, by decide, fun q9 => absurd q9 (by decide)⟩) (Fr.to hGN224 (by first | decide | (dsimp only; first | done | decide | omega) | omega))
    · refine lv_istore_n (lv' := [(1, .int (zI 4)), (0, .ref (B + 146))]) hx hb dX12_readsRule_63 rfl hl (by decide) rfl (fun ls hl => ?_)
      refine lv_aload_n hx hb dX12_readsRule_64 rfl (lv_at hl 1 rfl) ?_
      refine f_12_17 F w (a := 146) rfl tb_676 dX12_readsRule_65 ?_
      refine lv_iconst (v := zI 0) hx hb dX12_readsRule_68 rfl ?_
      refine lv_iload_n hx hb dX12_readsRule_69 rfl (lv_at hl 0 rfl) ?_
      refine g_iast F w (a := 153) rfl (j := 0) ⟨by decide, by decide⟩ (by omega) dX12_readsRule_70 (fun H locs w => ?_)
      refine lv_iload_n hx hb dX12_readsRule_71 rfl (lv_at hl 0 rfl) ?_
      refine lv_bipush (v := zI 8) hx hb dX12_readsRule_72 (by decide) ?_
      refine z_icmp_ne (tgt := 90) hx hb (by omega) (by omega) dX12_readsRule_74 (by decide) (fun c286 => ?_) (fun c286 => False.elim (by omega))
      refine lv_iload_n hx hb dX12_readsRule_90 rfl (lv_at hl 0 rfl) ?_
      refine z_if_eq (tgt := 119) hx hb (by omega) dX12_readsRule_91 (by decide) (fun c287 => False.elim (by omega)) (fun c287 => ?_)
      refine lv_aload_n hx hb dX12_readsRule_94 rfl (lv_at hl 1 rfl) ?_
      refine f_12_17 F w (a := 146) rfl tb_676 dX12_readsRule_95 ?_
      refine lv_iconst (v := zI 2) hx hb dX12_readsRule_98 rfl ?_
      refine lv_aload_n hx hb dX12_readsRule_99 rfl (lv_at hl 1 rfl) ?_
      refine lv_bipush (v := zI 11) hx hb dX12_readsRule_100 (by decide) ?_
      refine lv_iload_n hx hb dX12_readsRule_102 rfl (lv_at hl 0 rfl) ?_
      refine lv_bipush (v := zI 9) hx hb dX12_readsRule_103 (by decide) ?_
      refine z_icmp_ne (tgt := 113) hx hb (by omega) (by omega) dX12_readsRule_105 (by decide) (fun c288 => ?_) (fun c288 => False.elim (by omega))
      refine lv_bipush (v := zI 14) hx hb dX12_readsRule_113 (by decide) ?_
      refine k_Vi F w (As := [.int (zI 11), .int (zI 14)]) (rest := [.int (zI 2), .ref (B + 153)]) (a := 146) (kd_lt (a := 146) (show kd 146 = (12, 0, 0) from rfl) (by decide)) (sh_12 rfl _ _) rfl (q_X12_needs (x := 11) ⟨by omega, by omega⟩ (x1 := 14) ⟨by omega, by omega⟩ (tk := nz80) ((st_ne (Or.inl (by decide))).trans enz80) ⟨by omega, by omega⟩ (nb := nz81) ((st_ne (Or.inl (by decide))).trans enz81) ⟨by omega, by omega⟩ (by omega) (IvR.to hIN7 (a := 153) (k := 0) (x := 4) (show ivr 153 0 = ((-99), 300) from rfl) ⟨by omega, by omega⟩ ⟨by decide, by decide, by decide, fun q9 => absurd q9 (by decide)⟩)) gv_X12_227 hv_X12_needs ⟨(Nat.le_of_ble_eq_true rfl), (Nat.le_of_ble_eq_true rfl)⟩ hl.1 rfl (Nat.le_of_ble_eq_true rfl) ⟨Nat.zero_le _, Nat.zero_le _⟩ dX12_readsRule_115 (fun r289 N290 H locs hp w => ?_)
      obtain ⟨z291, rfl, bz291, ⟨nz2910, nz2911, enz2910, enz2911, xz291⟩, hIN290, hFN290⟩ := hp
      have hGN290 := Fr.tr (Fr.to hGN7 (by first | decide | (dsimp only; first | done | decide | omega) | omega)) hFN290 (S := (fun b9 k9 => (b9 = 146 ∧ k9 = 11) ∨ (b9 = 146 ∧ k9 = 13) ∨ (b9 = 146 ∧ k9 = 14) ∨ (b9 = 146 ∧ k9 = 15) ∨ (b9 = 146 ∧ k9 = 16) ∨ (b9 = 146 ∧ k9 = 9) ∨ b9 = 153)) (fun b k h => by (try dsimp only at h ⊢); rcases h with ⟨rfl, rfl⟩ | ⟨rfl, rfl⟩ | ⟨rfl, rfl⟩ | ⟨rfl, rfl⟩ | ⟨rfl, rfl⟩ | ⟨rfl, rfl⟩ <;> first | decide | omega)
      have kn292 : N290.1 153 0 = zI 4 := (hFN290 153 0 (by first | decide | (dsimp only; first | done | decide | omega) | omega)).trans (st_at)
      refine g_iast F w (a := 153) rfl (j := 2) ⟨by decide, by decide⟩ (by omega) dX12_readsRule_118 (fun H locs w => ?_)
      refine lv_iload_n hx hb dX12_readsRule_119 rfl (lv_at hl 0 rfl) ?_
      refine lv_bipush (v := zI 7) hx hb dX12_readsRule_120 (by decide) ?_
      refine z_icmp_ne (tgt := 148) hx hb (by omega) (by omega) dX12_readsRule_122 (by decide) (fun c293 => ?_) (fun c293 => False.elim (by omega))
      refine lv_iload_n hx hb dX12_readsRule_148 rfl (lv_at hl 0 rfl) ?_
      refine k_Si F w (As := [.int (zI 4)]) (rest := []) (q_X12_hasSide (x := 4) ⟨by omega, by omega⟩  (IvR.to hIN290 (a := 153) (k := 2) (x := z291) (show ivr 153 2 = ((-99), 300) from rfl) ⟨by omega, by omega⟩ ⟨by decide, by decide, by decide, fun q9 => absurd q9 (by decide)⟩)) gs_X12_137 hs_X12_hasSide ⟨(Nat.le_of_ble_eq_true rfl), (Nat.le_of_ble_eq_true rfl)⟩ hl.1 rfl (Nat.le_of_ble_eq_true rfl) ⟨Nat.zero_le _, Nat.zero_le _⟩ dX12_readsRule_149 (fun r294 N295 H locs hp w => ?_)
      obtain ⟨z296, rfl, bz296, xz296, hMN295⟩ := hp
      rw [hMN295] at w
      refine z_if_eq (tgt := 169) hx hb (by omega) dX12_readsRule_152 (by decide) (fun c297 => False.elim (by omega)) (fun c297 => ?_)
      refine lv_aload_n hx hb dX12_readsRule_155 rfl (lv_at hl 1 rfl) ?_
      refine f_12_17 F w (a := 146) rfl tb_676 dX12_readsRule_156 ?_
      refine lv_iconst (v := zI 4) hx hb dX12_readsRule_159 rfl ?_
      refine lv_aload_n hx hb dX12_readsRule_160 rfl (lv_at hl 1 rfl) ?_
      refine lv_bipush (v := zI 15) hx hb dX12_readsRule_161 (by decide) ?_
      refine lv_bipush (v := zI 16) hx hb dX12_readsRule_163 (by decide) ?_
      refine k_Vi F w (As := [.int (zI 15), .int (zI 16)]) (rest := [.int (zI 4), .ref (B + 153)]) (a := 146) (kd_lt (a := 146) (show kd 146 = (12, 0, 0) from rfl) (by decide)) (sh_12 rfl _ _) rfl (q_X12_needs (x := 15) ⟨by omega, by omega⟩ (x1 := 16) ⟨by omega, by omega⟩ (tk := nz2910) ((st_ne (Or.inl (by decide))).trans enz2910) ⟨by omega, by omega⟩ (nb := nz2911) ((st_ne (Or.inl (by decide))).trans enz2911) ⟨by omega, by omega⟩ (by omega) (IvR.to hIN290 (a := 153) (k := 2) (x := z291) (show ivr 153 2 = ((-99), 300) from rfl) ⟨by omega, by omega⟩ ⟨by decide, by decide, by decide, fun q9 => absurd q9 (by decide)⟩)) gv_X12_227 hv_X12_needs ⟨(Nat.le_of_ble_eq_true rfl), (Nat.le_of_ble_eq_true rfl)⟩ hl.1 rfl (Nat.le_of_ble_eq_true rfl) ⟨Nat.zero_le _, Nat.zero_le _⟩ dX12_readsRule_165 (fun r298 N299 H locs hp w => ?_)
      obtain ⟨z300, rfl, bz300, ⟨nz3000, nz3001, enz3000, enz3001, xz300⟩, hIN299, hFN299⟩ := hp
      have hGN299 := Fr.tr (Fr.to hGN290 (by first | decide | (dsimp only; first | done | decide | omega) | omega)) hFN299 (S := (fun b9 k9 => (b9 = 146 ∧ k9 = 11) ∨ (b9 = 146 ∧ k9 = 13) ∨ (b9 = 146 ∧ k9 = 14) ∨ (b9 = 146 ∧ k9 = 15) ∨ (b9 = 146 ∧ k9 = 16) ∨ (b9 = 146 ∧ k9 = 9) ∨ b9 = 153)) (fun b k h => by (try dsimp only at h ⊢); rcases h with ⟨rfl, rfl⟩ | ⟨rfl, rfl⟩ | ⟨rfl, rfl⟩ | ⟨rfl, rfl⟩ | ⟨rfl, rfl⟩ | ⟨rfl, rfl⟩ <;> first | decide | omega)
      have kn301 : N299.1 153 0 = zI 4 := (hFN299 153 0 (by first | decide | (dsimp only; first | done | decide | omega) | omega)).trans ((st_ne (Or.inr (by decide))).trans kn292)
      have kn302 : N299.1 153 2 = zI z291 := (hFN299 153 2 (by first | decide | (dsimp only; first | done | decide | omega) | omega)).trans (st_at)
      refine g_iast F w (a := 153) rfl (j := 4) ⟨by decide, by decide⟩ (by omega) dX12_readsRule_168 (fun H locs w => ?_)
      refine lv_iload_n hx hb dX12_readsRule_169 rfl (lv_at hl 0 rfl) ?_
      refine lv_iconst (v := zI 3) hx hb dX12_readsRule_170 rfl ?_
      refine z_icmp_eq (tgt := 180) hx hb (by omega) (by omega) dX12_readsRule_171 (by decide) (fun c303 => False.elim (by omega)) (fun c303 => ?_)
      refine lv_iload_n hx hb dX12_readsRule_174 rfl (lv_at hl 0 rfl) ?_
      refine lv_bipush (v := zI 8) hx hb dX12_readsRule_175 (by decide) ?_
      refine z_icmp_ne (tgt := 194) hx hb (by omega) (by omega) dX12_readsRule_177 (by decide) (fun c304 => ?_) (fun c304 => False.elim (by omega))
      refine lv_iload_n hx hb dX12_readsRule_194 rfl (lv_at hl 0 rfl) ?_
      refine lv_iconst (v := zI 1) hx hb dX12_readsRule_195 rfl ?_
      refine z_icmp_ne (tgt := 209) hx hb (by omega) (by omega) dX12_readsRule_196 (by decide) (fun c305 => ?_) (fun c305 => False.elim (by omega))
      obtain ⟨z321, bz321, ez321⟩ := IvR.ld (k := 3) (IvR.to hIN299 (a := 153) (k := 4) (x := z300) (show ivr 153 4 = ((-99), 300) from rfl) ⟨by omega, by omega⟩ ⟨by decide, by decide, by decide, fun q9 => absurd q9 (by decide)⟩) (show ivr 153 3 = (-99, 300) from rfl) (by decide)
      exact j209 _ 4 nz3000 nz3001 H locs ls w hl ⟨by omega, by omega⟩ ((st_ne (Or.inl (by decide))).trans enz3000) ⟨by omega, by omega⟩ ((st_ne (Or.inl (by decide))).trans enz3001) ⟨by omega, by omega⟩ (by omega) (fun h8 => by have h9 := (zI_eq (a := 4) (b := 8) (by constructor <;> omega) (by constructor <;> omega)).mp (((st_ne (Or.inr (by decide))).trans kn301).symm.trans h8); exact ⟨z321, by omega, by omega, ez321⟩) (IvR.to hIN299 (a := 153) (k := 4) (x := z300) (show ivr 153 4 = ((-99), 300) from rfl) ⟨by omega, by omega⟩ ⟨by decide, by decide, by decide, fun q9 => absurd q9 (by decide)⟩) (Fr.to hGN299 (by first | decide | (dsimp only; first | done | decide | omega) | omega))
    · refine lv_istore_n (lv' := [(1, .int (zI 5)), (0, .ref (B + 146))]) hx hb dX12_readsRule_63 rfl hl (by decide) rfl (fun ls hl => ?_)
      refine lv_aload_n hx hb dX12_readsRule_64 rfl (lv_at hl 1 rfl) ?_
      refine f_12_17 F w (a := 146) rfl tb_676 dX12_readsRule_65 ?_
      refine lv_iconst (v := zI 0) hx hb dX12_readsRule_68 rfl ?_
      refine lv_iload_n hx hb dX12_readsRule_69 rfl (lv_at hl 0 rfl) ?_
      refine g_iast F w (a := 153) rfl (j := 0) ⟨by decide, by decide⟩ (by omega) dX12_readsRule_70 (fun H locs w => ?_)
      refine lv_iload_n hx hb dX12_readsRule_71 rfl (lv_at hl 0 rfl) ?_
      refine lv_bipush (v := zI 8) hx hb dX12_readsRule_72 (by decide) ?_
      refine z_icmp_ne (tgt := 90) hx hb (by omega) (by omega) dX12_readsRule_74 (by decide) (fun c363 => ?_) (fun c363 => False.elim (by omega))
      refine lv_iload_n hx hb dX12_readsRule_90 rfl (lv_at hl 0 rfl) ?_
      refine z_if_eq (tgt := 119) hx hb (by omega) dX12_readsRule_91 (by decide) (fun c364 => False.elim (by omega)) (fun c364 => ?_)
      refine lv_aload_n hx hb dX12_readsRule_94 rfl (lv_at hl 1 rfl) ?_
      refine f_12_17 F w (a := 146) rfl tb_676 dX12_readsRule_95 ?_
      refine lv_iconst (v := zI 2) hx hb dX12_readsRule_98 rfl ?_
      refine lv_aload_n hx hb dX12_readsRule_99 rfl (lv_at hl 1 rfl) ?_
      refine lv_bipush (v := zI 11) hx hb dX12_readsRule_100 (by decide) ?_
      refine lv_iload_n hx hb dX12_readsRule_102 rfl (lv_at hl 0 rfl) ?_
      refine lv_bipush (v := zI 9) hx hb dX12_readsRule_103 (by decide) ?_
      refine z_icmp_ne (tgt := 113) hx hb (by omega) (by omega) dX12_readsRule_105 (by decide) (fun c365 => ?_) (fun c365 => False.elim (by omega))
      refine lv_bipush (v := zI 14) hx hb dX12_readsRule_113 (by decide) ?_
      refine k_Vi F w (As := [.int (zI 11), .int (zI 14)]) (rest := [.int (zI 2), .ref (B + 153)]) (a := 146) (kd_lt (a := 146) (show kd 146 = (12, 0, 0) from rfl) (by decide)) (sh_12 rfl _ _) rfl (q_X12_needs (x := 11) ⟨by omega, by omega⟩ (x1 := 14) ⟨by omega, by omega⟩ (tk := nz80) ((st_ne (Or.inl (by decide))).trans enz80) ⟨by omega, by omega⟩ (nb := nz81) ((st_ne (Or.inl (by decide))).trans enz81) ⟨by omega, by omega⟩ (by omega) (IvR.to hIN7 (a := 153) (k := 0) (x := 5) (show ivr 153 0 = ((-99), 300) from rfl) ⟨by omega, by omega⟩ ⟨by decide, by decide, by decide, fun q9 => absurd q9 (by decide)⟩)) gv_X12_227 hv_X12_needs ⟨(Nat.le_of_ble_eq_true rfl), (Nat.le_of_ble_eq_true rfl)⟩ hl.1 rfl (Nat.le_of_ble_eq_true rfl) ⟨Nat.zero_le _, Nat.zero_le _⟩ dX12_readsRule_115 (fun r366 N367 H locs hp w => ?_)
      obtain ⟨z368, rfl, bz368, ⟨nz3680, nz3681, enz3680, enz3681, xz368⟩, hIN367, hFN367⟩ := hp
      have hGN367 := Fr.tr (Fr.to hGN7 (by first | decide | (dsimp only; first | done | decide | omega) | omega)) hFN367 (S := (fun b9 k9 => (b9 = 146 ∧ k9 = 11) ∨ (b9 = 146 ∧ k9 = 13) ∨ (b9 = 146 ∧ k9 = 14) ∨ (b9 = 146 ∧ k9 = 15) ∨ (b9 = 146 ∧ k9 = 16) ∨ (b9 = 146 ∧ k9 = 9) ∨ b9 = 153)) (fun b k h => by (try dsimp only at h ⊢); rcases h with ⟨rfl, rfl⟩ | ⟨rfl, rfl⟩ | ⟨rfl, rfl⟩ | ⟨rfl, rfl⟩ | ⟨rfl, rfl⟩ | ⟨rfl, rfl⟩ <;> first | decide | omega)
      have kn369 : N367.1 153 0 = zI 5 := (hFN367 153 0 (by first | decide | (dsimp only; first | done | decide | omega) | omega)).trans (st_at)
      refine g_iast F w (a := 153) rfl (j := 2) ⟨by decide, by decide⟩ (by omega) dX12_readsRule_118 (fun H locs w => ?_)
      refine lv_iload_n hx hb dX12_readsRule_119 rfl (lv_at hl 0 rfl) ?_
      refine lv_bipush (v := zI 7) hx hb dX12_readsRule_120 (by decide) ?_
      refine z_icmp_ne (tgt := 148) hx hb (by omega) (by omega) dX12_readsRule_122 (by decide) (fun c370 => ?_) (fun c370 => False.elim (by omega))
      refine lv_iload_n hx hb dX12_readsRule_148 rfl (lv_at hl 0 rfl) ?_
      refine k_Si F w (As := [.int (zI 5)]) (rest := []) (q_X12_hasSide (x := 5) ⟨by omega, by omega⟩  (IvR.to hIN367 (a := 153) (k := 2) (x := z368) (show ivr 153 2 = ((-99), 300) from rfl) ⟨by omega, by omega⟩ ⟨by decide, by decide, by decide, fun q9 => absurd q9 (by decide)⟩)) gs_X12_137 hs_X12_hasSide ⟨(Nat.le_of_ble_eq_true rfl), (Nat.le_of_ble_eq_true rfl)⟩ hl.1 rfl (Nat.le_of_ble_eq_true rfl) ⟨Nat.zero_le _, Nat.zero_le _⟩ dX12_readsRule_149 (fun r371 N372 H locs hp w => ?_)
      obtain ⟨z373, rfl, bz373, xz373, hMN372⟩ := hp
      rw [hMN372] at w
      refine z_if_eq (tgt := 169) hx hb (by omega) dX12_readsRule_152 (by decide) (fun c374 => ?_) (fun c374 => False.elim (by omega))
      refine lv_iload_n hx hb dX12_readsRule_169 rfl (lv_at hl 0 rfl) ?_
      refine lv_iconst (v := zI 3) hx hb dX12_readsRule_170 rfl ?_
      refine z_icmp_eq (tgt := 180) hx hb (by omega) (by omega) dX12_readsRule_171 (by decide) (fun c375 => False.elim (by omega)) (fun c375 => ?_)
      refine lv_iload_n hx hb dX12_readsRule_174 rfl (lv_at hl 0 rfl) ?_
      refine lv_bipush (v := zI 8) hx hb dX12_readsRule_175 (by decide) ?_
      refine z_icmp_ne (tgt := 194) hx hb (by omega) (by omega) dX12_readsRule_177 (by decide) (fun c376 => ?_) (fun c376 => False.elim (by omega))
      refine lv_iload_n hx hb dX12_readsRule_194 rfl (lv_at hl 0 rfl) ?_
      refine lv_iconst (v := zI 1) hx hb dX12_readsRule_195 rfl ?_
      refine z_icmp_ne (tgt := 209) hx hb (by omega) (by omega) dX12_readsRule_196 (by decide) (fun c377 => ?_) (fun c377 => False.elim (by omega))
      obtain ⟨z392, bz392, ez392⟩ := IvR.ld (k := 3) (IvR.to hIN367 (a := 153) (k := 2) (x := z368) (show ivr 153 2 = ((-99), 300) from rfl) ⟨by omega, by omega⟩ ⟨by decide, by decide, by decide, fun q9 => absurd q9 (by decide)⟩) (show ivr 153 3 = (-99, 300) from rfl) (by decide)
      exact j209 _ 5 nz3680 nz3681 H locs ls w hl ⟨by omega, by omega⟩ ((st_ne (Or.inl (by decide))).trans enz3680) ⟨by omega, by omega⟩ ((st_ne (Or.inl (by decide))).trans enz3681) ⟨by omega, by omega⟩ (by omega) (fun h8 => by have h9 := (zI_eq (a := 5) (b := 8) (by constructor <;> omega) (by constructor <;> omega)).mp (((st_ne (Or.inr (by decide))).trans kn369).symm.trans h8); exact ⟨z392, by omega, by omega, ez392⟩) (IvR.to hIN367 (a := 153) (k := 2) (x := z368) (show ivr 153 2 = ((-99), 300) from rfl) ⟨by omega, by omega⟩ ⟨by decide, by decide, by decide, fun q9 => absurd q9 (by decide)⟩) (Fr.to hGN367 (by first | decide | (dsimp only; first | done | decide | omega) | omega))
    · refine lv_istore_n (lv' := [(1, .int (zI 6)), (0, .ref (B + 146))]) hx hb dX12_readsRule_63 rfl hl (by decide) rfl (fun ls hl => ?_)
      refine lv_aload_n hx hb dX12_readsRule_64 rfl (lv_at hl 1 rfl) ?_
      refine f_12_17 F w (a := 146) rfl tb_676 dX12_readsRule_65 ?_
      refine lv_iconst (v := zI 0) hx hb dX12_readsRule_68 rfl ?_
      refine lv_iload_n hx hb dX12_readsRule_69 rfl (lv_at hl 0 rfl) ?_
      refine g_iast F w (a := 153) rfl (j := 0) ⟨by decide, by decide⟩ (by omega) dX12_readsRule_70 (fun H locs w => ?_)
      refine lv_iload_n hx hb dX12_readsRule_71 rfl (lv_at hl 0 rfl) ?_
      refine lv_bipush (v := zI 8) hx hb dX12_readsRule_72 (by decide) ?_
      refine z_icmp_ne (tgt := 90) hx hb (by omega) (by omega) dX12_readsRule_74 (by decide) (fun c431 => ?_) (fun c431 => False.elim (by omega))
      refine lv_iload_n hx hb dX12_readsRule_90 rfl (lv_at hl 0 rfl) ?_
      refine z_if_eq (tgt := 119) hx hb (by omega) dX12_readsRule_91 (by decide) (fun c432 => False.elim (by omega)) (fun c432 => ?_)
      refine lv_aload_n hx hb dX12_readsRule_94 rfl (lv_at hl 1 rfl) ?_
      refine f_12_17 F w (a := 146) rfl tb_676 dX12_readsRule_95 ?_
      refine lv_iconst (v := zI 2) hx hb dX12_readsRule_98 rfl ?_
      refine lv_aload_n hx hb dX12_readsRule_99 rfl (lv_at hl 1 rfl) ?_
      refine lv_bipush (v := zI 11) hx hb dX12_readsRule_100 (by decide) ?_
      refine lv_iload_n hx hb dX12_readsRule_102 rfl (lv_at hl 0 rfl) ?_
      refine lv_bipush (v := zI 9) hx hb dX12_readsRule_103 (by decide) ?_
      refine z_icmp_ne (tgt := 113) hx hb (by omega) (by omega) dX12_readsRule_105 (by decide) (fun c433 => ?_) (fun c433 => False.elim (by omega))
      refine lv_bipush (v := zI 14) hx hb dX12_readsRule_113 (by decide) ?_
      refine k_Vi F w (As := [.int (zI 11), .int (zI 14)]) (rest := [.int (zI 2), .ref (B + 153)]) (a := 146) (kd_lt (a := 146) (show kd 146 = (12, 0, 0) from rfl) (by decide)) (sh_12 rfl _ _) rfl (q_X12_needs (x := 11) ⟨by omega, by omega⟩ (x1 := 14) ⟨by omega, by omega⟩ (tk := nz80) ((st_ne (Or.inl (by decide))).trans enz80) ⟨by omega, by omega⟩ (nb := nz81) ((st_ne (Or.inl (by decide))).trans enz81) ⟨by omega, by omega⟩ (by omega) (IvR.to hIN7 (a := 153) (k := 0) (x := 6) (show ivr 153 0 = ((-99), 300) from rfl) ⟨by omega, by omega⟩ ⟨by decide, by decide, by decide, fun q9 => absurd q9 (by decide)⟩)) gv_X12_227 hv_X12_needs ⟨(Nat.le_of_ble_eq_true rfl), (Nat.le_of_ble_eq_true rfl)⟩ hl.1 rfl (Nat.le_of_ble_eq_true rfl) ⟨Nat.zero_le _, Nat.zero_le _⟩ dX12_readsRule_115 (fun r434 N435 H locs hp w => ?_)
      obtain ⟨z436, rfl, bz436, ⟨nz4360, nz4361, enz4360, enz4361, xz436⟩, hIN435, hFN435⟩ := hp
      have hGN435 := Fr.tr (Fr.to hGN7 (by first | decide | (dsimp only; first | done | decide | omega) | omega)) hFN435 (S := (fun b9 k9 => (b9 = 146 ∧ k9 = 11) ∨ (b9 = 146 ∧ k9 = 13) ∨ (b9 = 146 ∧ k9 = 14) ∨ (b9 = 146 ∧ k9 = 15) ∨ (b9 = 146 ∧ k9 = 16) ∨ (b9 = 146 ∧ k9 = 9) ∨ b9 = 153)) (fun b k h => by (try dsimp only at h ⊢); rcases h with ⟨rfl, rfl⟩ | ⟨rfl, rfl⟩ | ⟨rfl, rfl⟩ | ⟨rfl, rfl⟩ | ⟨rfl, rfl⟩ | ⟨rfl, rfl⟩ <;> first | decide | omega)
      have kn437 : N435.1 153 0 = zI 6 := (hFN435 153 0 (by first | decide | (dsimp only; first | done | decide | omega) | omega)).trans (st_at)
      refine g_iast F w (a := 153) rfl (j := 2) ⟨by decide, by decide⟩ (by omega) dX12_readsRule_118 (fun H locs w => ?_)
      refine lv_iload_n hx hb dX12_readsRule_119 rfl (lv_at hl 0 rfl) ?_
      refine lv_bipush (v := zI 7) hx hb dX12_readsRule_120 (by decide) ?_
      refine z_icmp_ne (tgt := 148) hx hb (by omega) (by omega) dX12_readsRule_122 (by decide) (fun c438 => ?_) (fun c438 => False.elim (by omega))
      refine lv_iload_n hx hb dX12_readsRule_148 rfl (lv_at hl 0 rfl) ?_
      refine k_Si F w (As := [.int (zI 6)]) (rest := []) (q_X12_hasSide (x := 6) ⟨by omega, by omega⟩  (IvR.to hIN435 (a := 153) (k := 2) (x := z436) (show ivr 153 2 = ((-99), 300) from rfl) ⟨by omega, by omega⟩ ⟨by decide, by decide, by decide, fun q9 => absurd q9 (by decide)⟩)) gs_X12_137 hs_X12_hasSide ⟨(Nat.le_of_ble_eq_true rfl), (Nat.le_of_ble_eq_true rfl)⟩ hl.1 rfl (Nat.le_of_ble_eq_true rfl) ⟨Nat.zero_le _, Nat.zero_le _⟩ dX12_readsRule_149 (fun r439 N440 H locs hp w => ?_)
      obtain ⟨z441, rfl, bz441, xz441, hMN440⟩ := hp
      rw [hMN440] at w
      refine z_if_eq (tgt := 169) hx hb (by omega) dX12_readsRule_152 (by decide) (fun c442 => ?_) (fun c442 => False.elim (by omega))
      refine lv_iload_n hx hb dX12_readsRule_169 rfl (lv_at hl 0 rfl) ?_
      refine lv_iconst (v := zI 3) hx hb dX12_readsRule_170 rfl ?_
      refine z_icmp_eq (tgt := 180) hx hb (by omega) (by omega) dX12_readsRule_171 (by decide) (fun c443 => False.elim (by omega)) (fun c443 => ?_)
      refine lv_iload_n hx hb dX12_readsRule_174 rfl (lv_at hl 0 rfl) ?_
      refine lv_bipush (v := zI 8) hx hb dX12_readsRule_175 (by decide) ?_
      refine z_icmp_ne (tgt := 194) hx hb (by omega) (by omega) dX12_readsRule_177 (by decide) (fun c444 => ?_) (fun c444 => False.elim (by omega))
      refine lv_iload_n hx hb dX12_readsRule_194 rfl (lv_at hl 0 rfl) ?_
      refine lv_iconst (v := zI 1) hx hb dX12_readsRule_195 rfl ?_
      refine z_icmp_ne (tgt := 209) hx hb (by omega) (by omega) dX12_readsRule_196 (by decide) (fun c445 => ?_) (fun c445 => False.elim (by omega))
      obtain ⟨z460, bz460, ez460⟩ := IvR.ld (k := 3) (IvR.to hIN435 (a := 153) (k := 2) (x := z436) (show ivr 153 2 = ((-99), 300) from rfl) ⟨by omega, by omega⟩ ⟨by decide, by decide, by decide, fun q9 => absurd q9 (by decide)⟩) (show ivr 153 3 = (-99, 300) from rfl) (by decide)
      exact j209 _ 6 nz4360 nz4361 H locs ls w hl ⟨by omega, by omega⟩ ((st_ne (Or.inl (by decide))).trans enz4360) ⟨by omega, by omega⟩ ((st_ne (Or.inl (by decide))).trans enz4361) ⟨by omega, by omega⟩ (by omega) (fun h8 => by have h9 := (zI_eq (a := 6) (b := 8) (by constructor <;> omega) (by constructor <;> omega)).mp (((st_ne (Or.inr (by decide))).trans kn437).symm.trans h8); exact ⟨z460, by omega, by omega, ez460⟩) (IvR.to hIN435 (a := 153) (k := 2) (x := z436) (show ivr 153 2 = ((-99), 300) from rfl) ⟨by omega, by omega⟩ ⟨by decide, by decide, by decide, fun q9 => absurd q9 (by decide)⟩) (Fr.to hGN435 (by first | decide | (dsimp only; first | done | decide | omega) | omega))
    · refine lv_istore_n (lv' := [(1, .int (zI 7)), (0, .ref (B + 146))]) hx hb dX12_readsRule_63 rfl hl (by decide) rfl (fun ls hl => ?_)
      refine lv_aload_n hx hb dX12_readsRule_64 rfl (lv_at hl 1 rfl) ?_
      refine f_12_17 F w (a := 146) rfl tb_676 dX12_readsRule_65 ?_
      refine lv_iconst (v := zI 0) hx hb dX12_readsRule_68 rfl ?_
      refine lv_iload_n hx hb dX12_readsRule_69 rfl (lv_at hl 0 rfl) ?_
      refine g_iast F w (a := 153) rfl (j := 0) ⟨by decide, by decide⟩ (by omega) dX12_readsRule_70 (fun H locs w => ?_)
      refine lv_iload_n hx hb dX12_readsRule_71 rfl (lv_at hl 0 rfl) ?_
      refine lv_bipush (v := zI 8) hx hb dX12_readsRule_72 (by decide) ?_
      refine z_icmp_ne (tgt := 90) hx hb (by omega) (by omega) dX12_readsRule_74 (by decide) (fun c499 => ?_) (fun c499 => False.elim (by omega))
      refine lv_iload_n hx hb dX12_readsRule_90 rfl (lv_at hl 0 rfl) ?_
      refine z_if_eq (tgt := 119) hx hb (by omega) dX12_readsRule_91 (by decide) (fun c500 => False.elim (by omega)) (fun c500 => ?_)
      refine lv_aload_n hx hb dX12_readsRule_94 rfl (lv_at hl 1 rfl) ?_
      refine f_12_17 F w (a := 146) rfl tb_676 dX12_readsRule_95 ?_
      refine lv_iconst (v := zI 2) hx hb dX12_readsRule_98 rfl ?_
      refine lv_aload_n hx hb dX12_readsRule_99 rfl (lv_at hl 1 rfl) ?_
      refine lv_bipush (v := zI 11) hx hb dX12_readsRule_100 (by decide) ?_
      refine lv_iload_n hx hb dX12_readsRule_102 rfl (lv_at hl 0 rfl) ?_
      refine lv_bipush (v := zI 9) hx hb dX12_readsRule_103 (by decide) ?_
      refine z_icmp_ne (tgt := 113) hx hb (by omega) (by omega) dX12_readsRule_105 (by decide) (fun c501 => ?_) (fun c501 => False.elim (by omega))
      refine lv_bipush (v := zI 14) hx hb dX12_readsRule_113 (by decide) ?_
      refine k_Vi F w (As := [.int (zI 11), .int (zI 14)]) (rest := [.int (zI 2), .ref (B + 153)]) (a := 146) (kd_lt (a := 146) (show kd 146 = (12, 0, 0) from rfl) (by decide)) (sh_12 rfl _ _) rfl (q_X12_needs (x := 11) ⟨by omega, by omega⟩ (x1 := 14) ⟨by omega, by omega⟩ (tk := nz80) ((st_ne (Or.inl (by decide))).trans enz80) ⟨by omega, by omega⟩ (nb := nz81) ((st_ne (Or.inl (by decide))).trans enz81) ⟨by omega, by omega⟩ (by omega) (IvR.to hIN7 (a := 153) (k := 0) (x := 7) (show ivr 153 0 = ((-99), 300) from rfl) ⟨by omega, by omega⟩ ⟨by decide, by decide, by decide, fun q9 => absurd q9 (by decide)⟩)) gv_X12_227 hv_X12_needs ⟨(Nat.le_of_ble_eq_true rfl), (Nat.le_of_ble_eq_true rfl)⟩ hl.1 rfl (Nat.le_of_ble_eq_true rfl) ⟨Nat.zero_le _, Nat.zero_le _⟩ dX12_readsRule_115 (fun r502 N503 H locs hp w => ?_)
      obtain ⟨z504, rfl, bz504, ⟨nz5040, nz5041, enz5040, enz5041, xz504⟩, hIN503, hFN503⟩ := hp
      have hGN503 := Fr.tr (Fr.to hGN7 (by first | decide | (dsimp only; first | done | decide | omega) | omega)) hFN503 (S := (fun b9 k9 => (b9 = 146 ∧ k9 = 11) ∨ (b9 = 146 ∧ k9 = 13) ∨ (b9 = 146 ∧ k9 = 14) ∨ (b9 = 146 ∧ k9 = 15) ∨ (b9 = 146 ∧ k9 = 16) ∨ (b9 = 146 ∧ k9 = 9) ∨ b9 = 153)) (fun b k h => by (try dsimp only at h ⊢); rcases h with ⟨rfl, rfl⟩ | ⟨rfl, rfl⟩ | ⟨rfl, rfl⟩ | ⟨rfl, rfl⟩ | ⟨rfl, rfl⟩ | ⟨rfl, rfl⟩ <;> first | decide | omega)
      have kn505 : N503.1 153 0 = zI 7 := (hFN503 153 0 (by first | decide | (dsimp only; first | done | decide | omega) | omega)).trans (st_at)
      refine g_iast F w (a := 153) rfl (j := 2) ⟨by decide, by decide⟩ (by omega) dX12_readsRule_118 (fun H locs w => ?_)
      refine lv_iload_n hx hb dX12_readsRule_119 rfl (lv_at hl 0 rfl) ?_
      refine lv_bipush (v := zI 7) hx hb dX12_readsRule_120 (by decide) ?_
      refine z_icmp_ne (tgt := 148) hx hb (by omega) (by omega) dX12_readsRule_122 (by decide) (fun c506 => False.elim (by omega)) (fun c506 => ?_)
      refine lv_aload_n hx hb dX12_readsRule_125 rfl (lv_at hl 1 rfl) ?_
      refine lv_bipush (v := zI 19) hx hb dX12_readsRule_126 (by decide) ?_
      refine lv_bipush (v := zI 19) hx hb dX12_readsRule_128 (by decide) ?_
      refine k_Vi F w (As := [.int (zI 19), .int (zI 19)]) (rest := []) (a := 146) (kd_lt (a := 146) (show kd 146 = (12, 0, 0) from rfl) (by decide)) (sh_12 rfl _ _) rfl (q_X12_needs (x := 19) ⟨by omega, by omega⟩ (x1 := 19) ⟨by omega, by omega⟩ (tk := nz5040) ((st_ne (Or.inl (by decide))).trans enz5040) ⟨by omega, by omega⟩ (nb := nz5041) ((st_ne (Or.inl (by decide))).trans enz5041) ⟨by omega, by omega⟩ (by omega) (IvR.to hIN503 (a := 153) (k := 2) (x := z504) (show ivr 153 2 = ((-99), 300) from rfl) ⟨by omega, by omega⟩ ⟨by decide, by decide, by decide, fun q9 => absurd q9 (by decide)⟩)) gv_X12_227 hv_X12_needs ⟨(Nat.le_of_ble_eq_true rfl), (Nat.le_of_ble_eq_true rfl)⟩ hl.1 rfl (Nat.le_of_ble_eq_true rfl) ⟨Nat.zero_le _, Nat.zero_le _⟩ dX12_readsRule_130 (fun r507 N508 H locs hp w => ?_)
      obtain ⟨z509, rfl, bz509, ⟨nz5090, nz5091, enz5090, enz5091, xz509⟩, hIN508, hFN508⟩ := hp
      have hGN508 := Fr.tr (Fr.to hGN503 (by first | decide | (dsimp only; first | done | decide | omega) | omega)) hFN508 (S := (fun b9 k9 => (b9 = 146 ∧ k9 = 11) ∨ (b9 = 146 ∧ k9 = 13) ∨ (b9 = 146 ∧ k9 = 14) ∨ (b9 = 146 ∧ k9 = 15) ∨ (b9 = 146 ∧ k9 = 16) ∨ (b9 = 146 ∧ k9 = 9) ∨ b9 = 153)) (fun b k h => by (try dsimp only at h ⊢); rcases h with ⟨rfl, rfl⟩ | ⟨rfl, rfl⟩ | ⟨rfl, rfl⟩ | ⟨rfl, rfl⟩ | ⟨rfl, rfl⟩ | ⟨rfl, rfl⟩ <;> first | decide | omega)
      have kn510 : N508.1 153 0 = zI 7 := (hFN508 153 0 (by first | decide | (dsimp only; first | done | decide | omega) | omega)).trans ((st_ne (Or.inr (by decide))).trans kn505)
      have kn511 : N508.1 153 2 = zI z504 := (hFN508 153 2 (by first | decide | (dsimp only; first | done | decide | omega) | omega)).trans (st_at)
      refine lv_pop hx hb dX12_readsRule_133 rfl ?_
      refine lv_aload_n hx hb dX12_readsRule_134 rfl (lv_at hl 1 rfl) ?_
      refine f_12_17 F w (a := 146) rfl tb_676 dX12_readsRule_135 ?_
      refine lv_iconst (v := zI 3) hx hb dX12_readsRule_138 rfl ?_
      refine lv_aload_n hx hb dX12_readsRule_139 rfl (lv_at hl 1 rfl) ?_
      refine lv_bipush (v := zI 11) hx hb dX12_readsRule_140 (by decide) ?_
      refine lv_bipush (v := zI 13) hx hb dX12_readsRule_142 (by decide) ?_
      refine k_Vi F w (As := [.int (zI 11), .int (zI 13)]) (rest := [.int (zI 3), .ref (B + 153)]) (a := 146) (kd_lt (a := 146) (show kd 146 = (12, 0, 0) from rfl) (by decide)) (sh_12 rfl _ _) rfl (q_X12_needs (x := 11) ⟨by omega, by omega⟩ (x1 := 13) ⟨by omega, by omega⟩ (tk := nz5090) (enz5090) ⟨by omega, by omega⟩ (nb := nz5091) (enz5091) ⟨by omega, by omega⟩ (by omega) hIN508) gv_X12_227 hv_X12_needs ⟨(Nat.le_of_ble_eq_true rfl), (Nat.le_of_ble_eq_true rfl)⟩ hl.1 rfl (Nat.le_of_ble_eq_true rfl) ⟨Nat.zero_le _, Nat.zero_le _⟩ dX12_readsRule_144 (fun r512 N513 H locs hp w => ?_)
      obtain ⟨z514, rfl, bz514, ⟨nz5140, nz5141, enz5140, enz5141, xz514⟩, hIN513, hFN513⟩ := hp
      have hGN513 := Fr.tr hGN508 hFN513 (S := (fun b9 k9 => (b9 = 146 ∧ k9 = 11) ∨ (b9 = 146 ∧ k9 = 13) ∨ (b9 = 146 ∧ k9 = 14) ∨ (b9 = 146 ∧ k9 = 15) ∨ (b9 = 146 ∧ k9 = 16) ∨ (b9 = 146 ∧ k9 = 9) ∨ b9 = 153)) (fun b k h => by (try dsimp only at h ⊢); rcases h with ⟨rfl, rfl⟩ | ⟨rfl, rfl⟩ | ⟨rfl, rfl⟩ | ⟨rfl, rfl⟩ | ⟨rfl, rfl⟩ | ⟨rfl, rfl⟩ <;> first | decide | omega)
      have kn515 : N513.1 153 0 = zI 7 := (hFN513 153 0 (by first | decide | (dsimp only; first | done | decide | omega) | omega)).trans (kn510)
      have kn516 : N513.1 153 2 = zI z504 := (hFN513 153 2 (by first | decide | (dsimp only; first | done | decide | omega) | omega)).trans (kn511)
      refine g_iast F w (a := 153) rfl (j := 3) ⟨by decide, by decide⟩ (by omega) dX12_readsRule_147 (fun H locs w => ?_)
      refine lv_iload_n hx hb dX12_readsRule_148 rfl (lv_at hl 0 rfl) ?_
      refine k_Si F w (As := [.int (zI 7)]) (rest := []) (q_X12_hasSide (x := 7) ⟨by omega, by omega⟩  (IvR.to hIN513 (a := 153) (k := 3) (x := z514) (show ivr 153 3 = ((-99), 300) from rfl) ⟨by omega, by omega⟩ ⟨by decide, by decide, by decide, fun q9 => absurd q9 (by decide)⟩)) gs_X12_137 hs_X12_hasSide ⟨(Nat.le_of_ble_eq_true rfl), (Nat.le_of_ble_eq_true rfl)⟩ hl.1 rfl (Nat.le_of_ble_eq_true rfl) ⟨Nat.zero_le _, Nat.zero_le _⟩ dX12_readsRule_149 (fun r517 N518 H locs hp w => ?_)
      obtain ⟨z519, rfl, bz519, xz519, hMN518⟩ := hp
      rw [hMN518] at w
      refine z_if_eq (tgt := 169) hx hb (by omega) dX12_readsRule_152 (by decide) (fun c520 => ?_) (fun c520 => False.elim (by omega))
      refine lv_iload_n hx hb dX12_readsRule_169 rfl (lv_at hl 0 rfl) ?_
      refine lv_iconst (v := zI 3) hx hb dX12_readsRule_170 rfl ?_
      refine z_icmp_eq (tgt := 180) hx hb (by omega) (by omega) dX12_readsRule_171 (by decide) (fun c521 => False.elim (by omega)) (fun c521 => ?_)
      refine lv_iload_n hx hb dX12_readsRule_174 rfl (lv_at hl 0 rfl) ?_
      refine lv_bipush (v := zI 8) hx hb dX12_readsRule_175 (by decide) ?_
      refine z_icmp_ne (tgt := 194) hx hb (by omega) (by omega) dX12_readsRule_177 (by decide) (fun c522 => ?_) (fun c522 => False.elim (by omega))
      refine lv_iload_n hx hb dX12_readsRule_194 rfl (lv_at hl 0 rfl) ?_
      refine lv_iconst (v := zI 1) hx hb dX12_readsRule_195 rfl ?_
      refine z_icmp_ne (tgt := 209) hx hb (by omega) (by omega) dX12_readsRule_196 (by decide) (fun c523 => ?_) (fun c523 => False.elim (by omega))
      obtain ⟨z536, bz536, ez536⟩ := IvR.ld (k := 16) (IvR.to hIN513 (a := 153) (k := 3) (x := z514) (show ivr 153 3 = ((-99), 300) from rfl) ⟨by omega, by omega⟩ ⟨by decide, by decide, by decide, fun q9 => absurd q9 (by decide)⟩) (show ivr 146 16 = (0, 1) from rfl) (show 146 ≤ 146 ∧ 146 < 159 by decide)
      exact j209 _ 7 nz5140 nz5141 H locs ls w hl ⟨by omega, by omega⟩ ((st_ne (Or.inl (by decide))).trans enz5140) ⟨by omega, by omega⟩ ((st_ne (Or.inl (by decide))).trans enz5141) ⟨by omega, by omega⟩ (by omega) (fun h8 => by have h9 := (zI_eq (a := 7) (b := 8) (by constructor <;> omega) (by constructor <;> omega)).mp (((st_ne (Or.inr (by decide))).trans kn515).symm.trans h8); exact ⟨z514, by omega, by omega, st_at⟩) (IvR.to hIN513 (a := 153) (k := 3) (x := z514) (show ivr 153 3 = ((-99), 300) from rfl) ⟨by omega, by omega⟩ ⟨by decide, by decide, by decide, fun q9 => absurd q9 (by decide)⟩) (Fr.to hGN513 (by first | decide | (dsimp only; first | done | decide | omega) | omega))
    · refine lv_istore_n (lv' := [(1, .int (zI 8)), (0, .ref (B + 146))]) hx hb dX12_readsRule_63 rfl hl (by decide) rfl (fun ls hl => ?_)
      refine lv_aload_n hx hb dX12_readsRule_64 rfl (lv_at hl 1 rfl) ?_
      refine f_12_17 F w (a := 146) rfl tb_676 dX12_readsRule_65 ?_
      refine lv_iconst (v := zI 0) hx hb dX12_readsRule_68 rfl ?_
      refine lv_iload_n hx hb dX12_readsRule_69 rfl (lv_at hl 0 rfl) ?_
      refine g_iast F w (a := 153) rfl (j := 0) ⟨by decide, by decide⟩ (by omega) dX12_readsRule_70 (fun H locs w => ?_)
      refine lv_iload_n hx hb dX12_readsRule_71 rfl (lv_at hl 0 rfl) ?_
      refine lv_bipush (v := zI 8) hx hb dX12_readsRule_72 (by decide) ?_
      refine z_icmp_ne (tgt := 90) hx hb (by omega) (by omega) dX12_readsRule_74 (by decide) (fun c572 => False.elim (by omega)) (fun c572 => ?_)
      refine lv_aload_n hx hb dX12_readsRule_77 rfl (lv_at hl 1 rfl) ?_
      refine f_12_17 F w (a := 146) rfl tb_676 dX12_readsRule_78 ?_
      refine lv_iconst (v := zI 3) hx hb dX12_readsRule_81 rfl ?_
      refine lv_aload_n hx hb dX12_readsRule_82 rfl (lv_at hl 1 rfl) ?_
      refine k_Vi F w (As := []) (rest := [.int (zI 3), .ref (B + 153)]) (a := 146) (kd_lt (a := 146) (show kd 146 = (12, 0, 0) from rfl) (by decide)) (sh_12 rfl _ _) rfl (q_X12_needsNumber (tk := nz80) ((st_ne (Or.inl (by decide))).trans enz80) ⟨by omega, by omega⟩ (nb := nz81) ((st_ne (Or.inl (by decide))).trans enz81) ⟨by omega, by omega⟩ (by omega) (IvR.to hIN7 (a := 153) (k := 0) (x := 8) (show ivr 153 0 = ((-99), 300) from rfl) ⟨by omega, by omega⟩ ⟨by decide, by decide, by decide, fun q9 => absurd q9 (by decide)⟩)) gv_X12_230 hv_X12_needsNumber ⟨(Nat.le_of_ble_eq_true rfl), (Nat.le_of_ble_eq_true rfl)⟩ hl.1 rfl (Nat.le_of_ble_eq_true rfl) ⟨Nat.zero_le _, Nat.zero_le _⟩ dX12_readsRule_83 (fun r573 N574 H locs hp w => ?_)
      obtain ⟨z575, rfl, bz575, ⟨nz5750, nz5751, enz5750, enz5751, xz575⟩, hIN574, hFN574⟩ := hp
      have hGN574 := Fr.tr (Fr.to hGN7 (by first | decide | (dsimp only; first | done | decide | omega) | omega)) hFN574 (S := (fun b9 k9 => (b9 = 146 ∧ k9 = 11) ∨ (b9 = 146 ∧ k9 = 13) ∨ (b9 = 146 ∧ k9 = 14) ∨ (b9 = 146 ∧ k9 = 15) ∨ (b9 = 146 ∧ k9 = 16) ∨ (b9 = 146 ∧ k9 = 9) ∨ b9 = 153)) (fun b k h => by (try dsimp only at h ⊢); rcases h with ⟨rfl, rfl⟩ | ⟨rfl, rfl⟩ | ⟨rfl, rfl⟩ | ⟨rfl, rfl⟩ | ⟨rfl, rfl⟩ | ⟨rfl, rfl⟩ <;> first | decide | omega)
      have kn576 : N574.1 153 0 = zI 8 := (hFN574 153 0 (by first | decide | (dsimp only; first | done | decide | omega) | omega)).trans (st_at)
      refine g_iast F w (a := 153) rfl (j := 3) ⟨by decide, by decide⟩ (by omega) dX12_readsRule_86 (fun H locs w => ?_)
      refine lv_goto (tgt := 119) hx hb dX12_readsRule_87 (by decide) ?_
      refine lv_iload_n hx hb dX12_readsRule_119 rfl (lv_at hl 0 rfl) ?_
      refine lv_bipush (v := zI 7) hx hb dX12_readsRule_120 (by decide) ?_
      refine z_icmp_ne (tgt := 148) hx hb (by omega) (by omega) dX12_readsRule_122 (by decide) (fun c577 => ?_) (fun c577 => False.elim (by omega))
      refine lv_iload_n hx hb dX12_readsRule_148 rfl (lv_at hl 0 rfl) ?_
      refine k_Si F w (As := [.int (zI 8)]) (rest := []) (q_X12_hasSide (x := 8) ⟨by omega, by omega⟩  (IvR.to hIN574 (a := 153) (k := 3) (x := z575) (show ivr 153 3 = ((-99), 300) from rfl) ⟨by omega, by omega⟩ ⟨by decide, by decide, by decide, fun q9 => absurd q9 (by decide)⟩)) gs_X12_137 hs_X12_hasSide ⟨(Nat.le_of_ble_eq_true rfl), (Nat.le_of_ble_eq_true rfl)⟩ hl.1 rfl (Nat.le_of_ble_eq_true rfl) ⟨Nat.zero_le _, Nat.zero_le _⟩ dX12_readsRule_149 (fun r578 N579 H locs hp w => ?_)
      obtain ⟨z580, rfl, bz580, xz580, hMN579⟩ := hp
      rw [hMN579] at w
      refine z_if_eq (tgt := 169) hx hb (by omega) dX12_readsRule_152 (by decide) (fun c581 => ?_) (fun c581 => False.elim (by omega))
      refine lv_iload_n hx hb dX12_readsRule_169 rfl (lv_at hl 0 rfl) ?_
      refine lv_iconst (v := zI 3) hx hb dX12_readsRule_170 rfl ?_
      refine z_icmp_eq (tgt := 180) hx hb (by omega) (by omega) dX12_readsRule_171 (by decide) (fun c582 => False.elim (by omega)) (fun c582 => ?_)
      refine lv_iload_n hx hb dX12_readsRule_174 rfl (lv_at hl 0 rfl) ?_
      refine lv_bipush (v := zI 8) hx hb dX12_readsRule_175 (by decide) ?_
      refine z_icmp_ne (tgt := 194) hx hb (by omega) (by omega) dX12_readsRule_177 (by decide) (fun c583 => False.elim (by omega)) (fun c583 => ?_)
      refine lv_aload_n hx hb dX12_readsRule_180 rfl (lv_at hl 1 rfl) ?_
      refine f_12_17 F w (a := 146) rfl tb_676 dX12_readsRule_181 ?_
      refine lv_iconst (v := zI 4) hx hb dX12_readsRule_184 rfl ?_
      refine lv_aload_n hx hb dX12_readsRule_185 rfl (lv_at hl 1 rfl) ?_
      refine lv_bipush (v := zI 17) hx hb dX12_readsRule_186 (by decide) ?_
      refine lv_bipush (v := zI 18) hx hb dX12_readsRule_188 (by decide) ?_
      refine k_Vi F w (As := [.int (zI 17), .int (zI 18)]) (rest := [.int (zI 4), .ref (B + 153)]) (a := 146) (kd_lt (a := 146) (show kd 146 = (12, 0, 0) from rfl) (by decide)) (sh_12 rfl _ _) rfl (q_X12_needs (x := 17) ⟨by omega, by omega⟩ (x1 := 18) ⟨by omega, by omega⟩ (tk := nz5750) ((st_ne (Or.inl (by decide))).trans enz5750) ⟨by omega, by omega⟩ (nb := nz5751) ((st_ne (Or.inl (by decide))).trans enz5751) ⟨by omega, by omega⟩ (by omega) (IvR.to hIN574 (a := 153) (k := 3) (x := z575) (show ivr 153 3 = ((-99), 300) from rfl) ⟨by omega, by omega⟩ ⟨by decide, by decide, by decide, fun q9 => absurd q9 (by decide)⟩)) gv_X12_227 hv_X12_needs ⟨(Nat.le_of_ble_eq_true rfl), (Nat.le_of_ble_eq_true rfl)⟩ hl.1 rfl (Nat.le_of_ble_eq_true rfl) ⟨Nat.zero_le _, Nat.zero_le _⟩ dX12_readsRule_190 (fun r584 N585 H locs hp w => ?_)
      obtain ⟨z586, rfl, bz586, ⟨nz5860, nz5861, enz5860, enz5861, xz586⟩, hIN585, hFN585⟩ := hp
      have hGN585 := Fr.tr (Fr.to hGN574 (by first | decide | (dsimp only; first | done | decide | omega) | omega)) hFN585 (S := (fun b9 k9 => (b9 = 146 ∧ k9 = 11) ∨ (b9 = 146 ∧ k9 = 13) ∨ (b9 = 146 ∧ k9 = 14) ∨ (b9 = 146 ∧ k9 = 15) ∨ (b9 = 146 ∧ k9 = 16) ∨ (b9 = 146 ∧ k9 = 9) ∨ b9 = 153)) (fun b k h => by (try dsimp only at h ⊢); rcases h with ⟨rfl, rfl⟩ | ⟨rfl, rfl⟩ | ⟨rfl, rfl⟩ | ⟨rfl, rfl⟩ | ⟨rfl, rfl⟩ | ⟨rfl, rfl⟩ <;> first | decide | omega)
      have kn587 : N585.1 153 0 = zI 8 := (hFN585 153 0 (by first | decide | (dsimp only; first | done | decide | omega) | omega)).trans ((st_ne (Or.inr (by decide))).trans kn576)
      have kn588 : N585.1 153 3 = zI z575 := (hFN585 153 3 (by first | decide | (dsimp only; first | done | decide | omega) | omega)).trans (st_at)
      refine g_iast F w (a := 153) rfl (j := 4) ⟨by decide, by decide⟩ (by omega) dX12_readsRule_193 (fun H locs w => ?_)
      refine lv_iload_n hx hb dX12_readsRule_194 rfl (lv_at hl 0 rfl) ?_
      refine lv_iconst (v := zI 1) hx hb dX12_readsRule_195 rfl ?_
      refine z_icmp_ne (tgt := 209) hx hb (by omega) (by omega) dX12_readsRule_196 (by decide) (fun c589 => ?_) (fun c589 => False.elim (by omega))
      exact j209 _ 8 nz5860 nz5861 H locs ls w hl ⟨by omega, by omega⟩ ((st_ne (Or.inl (by decide))).trans enz5860) ⟨by omega, by omega⟩ ((st_ne (Or.inl (by decide))).trans enz5861) ⟨by omega, by omega⟩ (by omega) (fun h8 => by have h9 := (zI_eq (a := 8) (b := 8) (by constructor <;> omega) (by constructor <;> omega)).mp (((st_ne (Or.inr (by decide))).trans kn587).symm.trans h8); exact ⟨z575, by omega, by omega, (st_ne (Or.inr (by decide))).trans kn588⟩) (IvR.to hIN585 (a := 153) (k := 4) (x := z586) (show ivr 153 4 = ((-99), 300) from rfl) ⟨by omega, by omega⟩ ⟨by decide, by decide, by decide, fun q9 => absurd q9 (by decide)⟩) (Fr.to hGN585 (by first | decide | (dsimp only; first | done | decide | omega) | omega))
    · refine lv_istore_n (lv' := [(1, .int (zI 9)), (0, .ref (B + 146))]) hx hb dX12_readsRule_63 rfl hl (by decide) rfl (fun ls hl => ?_)
      refine lv_aload_n hx hb dX12_readsRule_64 rfl (lv_at hl 1 rfl) ?_
      refine f_12_17 F w (a := 146) rfl tb_676 dX12_readsRule_65 ?_
      refine lv_iconst (v := zI 0) hx hb dX12_readsRule_68 rfl ?_
      refine lv_iload_n hx hb dX12_readsRule_69 rfl (lv_at hl 0 rfl) ?_
      refine g_iast F w (a := 153) rfl (j := 0) ⟨by decide, by decide⟩ (by omega) dX12_readsRule_70 (fun H locs w => ?_)
      refine lv_iload_n hx hb dX12_readsRule_71 rfl (lv_at hl 0 rfl) ?_
      refine lv_bipush (v := zI 8) hx hb dX12_readsRule_72 (by decide) ?_
      refine z_icmp_ne (tgt := 90) hx hb (by omega) (by omega) dX12_readsRule_74 (by decide) (fun c618 => ?_) (fun c618 => False.elim (by omega))
      refine lv_iload_n hx hb dX12_readsRule_90 rfl (lv_at hl 0 rfl) ?_
      refine z_if_eq (tgt := 119) hx hb (by omega) dX12_readsRule_91 (by decide) (fun c619 => False.elim (by omega)) (fun c619 => ?_)
      refine lv_aload_n hx hb dX12_readsRule_94 rfl (lv_at hl 1 rfl) ?_
      refine f_12_17 F w (a := 146) rfl tb_676 dX12_readsRule_95 ?_
      refine lv_iconst (v := zI 2) hx hb dX12_readsRule_98 rfl ?_
      refine lv_aload_n hx hb dX12_readsRule_99 rfl (lv_at hl 1 rfl) ?_
      refine lv_bipush (v := zI 11) hx hb dX12_readsRule_100 (by decide) ?_
      refine lv_iload_n hx hb dX12_readsRule_102 rfl (lv_at hl 0 rfl) ?_
      refine lv_bipush (v := zI 9) hx hb dX12_readsRule_103 (by decide) ?_
      refine z_icmp_ne (tgt := 113) hx hb (by omega) (by omega) dX12_readsRule_105 (by decide) (fun c620 => False.elim (by omega)) (fun c620 => ?_)
      refine lv_bipush (v := zI 13) hx hb dX12_readsRule_108 (by decide) ?_
      refine lv_goto (tgt := 115) hx hb dX12_readsRule_110 (by decide) ?_
      refine k_Vi F w (As := [.int (zI 11), .int (zI 13)]) (rest := [.int (zI 2), .ref (B + 153)]) (a := 146) (kd_lt (a := 146) (show kd 146 = (12, 0, 0) from rfl) (by decide)) (sh_12 rfl _ _) rfl (q_X12_needs (x := 11) ⟨by omega, by omega⟩ (x1 := 13) ⟨by omega, by omega⟩ (tk := nz80) ((st_ne (Or.inl (by decide))).trans enz80) ⟨by omega, by omega⟩ (nb := nz81) ((st_ne (Or.inl (by decide))).trans enz81) ⟨by omega, by omega⟩ (by omega) (IvR.to hIN7 (a := 153) (k := 0) (x := 9) (show ivr 153 0 = ((-99), 300) from rfl) ⟨by omega, by omega⟩ ⟨by decide, by decide, by decide, fun q9 => absurd q9 (by decide)⟩)) gv_X12_227 hv_X12_needs ⟨(Nat.le_of_ble_eq_true rfl), (Nat.le_of_ble_eq_true rfl)⟩ hl.1 rfl (Nat.le_of_ble_eq_true rfl) ⟨Nat.zero_le _, Nat.zero_le _⟩ dX12_readsRule_115 (fun r621 N622 H locs hp w => ?_)
      obtain ⟨z623, rfl, bz623, ⟨nz6230, nz6231, enz6230, enz6231, xz623⟩, hIN622, hFN622⟩ := hp
      have hGN622 := Fr.tr (Fr.to hGN7 (by first | decide | (dsimp only; first | done | decide | omega) | omega)) hFN622 (S := (fun b9 k9 => (b9 = 146 ∧ k9 = 11) ∨ (b9 = 146 ∧ k9 = 13) ∨ (b9 = 146 ∧ k9 = 14) ∨ (b9 = 146 ∧ k9 = 15) ∨ (b9 = 146 ∧ k9 = 16) ∨ (b9 = 146 ∧ k9 = 9) ∨ b9 = 153)) (fun b k h => by (try dsimp only at h ⊢); rcases h with ⟨rfl, rfl⟩ | ⟨rfl, rfl⟩ | ⟨rfl, rfl⟩ | ⟨rfl, rfl⟩ | ⟨rfl, rfl⟩ | ⟨rfl, rfl⟩ <;> first | decide | omega)
      have kn624 : N622.1 153 0 = zI 9 := (hFN622 153 0 (by first | decide | (dsimp only; first | done | decide | omega) | omega)).trans (st_at)
      refine g_iast F w (a := 153) rfl (j := 2) ⟨by decide, by decide⟩ (by omega) dX12_readsRule_118 (fun H locs w => ?_)
      refine lv_iload_n hx hb dX12_readsRule_119 rfl (lv_at hl 0 rfl) ?_
      refine lv_bipush (v := zI 7) hx hb dX12_readsRule_120 (by decide) ?_
      refine z_icmp_ne (tgt := 148) hx hb (by omega) (by omega) dX12_readsRule_122 (by decide) (fun c625 => ?_) (fun c625 => False.elim (by omega))
      refine lv_iload_n hx hb dX12_readsRule_148 rfl (lv_at hl 0 rfl) ?_
      refine k_Si F w (As := [.int (zI 9)]) (rest := []) (q_X12_hasSide (x := 9) ⟨by omega, by omega⟩  (IvR.to hIN622 (a := 153) (k := 2) (x := z623) (show ivr 153 2 = ((-99), 300) from rfl) ⟨by omega, by omega⟩ ⟨by decide, by decide, by decide, fun q9 => absurd q9 (by decide)⟩)) gs_X12_137 hs_X12_hasSide ⟨(Nat.le_of_ble_eq_true rfl), (Nat.le_of_ble_eq_true rfl)⟩ hl.1 rfl (Nat.le_of_ble_eq_true rfl) ⟨Nat.zero_le _, Nat.zero_le _⟩ dX12_readsRule_149 (fun r626 N627 H locs hp w => ?_)
      obtain ⟨z628, rfl, bz628, xz628, hMN627⟩ := hp
      rw [hMN627] at w
      refine z_if_eq (tgt := 169) hx hb (by omega) dX12_readsRule_152 (by decide) (fun c629 => ?_) (fun c629 => False.elim (by omega))
      refine lv_iload_n hx hb dX12_readsRule_169 rfl (lv_at hl 0 rfl) ?_
      refine lv_iconst (v := zI 3) hx hb dX12_readsRule_170 rfl ?_
      refine z_icmp_eq (tgt := 180) hx hb (by omega) (by omega) dX12_readsRule_171 (by decide) (fun c630 => False.elim (by omega)) (fun c630 => ?_)
      refine lv_iload_n hx hb dX12_readsRule_174 rfl (lv_at hl 0 rfl) ?_
      refine lv_bipush (v := zI 8) hx hb dX12_readsRule_175 (by decide) ?_
      refine z_icmp_ne (tgt := 194) hx hb (by omega) (by omega) dX12_readsRule_177 (by decide) (fun c631 => ?_) (fun c631 => False.elim (by omega))
      refine lv_iload_n hx hb dX12_readsRule_194 rfl (lv_at hl 0 rfl) ?_
      refine lv_iconst (v := zI 1) hx hb dX12_readsRule_195 rfl ?_
      refine z_icmp_ne (tgt := 209) hx hb (by omega) (by omega) dX12_readsRule_196 (by decide) (fun c632 => ?_) (fun c632 => False.elim (by omega))
      obtain ⟨z647, bz647, ez647⟩ := IvR.ld (k := 3) (IvR.to hIN622 (a := 153) (k := 2) (x := z623) (show ivr 153 2 = ((-99), 300) from rfl) ⟨by omega, by omega⟩ ⟨by decide, by decide, by decide, fun q9 => absurd q9 (by decide)⟩) (show ivr 153 3 = (-99, 300) from rfl) (by decide)
      exact j209 _ 9 nz6230 nz6231 H locs ls w hl ⟨by omega, by omega⟩ ((st_ne (Or.inl (by decide))).trans enz6230) ⟨by omega, by omega⟩ ((st_ne (Or.inl (by decide))).trans enz6231) ⟨by omega, by omega⟩ (by omega) (fun h8 => by have h9 := (zI_eq (a := 9) (b := 8) (by constructor <;> omega) (by constructor <;> omega)).mp (((st_ne (Or.inr (by decide))).trans kn624).symm.trans h8); exact ⟨z647, by omega, by omega, ez647⟩) (IvR.to hIN622 (a := 153) (k := 2) (x := z623) (show ivr 153 2 = ((-99), 300) from rfl) ⟨by omega, by omega⟩ ⟨by decide, by decide, by decide, fun q9 => absurd q9 (by decide)⟩) (Fr.to hGN622 (by first | decide | (dsimp only; first | done | decide | omega) | omega))
  have lp2 : ∀ (f : Nat) (v1_2 : Int)  (NL2 : Mem), (0 ≤ v1_2 ∧ v1_2 ≤ 8) → NL2.1 146 13 = zI tk → NL2.1 146 11 = zI nb → IvR NL2 → Fr (fun b9 k9 => (b9 = 146 ∧ k9 = 11) ∨ (b9 = 146 ∧ k9 = 13) ∨ (b9 = 146 ∧ k9 = 14) ∨ (b9 = 146 ∧ k9 = 15) ∨ (b9 = 146 ∧ k9 = 16) ∨ (b9 = 146 ∧ k9 = 9) ∨ b9 = 153) NL2 M → (Int.toNat (8 - v1_2) < f) → ∀ (H : Heap) (locs : List Loc) (ls : Array Slot), Wd D B cy s s.heap NL2 H locs → lv_has ls 2 [(1, .int (zI v1_2)), (0, .ref (B + 146))] → W p l e (rmm 5 109) s m args below meth c H locs 0 0 Q (F0 m 2 ls []) := by
    intro f
    induction f with
    | zero => intros; omega
    | succ f ih2 =>
      intro v1_2  NL2 iv1_2 eg146_13_2 eg146_11_2 hIL2 hFL2 hf2 H locs ls w hl
      refine lv_iload_n hx hb dX12_readsRule_2 rfl (lv_at hl 0 rfl) ?_
      refine lv_bipush (v := zI 8) hx hb dX12_readsRule_3 (by decide) ?_
      refine z_icmp_ge (tgt := 37) hx hb (by omega) (by omega) dX12_readsRule_5 (by decide) (fun c1 => ?_) (fun c1 => ?_)
      · refine lv_aload_n hx hb dX12_readsRule_37 rfl (lv_at hl 1 rfl) ?_
        refine lv_iconst (v := zI 0) hx hb dX12_readsRule_38 rfl ?_
        refine k_Vi F w (As := [.int (zI 0)]) (rest := []) (a := 146) (kd_lt (a := 146) (show kd 146 = (12, 0, 0) from rfl) (by decide)) (sh_12 rfl _ _) rfl (q_X12_isWord (x := 0) ⟨by omega, by omega⟩  hIL2) gv_X12_224 hv_X12_isWord ⟨(Nat.le_of_ble_eq_true rfl), (Nat.le_of_ble_eq_true rfl)⟩ hl.1 rfl (Nat.le_of_ble_eq_true rfl) ⟨Nat.zero_le _, Nat.zero_le _⟩ dX12_readsRule_39 (fun r2 N3 H locs hp w => ?_)
        obtain ⟨z4, rfl, bz4, hMN3⟩ := hp
        rw [hMN3] at w
        refine z_if_eq (tgt := 56) hx hb (by omega) dX12_readsRule_42 (by decide) (fun c5 => ?_) (fun c5 => ?_)
        · exact j56 NL2 v1_2 tk nb H locs ls w hl eg146_13_2 htk eg146_11_2 hnb hpre0 hIL2 hFL2
        · refine lv_aload_n hx hb dX12_readsRule_45 rfl (lv_at hl 1 rfl) ?_
          refine f_12_17 F w (a := 146) rfl tb_676 dX12_readsRule_46 ?_
          refine lv_iconst (v := zI 1) hx hb dX12_readsRule_49 rfl ?_
          refine lv_iconst (v := zI 1) hx hb dX12_readsRule_50 rfl ?_
          refine g_iast F w (a := 153) rfl (j := 1) ⟨by decide, by decide⟩ (by omega) dX12_readsRule_51 (fun H locs w => ?_)
          refine lv_aload_n hx hb dX12_readsRule_52 rfl (lv_at hl 1 rfl) ?_
          refine k_Vv F w (As := []) (rest := []) (a := 146) (kd_lt (a := 146) (show kd 146 = (12, 0, 0) from rfl) (by decide)) (sh_12 rfl _ _) rfl (q_X12_goesOn   (IvR.to hIL2 (a := 153) (k := 1) (x := 1) (show ivr 153 1 = ((-99), 300) from rfl) ⟨by omega, by omega⟩ ⟨by decide, by decide, by decide, fun q9 => absurd q9 (by decide)⟩)) gv_X12_221 hv_X12_goesOn ⟨(Nat.le_of_ble_eq_true rfl), (Nat.le_of_ble_eq_true rfl)⟩ hl.1 rfl (Nat.le_of_ble_eq_true rfl) ⟨Nat.zero_le _, Nat.zero_le _⟩ dX12_readsRule_53 (fun N666 H locs hp w => ?_)
          obtain ⟨⟨nz6670, nz6671, enz6670, enz6671, xz667⟩, hIN666, hFN666⟩ := hp
          have hGN666 := Fr.tr (Fr.to hFL2 (by first | decide | (dsimp only; first | done | decide | omega) | omega)) hFN666 (S := (fun b9 k9 => (b9 = 146 ∧ k9 = 11) ∨ (b9 = 146 ∧ k9 = 13) ∨ (b9 = 146 ∧ k9 = 14) ∨ (b9 = 146 ∧ k9 = 15) ∨ (b9 = 146 ∧ k9 = 16) ∨ (b9 = 146 ∧ k9 = 9) ∨ b9 = 153)) (fun b k h => by (try dsimp only at h ⊢); rcases h with ⟨rfl, rfl⟩ | ⟨rfl, rfl⟩ | ⟨rfl, rfl⟩ | ⟨rfl, rfl⟩ | ⟨rfl, rfl⟩ <;> first | decide | omega)
          have kn668 : N666.1 153 1 = zI 1 := (hFN666 153 1 (by first | decide | (dsimp only; first | done | decide | omega) | omega)).trans (st_at)
          exact j56 N666 v1_2 nz6670 nz6671 H locs ls w hl enz6670 ⟨by omega, by omega⟩ enz6671 ⟨by omega, by omega⟩ (by omega) hIN666 hGN666
      · refine lv_aload_n hx hb dX12_readsRule_8 rfl (lv_at hl 1 rfl) ?_
        refine f_12_17 F w (a := 146) rfl tb_676 dX12_readsRule_9 ?_
        refine lv_iload_n hx hb dX12_readsRule_12 rfl (lv_at hl 0 rfl) ?_
        refine lv_iload_n hx hb dX12_readsRule_13 rfl (lv_at hl 0 rfl) ?_
        refine lv_iconst (v := zI 1) hx hb dX12_readsRule_14 rfl ?_
        refine z_icmp_eq (tgt := 24) hx hb (by omega) (by omega) dX12_readsRule_15 (by decide) (fun c1381 => ?_) (fun c1381 => ?_)
        · refine lv_iconst (v := zI 0) hx hb dX12_readsRule_24 rfl ?_
          refine lv_goto (tgt := 30) hx hb dX12_readsRule_25 (by decide) ?_
          refine g_iast F w (a := 153) rfl (j := (Int.toNat v1_2)) (ix_z (by omega) (by omega)) (by omega) dX12_readsRule_30 (fun H locs w => ?_)
          refine z_iinc (v := (v1_2 + 1)) (lv' := [(1, .int (zI (v1_2 + 1))), (0, .ref (B + 146))]) hx hb dX12_readsRule_31 hl (k := 0) rfl (by omega) (by decide) rfl (fun ls hl => ?_)
          refine lv_goto (tgt := 2) hx hb dX12_readsRule_34 (by decide) ?_
          exact ih2 (v1_2 + 1) (st NL2 153 (Int.toNat v1_2) (zI 0)) (by omega)  ((st_ne (Or.inl (by decide))).trans eg146_13_2) ((st_ne (Or.inl (by decide))).trans eg146_11_2)  (IvR.to hIL2 (a := 153) (k := (Int.toNat v1_2)) (x := 0) (show ivr 153 (Int.toNat v1_2) = ((-99), 300) from rfl) ⟨by omega, by omega⟩ ⟨by decide, by decide, by decide, fun q9 => absurd q9 (by decide)⟩) (Fr.to hFL2 (by first | decide | (dsimp only; first | done | decide | omega) | omega)) (by omega) _ _ _ w (lv_sub hl [0, 1] rfl)
        · refine lv_iload_n hx hb dX12_readsRule_18 rfl (lv_at hl 0 rfl) ?_
          refine lv_bipush (v := zI 6) hx hb dX12_readsRule_19 (by decide) ?_
          refine z_icmp_ne (tgt := 28) hx hb (by omega) (by omega) dX12_readsRule_21 (by decide) (fun c1382 => ?_) (fun c1382 => ?_)
          · refine lv_bipush (v := zI (-2)) hx hb dX12_readsRule_28 (by decide) ?_
            refine g_iast F w (a := 153) rfl (j := (Int.toNat v1_2)) (ix_z (by omega) (by omega)) (by omega) dX12_readsRule_30 (fun H locs w => ?_)
            refine z_iinc (v := (v1_2 + 1)) (lv' := [(1, .int (zI (v1_2 + 1))), (0, .ref (B + 146))]) hx hb dX12_readsRule_31 hl (k := 0) rfl (by omega) (by decide) rfl (fun ls hl => ?_)
            refine lv_goto (tgt := 2) hx hb dX12_readsRule_34 (by decide) ?_
            exact ih2 (v1_2 + 1) (st NL2 153 (Int.toNat v1_2) (zI (-2))) (by omega)  ((st_ne (Or.inl (by decide))).trans eg146_13_2) ((st_ne (Or.inl (by decide))).trans eg146_11_2)  (IvR.to hIL2 (a := 153) (k := (Int.toNat v1_2)) (x := (-2)) (show ivr 153 (Int.toNat v1_2) = ((-99), 300) from rfl) ⟨by omega, by omega⟩ ⟨by decide, by decide, by decide, fun q9 => absurd q9 (by decide)⟩) (Fr.to hFL2 (by first | decide | (dsimp only; first | done | decide | omega) | omega)) (by omega) _ _ _ w (lv_sub hl [0, 1] rfl)
          · refine lv_iconst (v := zI 0) hx hb dX12_readsRule_24 rfl ?_
            refine lv_goto (tgt := 30) hx hb dX12_readsRule_25 (by decide) ?_
            refine g_iast F w (a := 153) rfl (j := (Int.toNat v1_2)) (ix_z (by omega) (by omega)) (by omega) dX12_readsRule_30 (fun H locs w => ?_)
            refine z_iinc (v := (v1_2 + 1)) (lv' := [(1, .int (zI (v1_2 + 1))), (0, .ref (B + 146))]) hx hb dX12_readsRule_31 hl (k := 0) rfl (by omega) (by decide) rfl (fun ls hl => ?_)
            refine lv_goto (tgt := 2) hx hb dX12_readsRule_34 (by decide) ?_
            exact ih2 (v1_2 + 1) (st NL2 153 (Int.toNat v1_2) (zI 0)) (by omega)  ((st_ne (Or.inl (by decide))).trans eg146_13_2) ((st_ne (Or.inl (by decide))).trans eg146_11_2)  (IvR.to hIL2 (a := 153) (k := (Int.toNat v1_2)) (x := 0) (show ivr 153 (Int.toNat v1_2) = ((-99), 300) from rfl) ⟨by omega, by omega⟩ ⟨by decide, by decide, by decide, fun q9 => absurd q9 (by decide)⟩) (Fr.to hFL2 (by first | decide | (dsimp only; first | done | decide | omega) | omega)) (by omega) _ _ _ w (lv_sub hl [0, 1] rfl)
  exact lp2 _ 0 M (by omega) (hgtk) (hgnb) hI hF (Nat.lt_succ_self _) _ _ _ w (lv_sub hl [0, 1] rfl)
