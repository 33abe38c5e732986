theorem YS_init {M : Mem} {T : Nat → Nat} {N b : Nat} (hTr : isTr M T N) (hWd : isWd M) (hR : RSr M T N b) (hw : M.1 146 16 = zI 0) : YS (st (st (st (st (st (st (st (st M 153 0 (zI (-2))) 153 1 (zI 0)) 153 2 (zI (-2))) 153 3 (zI (-2))) 153 4 (zI (-2))) 153 5 (zI (-2))) 153 6 (zI 0)) 153 7 (zI (-2))) T N (1, b, P0) := by
  have h0 : YS M T N (1, b, fun k => (M.1 153 k).toInt) := ⟨⟨Or.inr rfl, hR.1⟩, hTr, hWd, hR, hw, fun _ k _ => zI_of _⟩
  have h1 := h0.p (k := 0) (v := -2) |>.p (k := 1) (v := 0) |>.p (k := 2) (v := -2) |>.p (k := 3) (v := -2) |>.p (k := 4) (v := -2) |>.p (k := 5) (v := -2) |>.p (k := 6) (v := 0) |>.p (k := 7) (v := -2)
  exact ⟨h1.1, h1.2.1, h1.2.2.1, h1.2.2.2.1, h1.2.2.2.2.1, fun _ => own_init⟩
theorem rdO_1 {T : Nat → Nat} {N lo k b : Nat} {P : Nat → Int} : (rdO T N lo k (1, b, P)).1 = 1 := by
  unfold rdO
  by_cases h : (1, b, P).1 = 1 ∧ tk T N (1, b, P).2.1 lo lo = 0
  · rw [if_pos h]
  · rw [if_neg h]
theorem rdC_f {T : Nat → Nat} {N lo hi k : Nat} {x : Nat × Nat × (Nat → Int)} (g : x.1 = 1) (h : (rdC T N lo hi k x).1 = 0) : tk T N x.2.1 lo hi = -1 := by
  by_cases h2 : tk T N x.2.1 lo hi = -1
  · exact h2
  · rw [rdC_y g h2] at h; cases h
theorem YS.row {M : Mem} {T : Nat → Nat} {N k : Nat} {y : Nat × Nat × (Nat → Int)} {v : Int} (h : YS (st M 153 k (zI v)) T N y) (hk : k < 8) (g : y.1 = 1) (hv : 0 ≤ v ∧ v ≤ 29) (hy : -2 ≤ y.2.2 k ∧ y.2.2 k ≤ 29) : v = y.2.2 k := by
  have h1 := h.2.2.2.2.2 g k hk
  have h2 : zI v = zI (y.2.2 k) := st_at.symm.trans h1
  exact (zI_eq (by constructor <;> omega) (by constructor <;> omega)).mp h2
theorem tok_3 {T : Nat → Nat} {N b : Nat} : tok T N b = 3 ↔ (sk T N b < N ∧ T (sk T N b) = 59) := by
  have h := tok_all (T := T) (N := N) (b := b)
  constructor
  · intro q; omega
  · intro q; exact tok_c q.1 q.2
theorem YS.bad {M : Mem} {T : Nat → Nat} {N : Nat} {x : Nat × Nat × (Nat → Int)} (h : YS M T N x) : YS (st M 146 16 (zI 1)) T N (0, x.2.1, x.2.2) := ⟨⟨Or.inl rfl, h.1.2⟩, h.2.1.o (Or.inr (by decide)) (by decide), h.2.2.1.fr (st_o (by decide)), h.2.2.2.1.o (Or.inr rfl), st_at, fun q => absurd q (by show ¬ (0 : Nat) = 1; decide)⟩
/-- the rules that were read, row by row -/
def isRr (M : Mem) (T : Nat → Nat) (N m : Nat) : Prop := ∀ j, j < m → ∀ k, k < 8 → M.1 154 (8 * j + k) = zI ((rdR T N (bI T N j)).2.2 k)
def isKr (M : Mem) (Ps : Nat → Nat → Int) (m : Nat) : Prop := M.1 146 5 = zI (m : Int) ∧ ∀ j, j < m → ∀ k, k < 8 → M.1 149 (8 * j + k) = zI (Ps j k)
theorem rdX12_readsRule_0 : decode cX12_readsRule 0 = .ok (.iconst 0, 1) := dq0 kk_3 (by decide +kernel)
theorem rdX12_readsRule_1 : decode cX12_readsRule 1 = .ok (.istore_n 1, 1) := dq0 kk_60 (by decide +kernel)
theorem rdX12_readsRule_2 : decode cX12_readsRule 2 = .ok (.iload_n 1, 1) := dq0 kk_27 (by decide +kernel)
theorem rdX12_readsRule_3 : decode cX12_readsRule 3 = .ok (.bipush 8, 2) := dqS kk_16 (by decide +kernel)
theorem rdX12_readsRule_5 : decode cX12_readsRule 5 = .ok (.if_icmp .ge 32, 3) := dqT kk_162 (by decide +kernel)
theorem rdX12_readsRule_8 : decode cX12_readsRule 8 = .ok (.aload_n 0, 1) := dq0 kk_42 (by decide +kernel)
theorem rdX12_readsRule_9 : decode cX12_readsRule 9 = .ok (.getfield 33, 3) := dqV kk_180 (by decide +kernel)
theorem rdX12_readsRule_12 : decode cX12_readsRule 12 = .ok (.iload_n 1, 1) := dq0 kk_27 (by decide +kernel)
theorem rdX12_readsRule_13 : decode cX12_readsRule 13 = .ok (.iload_n 1, 1) := dq0 kk_27 (by decide +kernel)
theorem rdX12_readsRule_14 : decode cX12_readsRule 14 = .ok (.iconst 1, 1) := dq0 kk_4 (by decide +kernel)
theorem rdX12_readsRule_15 : decode cX12_readsRule 15 = .ok (.if_icmp .eq 9, 3) := dqT kk_159 (by decide +kernel)
theorem rdX12_readsRule_18 : decode cX12_readsRule 18 = .ok (.iload_n 1, 1) := dq0 kk_27 (by decide +kernel)
theorem rdX12_readsRule_19 : decode cX12_readsRule 19 = .ok (.bipush 6, 2) := dqS kk_16 (by decide +kernel)
theorem rdX12_readsRule_21 : decode cX12_readsRule 21 = .ok (.if_icmp .ne 7, 3) := dqT kk_160 (by decide +kernel)
theorem rdX12_readsRule_28 : decode cX12_readsRule 28 = .ok (.bipush (-2), 2) := dqS kk_16 (by decide +kernel)
theorem rdX12_readsRule_30 : decode cX12_readsRule 30 = .ok (.iastore, 1) := dq0 kk_79 (by decide +kernel)
theorem rdX12_readsRule_31 : decode cX12_readsRule 31 = .ok (.iinc 1 1, 3) := dqI kk_132 (by decide +kernel)
theorem rdX12_readsRule_34 : decode cX12_readsRule 34 = .ok (.goto (-32), 3) := dqT kk_167 (by decide +kernel)
theorem rdX12_readsRule_24 : decode cX12_readsRule 24 = .ok (.iconst 0, 1) := dq0 kk_3 (by decide +kernel)
theorem rdX12_readsRule_25 : decode cX12_readsRule 25 = .ok (.goto 5, 3) := dqT kk_167 (by decide +kernel)
theorem rdX12_readsRule_37 : decode cX12_readsRule 37 = .ok (.aload_n 0, 1) := dq0 kk_42 (by decide +kernel)
theorem rdX12_readsRule_38 : decode cX12_readsRule 38 = .ok (.iconst 0, 1) := dq0 kk_3 (by decide +kernel)
theorem rdX12_readsRule_39 : decode cX12_readsRule 39 = .ok (.invokevirtual 224, 3) := dqV kk_182 (by decide +kernel)
theorem rdX12_readsRule_42 : decode cX12_readsRule 42 = .ok (.ifCond .eq 14, 3) := dqT kk_153 (by decide +kernel)
theorem rdX12_readsRule_45 : decode cX12_readsRule 45 = .ok (.aload_n 0, 1) := dq0 kk_42 (by decide +kernel)
theorem rdX12_readsRule_46 : decode cX12_readsRule 46 = .ok (.getfield 33, 3) := dqV kk_180 (by decide +kernel)
theorem rdX12_readsRule_49 : decode cX12_readsRule 49 = .ok (.iconst 1, 1) := dq0 kk_4 (by decide +kernel)
theorem rdX12_readsRule_50 : decode cX12_readsRule 50 = .ok (.iconst 1, 1) := dq0 kk_4 (by decide +kernel)
theorem rdX12_readsRule_51 : decode cX12_readsRule 51 = .ok (.iastore, 1) := dq0 kk_79 (by decide +kernel)
theorem rdX12_readsRule_52 : decode cX12_readsRule 52 = .ok (.aload_n 0, 1) := dq0 kk_42 (by decide +kernel)
theorem rdX12_readsRule_53 : decode cX12_readsRule 53 = .ok (.invokevirtual 221, 3) := dqV kk_182 (by decide +kernel)
theorem rdX12_readsRule_56 : decode cX12_readsRule 56 = .ok (.aload_n 0, 1) := dq0 kk_42 (by decide +kernel)
theorem rdX12_readsRule_57 : decode cX12_readsRule 57 = .ok (.iconst 1, 1) := dq0 kk_4 (by decide +kernel)
theorem rdX12_readsRule_58 : decode cX12_readsRule 58 = .ok (.bipush 10, 2) := dqS kk_16 (by decide +kernel)
theorem rdX12_readsRule_60 : decode cX12_readsRule 60 = .ok (.invokevirtual 227, 3) := dqV kk_182 (by decide +kernel)
theorem rdX12_readsRule_63 : decode cX12_readsRule 63 = .ok (.istore_n 1, 1) := dq0 kk_60 (by decide +kernel)
theorem rdX12_readsRule_64 : decode cX12_readsRule 64 = .ok (.aload_n 0, 1) := dq0 kk_42 (by decide +kernel)
theorem rdX12_readsRule_65 : decode cX12_readsRule 65 = .ok (.getfield 33, 3) := dqV kk_180 (by decide +kernel)
theorem rdX12_readsRule_68 : decode cX12_readsRule 68 = .ok (.iconst 0, 1) := dq0 kk_3 (by decide +kernel)
theorem rdX12_readsRule_69 : decode cX12_readsRule 69 = .ok (.iload_n 1, 1) := dq0 kk_27 (by decide +kernel)
theorem rdX12_readsRule_70 : decode cX12_readsRule 70 = .ok (.iastore, 1) := dq0 kk_79 (by decide +kernel)
theorem rdX12_readsRule_71 : decode cX12_readsRule 71 = .ok (.iload_n 1, 1) := dq0 kk_27 (by decide +kernel)
theorem rdX12_readsRule_72 : decode cX12_readsRule 72 = .ok (.bipush 8, 2) := dqS kk_16 (by decide +kernel)
theorem rdX12_readsRule_74 : decode cX12_readsRule 74 = .ok (.if_icmp .ne 16, 3) := dqT kk_160 (by decide +kernel)
theorem rdX12_readsRule_90 : decode cX12_readsRule 90 = .ok (.iload_n 1, 1) := dq0 kk_27 (by decide +kernel)
theorem rdX12_readsRule_91 : decode cX12_readsRule 91 = .ok (.ifCond .eq 28, 3) := dqT kk_153 (by decide +kernel)
theorem rdX12_readsRule_119 : decode cX12_readsRule 119 = .ok (.iload_n 1, 1) := dq0 kk_27 (by decide +kernel)
theorem rdX12_readsRule_120 : decode cX12_readsRule 120 = .ok (.bipush 7, 2) := dqS kk_16 (by decide +kernel)
theorem rdX12_readsRule_122 : decode cX12_readsRule 122 = .ok (.if_icmp .ne 26, 3) := dqT kk_160 (by decide +kernel)
theorem rdX12_readsRule_148 : decode cX12_readsRule 148 = .ok (.iload_n 1, 1) := dq0 kk_27 (by decide +kernel)
theorem rdX12_readsRule_149 : decode cX12_readsRule 149 = .ok (.invokestatic 137, 3) := dqV kk_184 (by decide +kernel)
theorem rtk_X12_hasSide : Cond.code yX12_hasSide cX12_hasSide 1 (some .boolean) ∈ TB := tbm (tc5 (List.mem_of_getElem? (i := 228) rfl)) rfl
theorem rgc_X12_hasSide : GoodIn TB (cw yX12_hasSide cX12_hasSide 1 (some .boolean)) := goodIn_c2 rtk_X12_hasSide
theorem rtb_150 : Cond.methodLink "ToneLinesModel" 137 yX12_hasSide ∈ TB := tbm (tc5 (List.mem_of_getElem? (i := 226) rfl)) rfl
theorem rtb_151 : Cond.static yX12_hasSide ∈ TB := tbm (tc5 (List.mem_of_getElem? (i := 227) rfl)) rfl
theorem rgs_X12_137 : GoodIn TB (va_wsS RX12 137 yX12_hasSide (cw yX12_hasSide cX12_hasSide 1 (some .boolean))) := goodIn_3 rtb_150 rtb_151 rtb_119 rgc_X12_hasSide
theorem rhs_X12_hasSide : yX12_hasSide.cls ≠ "java/lang/invoke/MethodHandle" ∧ yX12_hasSide.cls ≠ "java/lang/invoke/VarHandle" ∧ (parseMethodDescriptor yX12_hasSide.desc).map (fun d => d.parameters.length) = some 1 := by decide +kernel
theorem rdX12_readsRule_152 : decode cX12_readsRule 152 = .ok (.ifCond .eq 17, 3) := dqT kk_153 (by decide +kernel)
theorem rdX12_readsRule_155 : decode cX12_readsRule 155 = .ok (.aload_n 0, 1) := dq0 kk_42 (by decide +kernel)
theorem rdX12_readsRule_156 : decode cX12_readsRule 156 = .ok (.getfield 33, 3) := dqV kk_180 (by decide +kernel)
theorem rdX12_readsRule_159 : decode cX12_readsRule 159 = .ok (.iconst 4, 1) := dq0 kk_7 (by decide +kernel)
theorem rdX12_readsRule_160 : decode cX12_readsRule 160 = .ok (.aload_n 0, 1) := dq0 kk_42 (by decide +kernel)
theorem rdX12_readsRule_161 : decode cX12_readsRule 161 = .ok (.bipush 15, 2) := dqS kk_16 (by decide +kernel)
theorem rdX12_readsRule_163 : decode cX12_readsRule 163 = .ok (.bipush 16, 2) := dqS kk_16 (by decide +kernel)
theorem rdX12_readsRule_165 : decode cX12_readsRule 165 = .ok (.invokevirtual 227, 3) := dqV kk_182 (by decide +kernel)
theorem rdX12_readsRule_168 : decode cX12_readsRule 168 = .ok (.iastore, 1) := dq0 kk_79 (by decide +kernel)
theorem rdX12_readsRule_169 : decode cX12_readsRule 169 = .ok (.iload_n 1, 1) := dq0 kk_27 (by decide +kernel)
theorem rdX12_readsRule_170 : decode cX12_readsRule 170 = .ok (.iconst 3, 1) := dq0 kk_6 (by decide +kernel)
theorem rdX12_readsRule_171 : decode cX12_readsRule 171 = .ok (.if_icmp .eq 9, 3) := dqT kk_159 (by decide +kernel)
theorem rdX12_readsRule_174 : decode cX12_readsRule 174 = .ok (.iload_n 1, 1) := dq0 kk_27 (by decide +kernel)
theorem rdX12_readsRule_175 : decode cX12_readsRule 175 = .ok (.bipush 8, 2) := dqS kk_16 (by decide +kernel)
theorem rdX12_readsRule_177 : decode cX12_readsRule 177 = .ok (.if_icmp .ne 17, 3) := dqT kk_160 (by decide +kernel)
theorem rdX12_readsRule_194 : decode cX12_readsRule 194 = .ok (.iload_n 1, 1) := dq0 kk_27 (by decide +kernel)
theorem rdX12_readsRule_195 : decode cX12_readsRule 195 = .ok (.iconst 1, 1) := dq0 kk_4 (by decide +kernel)
theorem rdX12_readsRule_196 : decode cX12_readsRule 196 = .ok (.if_icmp .ne 13, 3) := dqT kk_160 (by decide +kernel)
theorem rdX12_readsRule_209 : decode cX12_readsRule 209 = .ok (.aload_n 0, 1) := dq0 kk_42 (by decide +kernel)
theorem rdX12_readsRule_210 : decode cX12_readsRule 210 = .ok (.getfield 217, 3) := dqV kk_180 (by decide +kernel)
theorem rdX12_readsRule_213 : decode cX12_readsRule 213 = .ok (.ifCond .ne 23, 3) := dqT kk_154 (by decide +kernel)
theorem rdX12_readsRule_236 : decode cX12_readsRule 236 = .ok (.aload_n 0, 1) := dq0 kk_42 (by decide +kernel)
theorem rdX12_readsRule_237 : decode cX12_readsRule 237 = .ok (.getfield 217, 3) := dqV kk_180 (by decide +kernel)
theorem rdX12_readsRule_240 : decode cX12_readsRule 240 = .ok (.ifCond .eq 4, 3) := dqT kk_153 (by decide +kernel)
theorem rdX12_readsRule_243 : decode cX12_readsRule 243 = .ok (.return_, 1) := dq0 kk_177 (by decide +kernel)
theorem rdX12_readsRule_216 : decode cX12_readsRule 216 = .ok (.iload_n 1, 1) := dq0 kk_27 (by decide +kernel)
theorem rdX12_readsRule_217 : decode cX12_readsRule 217 = .ok (.invokestatic 140, 3) := dqV kk_184 (by decide +kernel)
theorem rtk_X12_isBySyllables : Cond.code yX12_isBySyllables cX12_isBySyllables 1 (some .boolean) ∈ TB := tbm (tc5 (List.mem_of_getElem? (i := 231) rfl)) rfl
theorem rgc_X12_isBySyllables : GoodIn TB (cw yX12_isBySyllables cX12_isBySyllables 1 (some .boolean)) := goodIn_c2 rtk_X12_isBySyllables
theorem rtb_152 : Cond.methodLink "ToneLinesModel" 140 yX12_isBySyllables ∈ TB := tbm (tc5 (List.mem_of_getElem? (i := 229) rfl)) rfl
theorem rtb_153 : Cond.static yX12_isBySyllables ∈ TB := tbm (tc5 (List.mem_of_getElem? (i := 230) rfl)) rfl
theorem rgs_X12_140 : GoodIn TB (va_wsS RX12 140 yX12_isBySyllables (cw yX12_isBySyllables cX12_isBySyllables 1 (some .boolean))) := goodIn_3 rtb_152 rtb_153 rtb_119 rgc_X12_isBySyllables
theorem rhs_X12_isBySyllables : yX12_isBySyllables.cls ≠ "java/lang/invoke/MethodHandle" ∧ yX12_isBySyllables.cls ≠ "java/lang/invoke/VarHandle" ∧ (parseMethodDescriptor yX12_isBySyllables.desc).map (fun d => d.parameters.length) = some 1 := by decide +kernel
theorem rdX12_readsRule_220 : decode cX12_readsRule 220 = .ok (.ifCond .ne 16, 3) := dqT kk_154 (by decide +kernel)
theorem rdX12_readsRule_244 : decode cX12_readsRule 244 = .ok (.aload_n 0, 1) := dq0 kk_42 (by decide +kernel)
theorem rdX12_readsRule_245 : decode cX12_readsRule 245 = .ok (.getfield 204, 3) := dqV kk_180 (by decide +kernel)
theorem rdX12_readsRule_248 : decode cX12_readsRule 248 = .ok (.iconst 3, 1) := dq0 kk_6 (by decide +kernel)
theorem rdX12_readsRule_249 : decode cX12_readsRule 249 = .ok (.if_icmp .ne 10, 3) := dqT kk_160 (by decide +kernel)
theorem rdX12_readsRule_259 : decode cX12_readsRule 259 = .ok (.aload_n 0, 1) := dq0 kk_42 (by decide +kernel)
theorem rdX12_readsRule_260 : decode cX12_readsRule 260 = .ok (.iconst 1, 1) := dq0 kk_4 (by decide +kernel)
theorem rdX12_readsRule_261 : decode cX12_readsRule 261 = .ok (.putfield 217, 3) := dqV kk_181 (by decide +kernel)
theorem rdX12_readsRule_264 : decode cX12_readsRule 264 = .ok (.return_, 1) := dq0 kk_177 (by decide +kernel)
theorem rdX12_readsRule_252 : decode cX12_readsRule 252 = .ok (.aload_n 0, 1) := dq0 kk_42 (by decide +kernel)
theorem rdX12_readsRule_253 : decode cX12_readsRule 253 = .ok (.invokevirtual 221, 3) := dqV kk_182 (by decide +kernel)
theorem rdX12_readsRule_256 : decode cX12_readsRule 256 = .ok (.goto 8, 3) := dqT kk_167 (by decide +kernel)
theorem rdX12_readsRule_94 : decode cX12_readsRule 94 = .ok (.aload_n 0, 1) := dq0 kk_42 (by decide +kernel)
theorem rdX12_readsRule_95 : decode cX12_readsRule 95 = .ok (.getfield 33, 3) := dqV kk_180 (by decide +kernel)
theorem rdX12_readsRule_98 : decode cX12_readsRule 98 = .ok (.iconst 2, 1) := dq0 kk_5 (by decide +kernel)
theorem rdX12_readsRule_99 : decode cX12_readsRule 99 = .ok (.aload_n 0, 1) := dq0 kk_42 (by decide +kernel)
theorem rdX12_readsRule_100 : decode cX12_readsRule 100 = .ok (.bipush 11, 2) := dqS kk_16 (by decide +kernel)
theorem rdX12_readsRule_102 : decode cX12_readsRule 102 = .ok (.iload_n 1, 1) := dq0 kk_27 (by decide +kernel)
theorem rdX12_readsRule_103 : decode cX12_readsRule 103 = .ok (.bipush 9, 2) := dqS kk_16 (by decide +kernel)
theorem rdX12_readsRule_105 : decode cX12_readsRule 105 = .ok (.if_icmp .ne 8, 3) := dqT kk_160 (by decide +kernel)
theorem rdX12_readsRule_113 : decode cX12_readsRule 113 = .ok (.bipush 14, 2) := dqS kk_16 (by decide +kernel)
theorem rdX12_readsRule_115 : decode cX12_readsRule 115 = .ok (.invokevirtual 227, 3) := dqV kk_182 (by decide +kernel)
theorem rdX12_readsRule_118 : decode cX12_readsRule 118 = .ok (.iastore, 1) := dq0 kk_79 (by decide +kernel)
theorem rdX12_readsRule_199 : decode cX12_readsRule 199 = .ok (.aload_n 0, 1) := dq0 kk_42 (by decide +kernel)
theorem rdX12_readsRule_200 : decode cX12_readsRule 200 = .ok (.getfield 33, 3) := dqV kk_180 (by decide +kernel)
theorem rdX12_readsRule_203 : decode cX12_readsRule 203 = .ok (.iconst 3, 1) := dq0 kk_6 (by decide +kernel)
theorem rdX12_readsRule_204 : decode cX12_readsRule 204 = .ok (.aload_n 0, 1) := dq0 kk_42 (by decide +kernel)
theorem rdX12_readsRule_205 : decode cX12_readsRule 205 = .ok (.invokevirtual 230, 3) := dqV kk_182 (by decide +kernel)
theorem rtk_X12_needsNumber : Cond.code yX12_needsNumber cX12_needsNumber 2 (some .int) ∈ TB := tbm (tc5 (List.mem_of_getElem? (i := 225) rfl)) rfl
theorem rgc_X12_needsNumber : GoodIn TB (cw yX12_needsNumber cX12_needsNumber 2 (some .int)) := goodIn_c2 rtk_X12_needsNumber
theorem rtb_154 : Cond.methodLink "ToneLinesModel" 230 yX12_needsNumber ∈ TB := tbm (tc5 (List.mem_of_getElem? (i := 222) rfl)) rfl
theorem rtb_155 : Cond.instanceMethod yX12_needsNumber ∈ TB := tbm (tc5 (List.mem_of_getElem? (i := 224) rfl)) rfl
theorem rtb_156 : Cond.selects "ToneLinesModel" yX12_needsNumber yX12_needsNumber ∈ TB := tbp (List.mem_of_getElem? (i := 48) rfl) rfl
theorem rgv_X12_230 : GoodIn TB (wsV RX12 230 RX12 yX12_needsNumber (cw yX12_needsNumber cX12_needsNumber 2 (some .int))) := goodIn_4 rtb_154 rtb_155 rtb_156 rtb_119 rgc_X12_needsNumber
theorem rhv_X12_needsNumber : yX12_needsNumber.cls = RX12 ∧ yX12_needsNumber.cls ≠ "java/lang/invoke/MethodHandle" ∧ yX12_needsNumber.cls ≠ "java/lang/invoke/VarHandle" ∧ (parseMethodDescriptor yX12_needsNumber.desc).map (fun d => d.parameters.length) = some 0 := by decide +kernel
theorem rdX12_readsRule_208 : decode cX12_readsRule 208 = .ok (.iastore, 1) := dq0 kk_79 (by decide +kernel)
theorem rdX12_readsRule_223 : decode cX12_readsRule 223 = .ok (.aload_n 0, 1) := dq0 kk_42 (by decide +kernel)
theorem rdX12_readsRule_224 : decode cX12_readsRule 224 = .ok (.bipush 20, 2) := dqS kk_16 (by decide +kernel)
theorem rdX12_readsRule_226 : decode cX12_readsRule 226 = .ok (.invokevirtual 224, 3) := dqV kk_182 (by decide +kernel)
theorem rdX12_readsRule_229 : decode cX12_readsRule 229 = .ok (.ifCond .eq 7, 3) := dqT kk_153 (by decide +kernel)
theorem rdX12_readsRule_232 : decode cX12_readsRule 232 = .ok (.aload_n 0, 1) := dq0 kk_42 (by decide +kernel)
theorem rdX12_readsRule_233 : decode cX12_readsRule 233 = .ok (.invokevirtual 233, 3) := dqV kk_182 (by decide +kernel)
theorem rtk_X12_readsTest : Cond.code yX12_readsTest cX12_readsTest 1 none ∈ TB := tbm (tc5 (List.mem_of_getElem? (i := 235) rfl)) rfl
theorem rgc_X12_readsTest : GoodIn TB (cw yX12_readsTest cX12_readsTest 1 none) := goodIn_c2 rtk_X12_readsTest
theorem rtb_157 : Cond.methodLink "ToneLinesModel" 233 yX12_readsTest ∈ TB := tbm (tc5 (List.mem_of_getElem? (i := 232) rfl)) rfl
theorem rtb_158 : Cond.instanceMethod yX12_readsTest ∈ TB := tbm (tc5 (List.mem_of_getElem? (i := 234) rfl)) rfl
theorem rtb_159 : Cond.selects "ToneLinesModel" yX12_readsTest yX12_readsTest ∈ TB := tbp (List.mem_of_getElem? (i := 49) rfl) rfl
theorem rgv_X12_233 : GoodIn TB (wsV RX12 233 RX12 yX12_readsTest (cw yX12_readsTest cX12_readsTest 1 none)) := goodIn_4 rtb_157 rtb_158 rtb_159 rtb_119 rgc_X12_readsTest
theorem rhv_X12_readsTest : yX12_readsTest.cls = RX12 ∧ yX12_readsTest.cls ≠ "java/lang/invoke/MethodHandle" ∧ yX12_readsTest.cls ≠ "java/lang/invoke/VarHandle" ∧ (parseMethodDescriptor yX12_readsTest.desc).map (fun d => d.parameters.length) = some 0 := by decide +kernel
theorem rdX12_readsRule_180 : decode cX12_readsRule 180 = .ok (.aload_n 0, 1) := dq0 kk_42 (by decide +kernel)
theorem rdX12_readsRule_181 : decode cX12_readsRule 181 = .ok (.getfield 33, 3) := dqV kk_180 (by decide +kernel)
theorem rdX12_readsRule_184 : decode cX12_readsRule 184 = .ok (.iconst 4, 1) := dq0 kk_7 (by decide +kernel)
theorem rdX12_readsRule_185 : decode cX12_readsRule 185 = .ok (.aload_n 0, 1) := dq0 kk_42 (by decide +kernel)
theorem rdX12_readsRule_186 : decode cX12_readsRule 186 = .ok (.bipush 17, 2) := dqS kk_16 (by decide +kernel)
theorem rdX12_readsRule_188 : decode cX12_readsRule 188 = .ok (.bipush 18, 2) := dqS kk_16 (by decide +kernel)
theorem rdX12_readsRule_190 : decode cX12_readsRule 190 = .ok (.invokevirtual 227, 3) := dqV kk_182 (by decide +kernel)
theorem rdX12_readsRule_193 : decode cX12_readsRule 193 = .ok (.iastore, 1) := dq0 kk_79 (by decide +kernel)
theorem rdX12_readsRule_125 : decode cX12_readsRule 125 = .ok (.aload_n 0, 1) := dq0 kk_42 (by decide +kernel)
theorem rdX12_readsRule_126 : decode cX12_readsRule 126 = .ok (.bipush 19, 2) := dqS kk_16 (by decide +kernel)
theorem rdX12_readsRule_128 : decode cX12_readsRule 128 = .ok (.bipush 19, 2) := dqS kk_16 (by decide +kernel)
theorem rdX12_readsRule_130 : decode cX12_readsRule 130 = .ok (.invokevirtual 227, 3) := dqV kk_182 (by decide +kernel)
theorem rdX12_readsRule_133 : decode cX12_readsRule 133 = .ok (.pop, 1) := dq0 kk_87 (by decide +kernel)
theorem rdX12_readsRule_134 : decode cX12_readsRule 134 = .ok (.aload_n 0, 1) := dq0 kk_42 (by decide +kernel)
theorem rdX12_readsRule_135 : decode cX12_readsRule 135 = .ok (.getfield 33, 3) := dqV kk_180 (by decide +kernel)
theorem rdX12_readsRule_138 : decode cX12_readsRule 138 = .ok (.iconst 3, 1) := dq0 kk_6 (by decide +kernel)
theorem rdX12_readsRule_139 : decode cX12_readsRule 139 = .ok (.aload_n 0, 1) := dq0 kk_42 (by decide +kernel)
theorem rdX12_readsRule_140 : decode cX12_readsRule 140 = .ok (.bipush 11, 2) := dqS kk_16 (by decide +kernel)
theorem rdX12_readsRule_142 : decode cX12_readsRule 142 = .ok (.bipush 13, 2) := dqS kk_16 (by decide +kernel)
theorem rdX12_readsRule_144 : decode cX12_readsRule 144 = .ok (.invokevirtual 227, 3) := dqV kk_182 (by decide +kernel)
theorem rdX12_readsRule_147 : decode cX12_readsRule 147 = .ok (.iastore, 1) := dq0 kk_79 (by decide +kernel)
theorem rdX12_readsRule_77 : decode cX12_readsRule 77 = .ok (.aload_n 0, 1) := dq0 kk_42 (by decide +kernel)
theorem rdX12_readsRule_78 : decode cX12_readsRule 78 = .ok (.getfield 33, 3) := dqV kk_180 (by decide +kernel)
theorem rdX12_readsRule_81 : decode cX12_readsRule 81 = .ok (.iconst 3, 1) := dq0 kk_6 (by decide +kernel)
theorem rdX12_readsRule_82 : decode cX12_readsRule 82 = .ok (.aload_n 0, 1) := dq0 kk_42 (by decide +kernel)
theorem rdX12_readsRule_83 : decode cX12_readsRule 83 = .ok (.invokevirtual 230, 3) := dqV kk_182 (by decide +kernel)
theorem rdX12_readsRule_86 : decode cX12_readsRule 86 = .ok (.iastore, 1) := dq0 kk_79 (by decide +kernel)
theorem rdX12_readsRule_87 : decode cX12_readsRule 87 = .ok (.goto 32, 3) := dqT kk_167 (by decide +kernel)
theorem rdX12_readsRule_108 : decode cX12_readsRule 108 = .ok (.bipush 13, 2) := dqS kk_16 (by decide +kernel)
theorem rdX12_readsRule_110 : decode cX12_readsRule 110 = .ok (.goto 5, 3) := dqT kk_167 (by decide +kernel)
set_option maxRecDepth 4000 in
theorem t_readsRule {l : Launch} {D : va_G} {B : Nat} {cy : Nat → ClassId} {M : Mem} {T : Nat → Nat} {tn : Nat} (hT : okT T tn) (hTr : isTr M T tn) (hWd : isWd M) {b : Nat} (hR : RSr M T tn b) (hw : M.1 146 16 = zI 0) : Cv l D B cy yX12_readsRule cX12_readsRule 2 5 109 [.ref (B + 146)] M (fun M1 => YS M1 T tn (rdR T tn b) ∧ FrY M1 M) := by
  refine s_any (by decide) (Nat.le_of_ble_eq_true rfl) ?_
  intro p e s m below meth c ls F hr hlocks w hl
  have F : CallFix p m c cX12_readsRule 2 s _ TB RX12 := F
  have hx := F.1
  have hb := F.2.1
  have hl : lv_has ls 2 [(0, .ref (B + 146))] := hl
  have hN := hT.1
  refine lv_iconst (v := zI 0) hx hb rdX12_readsRule_0 rfl ?_
  refine lv_istore_n (lv' := [(1, .int (zI 0)), (0, .ref (B + 146))]) hx hb rdX12_readsRule_1 rfl hl (by decide) rfl (fun ls hl => ?_)
  refine lv_iload_n hx hb rdX12_readsRule_2 rfl (lv_at hl 0 rfl) ?_
  refine lv_bipush (v := zI 8) hx hb rdX12_readsRule_3 (by decide) ?_
  refine z_icmp_ge (tgt := 37) hx hb (by omega) (by omega) rdX12_readsRule_5 (by decide) (fun c1 => False.elim (by omega)) (fun c1 => ?_)
  refine lv_aload_n hx hb rdX12_readsRule_8 rfl (lv_at hl 1 rfl) ?_
  refine f_12_17 F w (a := 146) rfl rtb_146 rdX12_readsRule_9 ?_
  refine lv_iload_n hx hb rdX12_readsRule_12 rfl (lv_at hl 0 rfl) ?_
  refine lv_iload_n hx hb rdX12_readsRule_13 rfl (lv_at hl 0 rfl) ?_
  refine lv_iconst (v := zI 1) hx hb rdX12_readsRule_14 rfl ?_
  refine z_icmp_eq (tgt := 24) hx hb (by omega) (by omega) rdX12_readsRule_15 (by decide) (fun c2 => False.elim (by omega)) (fun c2 => ?_)
  refine lv_iload_n hx hb rdX12_readsRule_18 rfl (lv_at hl 0 rfl) ?_
  refine lv_bipush (v := zI 6) hx hb rdX12_readsRule_19 (by decide) ?_
  refine z_icmp_ne (tgt := 28) hx hb (by omega) (by omega) rdX12_readsRule_21 (by decide) (fun c3 => ?_) (fun c3 => False.elim (by omega))
  refine lv_bipush (v := zI (-2)) hx hb rdX12_readsRule_28 (by decide) ?_
  refine g_iast F w (a := 153) rfl (j := 0) ⟨by decide, by decide⟩ (by omega) rdX12_readsRule_30 (fun H locs w => ?_)
  refine z_iinc (v := 1) (lv' := [(1, .int (zI 1)), (0, .ref (B + 146))]) hx hb rdX12_readsRule_31 hl (k := 0) rfl (by omega) (by decide) rfl (fun ls hl => ?_)
  refine lv_goto (tgt := 2) hx hb rdX12_readsRule_34 (by decide) ?_
  refine lv_iload_n hx hb rdX12_readsRule_2 rfl (lv_at hl 0 rfl) ?_
  refine lv_bipush (v := zI 8) hx hb rdX12_readsRule_3 (by decide) ?_
  refine z_icmp_ge (tgt := 37) hx hb (by omega) (by omega) rdX12_readsRule_5 (by decide) (fun c4 => False.elim (by omega)) (fun c4 => ?_)
  refine lv_aload_n hx hb rdX12_readsRule_8 rfl (lv_at hl 1 rfl) ?_
  refine f_12_17 F w (a := 146) rfl rtb_146 rdX12_readsRule_9 ?_
  refine lv_iload_n hx hb rdX12_readsRule_12 rfl (lv_at hl 0 rfl) ?_
  refine lv_iload_n hx hb rdX12_readsRule_13 rfl (lv_at hl 0 rfl) ?_
  refine lv_iconst (v := zI 1) hx hb rdX12_readsRule_14 rfl ?_
  refine z_icmp_eq (tgt := 24) hx hb (by omega) (by omega) rdX12_readsRule_15 (by decide) (fun c5 => ?_) (fun c5 => False.elim (by omega))
  refine lv_iconst (v := zI 0) hx hb rdX12_readsRule_24 rfl ?_
  refine lv_goto (tgt := 30) hx hb rdX12_readsRule_25 (by decide) ?_
  refine g_iast F w (a := 153) rfl (j := 1) ⟨by decide, by decide⟩ (by omega) rdX12_readsRule_30 (fun H locs w => ?_)
  refine z_iinc (v := 2) (lv' := [(1, .int (zI 2)), (0, .ref (B + 146))]) hx hb rdX12_readsRule_31 hl (k := 0) rfl (by omega) (by decide) rfl (fun ls hl => ?_)
  refine lv_goto (tgt := 2) hx hb rdX12_readsRule_34 (by decide) ?_
  refine lv_iload_n hx hb rdX12_readsRule_2 rfl (lv_at hl 0 rfl) ?_
  refine lv_bipush (v := zI 8) hx hb rdX12_readsRule_3 (by decide) ?_
  refine z_icmp_ge (tgt := 37) hx hb (by omega) (by omega) rdX12_readsRule_5 (by decide) (fun c6 => False.elim (by omega)) (fun c6 => ?_)
  refine lv_aload_n hx hb rdX12_readsRule_8 rfl (lv_at hl 1 rfl) ?_
  refine f_12_17 F w (a := 146) rfl rtb_146 rdX12_readsRule_9 ?_
  refine lv_iload_n hx hb rdX12_readsRule_12 rfl (lv_at hl 0 rfl) ?_
  refine lv_iload_n hx hb rdX12_readsRule_13 rfl (lv_at hl 0 rfl) ?_
  refine lv_iconst (v := zI 1) hx hb rdX12_readsRule_14 rfl ?_
  refine z_icmp_eq (tgt := 24) hx hb (by omega) (by omega) rdX12_readsRule_15 (by decide) (fun c7 => False.elim (by omega)) (fun c7 => ?_)
  refine lv_iload_n hx hb rdX12_readsRule_18 rfl (lv_at hl 0 rfl) ?_
  refine lv_bipush (v := zI 6) hx hb rdX12_readsRule_19 (by decide) ?_
  refine z_icmp_ne (tgt := 28) hx hb (by omega) (by omega) rdX12_readsRule_21 (by decide) (fun c8 => ?_) (fun c8 => False.elim (by omega))
  refine lv_bipush (v := zI (-2)) hx hb rdX12_readsRule_28 (by decide) ?_
  refine g_iast F w (a := 153) rfl (j := 2) ⟨by decide, by decide⟩ (by omega) rdX12_readsRule_30 (fun H locs w => ?_)
  refine z_iinc (v := 3) (lv' := [(1, .int (zI 3)), (0, .ref (B + 146))]) hx hb rdX12_readsRule_31 hl (k := 0) rfl (by omega) (by decide) rfl (fun ls hl => ?_)
  refine lv_goto (tgt := 2) hx hb rdX12_readsRule_34 (by decide) ?_
  refine lv_iload_n hx hb rdX12_readsRule_2 rfl (lv_at hl 0 rfl) ?_
  refine lv_bipush (v := zI 8) hx hb rdX12_readsRule_3 (by decide) ?_
  refine z_icmp_ge (tgt := 37) hx hb (by omega) (by omega) rdX12_readsRule_5 (by decide) (fun c9 => False.elim (by omega)) (fun c9 => ?_)
  refine lv_aload_n hx hb rdX12_readsRule_8 rfl (lv_at hl 1 rfl) ?_
  refine f_12_17 F w (a := 146) rfl rtb_146 rdX12_readsRule_9 ?_
  refine lv_iload_n hx hb rdX12_readsRule_12 rfl (lv_at hl 0 rfl) ?_
  refine lv_iload_n hx hb rdX12_readsRule_13 rfl (lv_at hl 0 rfl) ?_
  refine lv_iconst (v := zI 1) hx hb rdX12_readsRule_14 rfl ?_
  refine z_icmp_eq (tgt := 24) hx hb (by omega) (by omega) rdX12_readsRule_15 (by decide) (fun c10 => False.elim (by omega)) (fun c10 => ?_)
  refine lv_iload_n hx hb rdX12_readsRule_18 rfl (lv_at hl 0 rfl) ?_
  refine lv_bipush (v := zI 6) hx hb rdX12_readsRule_19 (by decide) ?_
  refine z_icmp_ne (tgt := 28) hx hb (by omega) (by omega) rdX12_readsRule_21 (by decide) (fun c11 => ?_) (fun c11 => False.elim (by omega))
  refine lv_bipush (v := zI (-2)) hx hb rdX12_readsRule_28 (by decide) ?_
  refine g_iast F w (a := 153) rfl (j := 3) ⟨by decide, by decide⟩ (by omega) rdX12_readsRule_30 (fun H locs w => ?_)
  refine z_iinc (v := 4) (lv' := [(1, .int (zI 4)), (0, .ref (B + 146))]) hx hb rdX12_readsRule_31 hl (k := 0) rfl (by omega) (by decide) rfl (fun ls hl => ?_)
  refine lv_goto (tgt := 2) hx hb rdX12_readsRule_34 (by decide) ?_
  refine lv_iload_n hx hb rdX12_readsRule_2 rfl (lv_at hl 0 rfl) ?_
  refine lv_bipush (v := zI 8) hx hb rdX12_readsRule_3 (by decide) ?_
  refine z_icmp_ge (tgt := 37) hx hb (by omega) (by omega) rdX12_readsRule_5 (by decide) (fun c12 => False.elim (by omega)) (fun c12 => ?_)
  refine lv_aload_n hx hb rdX12_readsRule_8 rfl (lv_at hl 1 rfl) ?_
  refine f_12_17 F w (a := 146) rfl rtb_146 rdX12_readsRule_9 ?_
  refine lv_iload_n hx hb rdX12_readsRule_12 rfl (lv_at hl 0 rfl) ?_
  refine lv_iload_n hx hb rdX12_readsRule_13 rfl (lv_at hl 0 rfl) ?_
  refine lv_iconst (v := zI 1) hx hb rdX12_readsRule_14 rfl ?_
  refine z_icmp_eq (tgt := 24) hx hb (by omega) (by omega) rdX12_readsRule_15 (by decide) (fun c13 => False.elim (by omega)) (fun c13 => ?_)
  refine lv_iload_n hx hb rdX12_readsRule_18 rfl (lv_at hl 0 rfl) ?_
  refine lv_bipush (v := zI 6) hx hb rdX12_readsRule_19 (by decide) ?_
  refine z_icmp_ne (tgt := 28) hx hb (by omega) (by omega) rdX12_readsRule_21 (by decide) (fun c14 => ?_) (fun c14 => False.elim (by omega))
  refine lv_bipush (v := zI (-2)) hx hb rdX12_readsRule_28 (by decide) ?_
  refine g_iast F w (a := 153) rfl (j := 4) ⟨by decide, by decide⟩ (by omega) rdX12_readsRule_30 (fun H locs w => ?_)
  refine z_iinc (v := 5) (lv' := [(1, .int (zI 5)), (0, .ref (B + 146))]) hx hb rdX12_readsRule_31 hl (k := 0) rfl (by omega) (by decide) rfl (fun ls hl => ?_)
  refine lv_goto (tgt := 2) hx hb rdX12_readsRule_34 (by decide) ?_
  refine lv_iload_n hx hb rdX12_readsRule_2 rfl (lv_at hl 0 rfl) ?_
  refine lv_bipush (v := zI 8) hx hb rdX12_readsRule_3 (by decide) ?_
  refine z_icmp_ge (tgt := 37) hx hb (by omega) (by omega) rdX12_readsRule_5 (by decide) (fun c15 => False.elim (by omega)) (fun c15 => ?_)
  refine lv_aload_n hx hb rdX12_readsRule_8 rfl (lv_at hl 1 rfl) ?_
  refine f_12_17 F w (a := 146) rfl rtb_146 rdX12_readsRule_9 ?_
  refine lv_iload_n hx hb rdX12_readsRule_12 rfl (lv_at hl 0 rfl) ?_
  refine lv_iload_n hx hb rdX12_readsRule_13 rfl (lv_at hl 0 rfl) ?_
  refine lv_iconst (v := zI 1) hx hb rdX12_readsRule_14 rfl ?_
  refine z_icmp_eq (tgt := 24) hx hb (by omega) (by omega) rdX12_readsRule_15 (by decide) (fun c16 => False.elim (by omega)) (fun c16 => ?_)
  refine lv_iload_n hx hb rdX12_readsRule_18 rfl (lv_at hl 0 rfl) ?_
  refine lv_bipush (v := zI 6) hx hb rdX12_readsRule_19 (by decide) ?_
  refine z_icmp_ne (tgt := 28) hx hb (by omega) (by omega) rdX12_readsRule_21 (by decide) (fun c17 => ?_) (fun c17 => False.elim (by omega))
  refine lv_bipush (v := zI (-2)) hx hb rdX12_readsRule_28 (by decide) ?_
  refine g_iast F w (a := 153) rfl (j := 5) ⟨by decide, by decide⟩ (by omega) rdX12_readsRule_30 (fun H locs w => ?_)
  refine z_iinc (v := 6) (lv' := [(1, .int (zI 6)), (0, .ref (B + 146))]) hx hb rdX12_readsRule_31 hl (k := 0) rfl (by omega) (by decide) rfl (fun ls hl => ?_)
  refine lv_goto (tgt := 2) hx hb rdX12_readsRule_34 (by decide) ?_
  refine lv_iload_n hx hb rdX12_readsRule_2 rfl (lv_at hl 0 rfl) ?_
  refine lv_bipush (v := zI 8) hx hb rdX12_readsRule_3 (by decide) ?_
  refine z_icmp_ge (tgt := 37) hx hb (by omega) (by omega) rdX12_readsRule_5 (by decide) (fun c18 => False.elim (by omega)) (fun c18 => ?_)
  refine lv_aload_n hx hb rdX12_readsRule_8 rfl (lv_at hl 1 rfl) ?_
  refine f_12_17 F w (a := 146) rfl rtb_146 rdX12_readsRule_9 ?_
  refine lv_iload_n hx hb rdX12_readsRule_12 rfl (lv_at hl 0 rfl) ?_
  refine lv_iload_n hx hb rdX12_readsRule_13 rfl (lv_at hl 0 rfl) ?_
  refine lv_iconst (v := zI 1) hx hb rdX12_readsRule_14 rfl ?_
  refine z_icmp_eq (tgt := 24) hx hb (by omega) (by omega) rdX12_readsRule_15 (by decide) (fun c19 => False.elim (by omega)) (fun c19 => ?_)
  refine lv_iload_n hx hb rdX12_readsRule_18 rfl (lv_at hl 0 rfl) ?_
  refine lv_bipush (v := zI 6) hx hb rdX12_readsRule_19 (by decide) ?_
  refine z_icmp_ne (tgt := 28) hx hb (by omega) (by omega) rdX12_readsRule_21 (by decide) (fun c20 => False.elim (by omega)) (fun c20 => ?_)
  refine lv_iconst (v := zI 0) hx hb rdX12_readsRule_24 rfl ?_
  refine lv_goto (tgt := 30) hx hb rdX12_readsRule_25 (by decide) ?_
  refine g_iast F w (a := 153) rfl (j := 6) ⟨by decide, by decide⟩ (by omega) rdX12_readsRule_30 (fun H locs w => ?_)
  refine z_iinc (v := 7) (lv' := [(1, .int (zI 7)), (0, .ref (B + 146))]) hx hb rdX12_readsRule_31 hl (k := 0) rfl (by omega) (by decide) rfl (fun ls hl => ?_)
  refine lv_goto (tgt := 2) hx hb rdX12_readsRule_34 (by decide) ?_
  refine lv_iload_n hx hb rdX12_readsRule_2 rfl (lv_at hl 0 rfl) ?_
  refine lv_bipush (v := zI 8) hx hb rdX12_readsRule_3 (by decide) ?_
  refine z_icmp_ge (tgt := 37) hx hb (by omega) (by omega) rdX12_readsRule_5 (by decide) (fun c21 => False.elim (by omega)) (fun c21 => ?_)
  refine lv_aload_n hx hb rdX12_readsRule_8 rfl (lv_at hl 1 rfl) ?_
  refine f_12_17 F w (a := 146) rfl rtb_146 rdX12_readsRule_9 ?_
  refine lv_iload_n hx hb rdX12_readsRule_12 rfl (lv_at hl 0 rfl) ?_
  refine lv_iload_n hx hb rdX12_readsRule_13 rfl (lv_at hl 0 rfl) ?_
  refine lv_iconst (v := zI 1) hx hb rdX12_readsRule_14 rfl ?_
  refine z_icmp_eq (tgt := 24) hx hb (by omega) (by omega) rdX12_readsRule_15 (by decide) (fun c22 => False.elim (by omega)) (fun c22 => ?_)
  refine lv_iload_n hx hb rdX12_readsRule_18 rfl (lv_at hl 0 rfl) ?_
  refine lv_bipush (v := zI 6) hx hb rdX12_readsRule_19 (by decide) ?_
  refine z_icmp_ne (tgt := 28) hx hb (by omega) (by omega) rdX12_readsRule_21 (by decide) (fun c23 => ?_) (fun c23 => False.elim (by omega))
  refine lv_bipush (v := zI (-2)) hx hb rdX12_readsRule_28 (by decide) ?_
  refine g_iast F w (a := 153) rfl (j := 7) ⟨by decide, by decide⟩ (by omega) rdX12_readsRule_30 (fun H locs w => ?_)
  refine z_iinc (v := 8) (lv' := [(1, .int (zI 8)), (0, .ref (B + 146))]) hx hb rdX12_readsRule_31 hl (k := 0) rfl (by omega) (by decide) rfl (fun ls hl => ?_)
  refine lv_goto (tgt := 2) hx hb rdX12_readsRule_34 (by decide) ?_
  refine lv_iload_n hx hb rdX12_readsRule_2 rfl (lv_at hl 0 rfl) ?_
  refine lv_bipush (v := zI 8) hx hb rdX12_readsRule_3 (by decide) ?_
  refine z_icmp_ge (tgt := 37) hx hb (by omega) (by omega) rdX12_readsRule_5 (by decide) (fun c24 => ?_) (fun c24 => False.elim (by omega))
  have Y0 : YS (st (st (st (st (st (st (st (st M 153 0 (zI (-2))) 153 1 (zI 0)) 153 2 (zI (-2))) 153 3 (zI (-2))) 153 4 (zI (-2))) 153 5 (zI (-2))) 153 6 (zI 0)) 153 7 (zI (-2))) T tn (1, b, P0) := YS_init hTr hWd hR hw
  have F0y : FrY (st (st (st (st (st (st (st (st M 153 0 (zI (-2))) 153 1 (zI 0)) 153 2 (zI (-2))) 153 3 (zI (-2))) 153 4 (zI (-2))) 153 5 (zI (-2))) 153 6 (zI 0)) 153 7 (zI (-2))) M := FrY.o (FrY.o (FrY.o (FrY.o (FrY.o (FrY.o (FrY.o (FrY.o FrY.rf)))))))
  generalize (st (st (st (st (st (st (st (st M 153 0 (zI (-2))) 153 1 (zI 0)) 153 2 (zI (-2))) 153 3 (zI (-2))) 153 4 (zI (-2))) 153 5 (zI (-2))) 153 6 (zI 0)) 153 7 (zI (-2))) = Mz0 at w Y0 F0y
  refine lv_aload_n hx hb rdX12_readsRule_37 rfl (lv_at hl 1 rfl) ?_
  refine lv_iconst (v := zI 0) hx hb rdX12_readsRule_38 rfl ?_
  refine k_Vi F w (As := [.int (zI 0)]) (rest := []) (a := 146) (kd_lt (a := 146) (show kd 146 = (12, 0, 0) from rfl) (by decide)) (sh_12 rfl _ _) rfl (t_isWord hT (x := (1, b, P0)) Y0 (lo := 0) (by decide)) rgv_X12_224 rhv_X12_isWord ⟨(Nat.le_of_ble_eq_true rfl), (Nat.le_of_ble_eq_true rfl)⟩ hl.1 rfl (Nat.le_of_ble_eq_true rfl) ⟨Nat.zero_le _, Nat.zero_le _⟩ rdX12_readsRule_39 (fun r Ma26 H locs hp w => ?_)
  rcases hp with ⟨⟨hb25, rfl⟩ | ⟨hb25, rfl⟩, hMe⟩
  · rw [hMe] at w
    refine z_if_eq (tgt := 56) hx hb (by omega) rdX12_readsRule_42 (by decide) (fun c27 => False.elim (by omega)) (fun c27 => ?_)
    refine lv_aload_n hx hb rdX12_readsRule_45 rfl (lv_at hl 1 rfl) ?_
    refine f_12_17 F w (a := 146) rfl rtb_146 rdX12_readsRule_46 ?_
    refine lv_iconst (v := zI 1) hx hb rdX12_readsRule_49 rfl ?_
    refine lv_iconst (v := zI 1) hx hb rdX12_readsRule_50 rfl ?_
    refine g_iast F w (a := 153) rfl (j := 1) ⟨by decide, by decide⟩ (by omega) rdX12_readsRule_51 (fun H locs w => ?_)
    have Yq28 : YS (st Mz0 153 1 (zI 1)) T tn (1, b, updI P0 1 1) := YS.p Y0
    have Fq28 : FrY (st Mz0 153 1 (zI 1)) M := FrY.o F0y
    generalize (st Mz0 153 1 (zI 1)) = Mzq28 at w Yq28 Fq28
    refine lv_aload_n hx hb rdX12_readsRule_52 rfl (lv_at hl 1 rfl) ?_
    refine k_Vv F w (As := []) (rest := []) (a := 146) (kd_lt (a := 146) (show kd 146 = (12, 0, 0) from rfl) (by decide)) (sh_12 rfl _ _) rfl (t_goesOn hT Yq28.2.1 Yq28.2.2.1 (E := en T tn b) (wa := tok T tn b) (en_le Yq28.2.2.2.1.1).2.1 Yq28.2.2.2.1.2.2.1 Yq28.2.2.2.1.2.2.2.1 (tok_le T tn _) (tok_w Yq28.2.2.2.1.1 (Or.inl (tk_w0 (T := T) (N := tn) hR.1 hb25)))) rgv_X12_221 rhv_X12_goesOn ⟨(Nat.le_of_ble_eq_true rfl), (Nat.le_of_ble_eq_true rfl)⟩ hl.1 rfl (Nat.le_of_ble_eq_true rfl) ⟨Nat.zero_le _, Nat.zero_le _⟩ rdX12_readsRule_53 (fun Ma30 H locs hp w => ?_)
    rcases hp with ⟨hRn29, hGn29⟩
    have hYn29 := YS.go Yq28 rfl hRn29 hGn29
    have hFn29 : FrY Ma30 M := FrY.tr Fq28 (FrY.w (FrW.g hGn29))
    have eq31 : (rdO T tn 0 1 (1, b, P0)) = (1, en T tn b, (updI P0 1 1)) := rdO_y rfl hb25
    have Yq31 : YS Ma30 T tn (rdO T tn 0 1 (1, b, P0)) := YS.e hYn29 eq31
    refine lv_aload_n hx hb rdX12_readsRule_56 rfl (lv_at hl 1 rfl) ?_
    refine lv_iconst (v := zI 1) hx hb rdX12_readsRule_57 rfl ?_
    refine lv_bipush (v := zI 10) hx hb rdX12_readsRule_58 (by decide) ?_
    refine k_Vi F w (As := [.int (zI 1), .int (zI 10)]) (rest := []) (a := 146) (kd_lt (a := 146) (show kd 146 = (12, 0, 0) from rfl) (by decide)) (sh_12 rfl _ _) rfl (t_needs hT (x := (rdO T tn 0 1 (1, b, P0))) Yq31 (lo := 1) (hi := 10) (by decide) (by decide)) rgv_X12_227 rhv_X12_needs ⟨(Nat.le_of_ble_eq_true rfl), (Nat.le_of_ble_eq_true rfl)⟩ hl.1 rfl (Nat.le_of_ble_eq_true rfl) ⟨Nat.zero_le _, Nat.zero_le _⟩ rdX12_readsRule_60 (fun r Ma33 H locs hp w => ?_)
    rcases hp with ⟨vn32, rfl, hFn32, hVn32, hBn32, -, hSn32, hWn32⟩
    have hFn32 : FrY Ma33 M := FrY.tr hFn29 (FrY.w hFn32)
    have hV : YS (st Ma33 153 0 (zI vn32)) T tn (rdV T tn b) := hSn32 0
    rcases hV.1.1 with gV | gV
    · have hv0 : vn32 = 0 := by have h1 := rdC_f rdO_1 gV; rcases hVn32 with h2 | h2; exact h2; omega
      clear hVn32
      subst hv0
      refine lv_istore_n (lv' := [(1, .int (zI 0)), (0, .ref (B + 146))]) hx hb rdX12_readsRule_63 rfl hl (by decide) rfl (fun ls hl => ?_)
      refine lv_aload_n hx hb rdX12_readsRule_64 rfl (lv_at hl 1 rfl) ?_
      refine f_12_17 F w (a := 146) rfl rtb_146 rdX12_readsRule_65 ?_
      refine lv_iconst (v := zI 0) hx hb rdX12_readsRule_68 rfl ?_
      refine lv_iload_n hx hb rdX12_readsRule_69 rfl (lv_at hl 0 rfl) ?_
      refine g_iast F w (a := 153) rfl (j := 0) ⟨by decide, by decide⟩ (by omega) rdX12_readsRule_70 (fun H locs w => ?_)
      refine lv_iload_n hx hb rdX12_readsRule_71 rfl (lv_at hl 0 rfl) ?_
      refine lv_bipush (v := zI 8) hx hb rdX12_readsRule_72 (by decide) ?_
      refine z_icmp_ne (tgt := 90) hx hb (by omega) (by omega) rdX12_readsRule_74 (by decide) (fun c34 => ?_) (fun c34 => False.elim (by omega))
      refine lv_iload_n hx hb rdX12_readsRule_90 rfl (lv_at hl 0 rfl) ?_
      refine z_if_eq (tgt := 119) hx hb (by omega) rdX12_readsRule_91 (by decide) (fun c35 => ?_) (fun c35 => False.elim (by omega))
      refine lv_iload_n hx hb rdX12_readsRule_119 rfl (lv_at hl 0 rfl) ?_
      refine lv_bipush (v := zI 7) hx hb rdX12_readsRule_120 (by decide) ?_
      refine z_icmp_ne (tgt := 148) hx hb (by omega) (by omega) rdX12_readsRule_122 (by decide) (fun c36 => ?_) (fun c36 => False.elim (by omega))
      refine lv_iload_n hx hb rdX12_readsRule_148 rfl (lv_at hl 0 rfl) ?_
      refine k_Si F w (As := [.int (zI 0)]) (rest := []) (t_hasSide (z := 0) (by omega)) rgs_X12_137 rhs_X12_hasSide ⟨(Nat.le_of_ble_eq_true rfl), (Nat.le_of_ble_eq_true rfl)⟩ hl.1 rfl (Nat.le_of_ble_eq_true rfl) ⟨Nat.zero_le _, Nat.zero_le _⟩ rdX12_readsRule_149 (fun r Ma38 H locs hp w => ?_)
      rcases hp with ⟨⟨hb37, rfl⟩ | ⟨hb37, rfl⟩, hMe⟩
      · rw [hMe] at w
        refine z_if_eq (tgt := 169) hx hb (by omega) rdX12_readsRule_152 (by decide) (fun c39 => False.elim (by omega)) (fun c39 => ?_)
        refine lv_aload_n hx hb rdX12_readsRule_155 rfl (lv_at hl 1 rfl) ?_
        refine f_12_17 F w (a := 146) rfl rtb_146 rdX12_readsRule_156 ?_
        refine lv_iconst (v := zI 4) hx hb rdX12_readsRule_159 rfl ?_
        refine lv_aload_n hx hb rdX12_readsRule_160 rfl (lv_at hl 1 rfl) ?_
        refine lv_bipush (v := zI 15) hx hb rdX12_readsRule_161 (by decide) ?_
        refine lv_bipush (v := zI 16) hx hb rdX12_readsRule_163 (by decide) ?_
        have Yq40 : YS (st Ma33 153 0 (zI 0)) T tn (rdV T tn b) := hV
        have Fq40 : FrY (st Ma33 153 0 (zI 0)) M := FrY.o hFn32
        generalize (st Ma33 153 0 (zI 0)) = Mzq40 at w Yq40 Fq40
        refine k_Vi F w (As := [.int (zI 15), .int (zI 16)]) (rest := [.int (zI 4), .ref (B + 153)]) (a := 146) (kd_lt (a := 146) (show kd 146 = (12, 0, 0) from rfl) (by decide)) (sh_12 rfl _ _) rfl (t_needs hT (x := (rdV T tn b)) Yq40 (lo := 15) (hi := 16) (by decide) (by decide)) rgv_X12_227 rhv_X12_needs ⟨(Nat.le_of_ble_eq_true rfl), (Nat.le_of_ble_eq_true rfl)⟩ hl.1 rfl (Nat.le_of_ble_eq_true rfl) ⟨Nat.zero_le _, Nat.zero_le _⟩ rdX12_readsRule_165 (fun r Ma42 H locs hp w => ?_)
        rcases hp with ⟨vn41, rfl, hFn41, -, -, -, hSn41, hWn41⟩
        have hFn41 : FrY Ma42 M := FrY.tr Fq40 (FrY.w hFn41)
        refine g_iast F w (a := 153) rfl (j := 4) ⟨by decide, by decide⟩ (by omega) rdX12_readsRule_168 (fun H locs w => ?_)
        refine lv_iload_n hx hb rdX12_readsRule_169 rfl (lv_at hl 0 rfl) ?_
        refine lv_iconst (v := zI 3) hx hb rdX12_readsRule_170 rfl ?_
        refine z_icmp_eq (tgt := 180) hx hb (by omega) (by omega) rdX12_readsRule_171 (by decide) (fun c43 => False.elim (by omega)) (fun c43 => ?_)
        refine lv_iload_n hx hb rdX12_readsRule_174 rfl (lv_at hl 0 rfl) ?_
        refine lv_bipush (v := zI 8) hx hb rdX12_readsRule_175 (by decide) ?_
        refine z_icmp_ne (tgt := 194) hx hb (by omega) (by omega) rdX12_readsRule_177 (by decide) (fun c44 => ?_) (fun c44 => False.elim (by omega))
        refine lv_iload_n hx hb rdX12_readsRule_194 rfl (lv_at hl 0 rfl) ?_
        refine lv_iconst (v := zI 1) hx hb rdX12_readsRule_195 rfl ?_
        refine z_icmp_ne (tgt := 209) hx hb (by omega) (by omega) rdX12_readsRule_196 (by decide) (fun c45 => ?_) (fun c45 => False.elim (by omega))
        have Yq46 : YS (st Ma42 153 4 (zI vn41)) T tn (rdC T tn 15 16 4 (rdV T tn b)) := hSn41 4
        have Fq46 : FrY (st Ma42 153 4 (zI vn41)) M := FrY.o hFn41
        generalize (st Ma42 153 4 (zI vn41)) = Mzq46 at w Yq46 Fq46
        have hGf := Yq46.1.1
        have hG0 : Prod.fst (rdC T tn 15 16 4 (rdV T tn b)) = 0 := by rw [rdC_0 gV]; exact gV
        refine lv_aload_n hx hb rdX12_readsRule_209 rfl (lv_at hl 1 rfl) ?_
        refine f_12_16 F w (a := 146) rfl rtb_139 rdX12_readsRule_210 ?_
        refine r_val (v := (zI (1 - ((Prod.fst (rdC T tn 15 16 4 (rdV T tn b)) : Nat) : Int)))) (Yq46.2.2.2.2.1) ?_
        refine z_if_ne (tgt := 236) hx hb (by omega) rdX12_readsRule_213 (by decide) (fun c47 => ?_) (fun c47 => False.elim (by omega))
        have hGi := Yq46.1.1
        refine lv_aload_n hx hb rdX12_readsRule_236 rfl (lv_at hl 1 rfl) ?_
        refine f_12_16 F w (a := 146) rfl rtb_139 rdX12_readsRule_237 ?_
        refine r_val (v := (zI (1 - ((Prod.fst (rdC T tn 15 16 4 (rdV T tn b)) : Nat) : Int)))) (Yq46.2.2.2.2.1) ?_
        refine z_if_eq (tgt := 244) hx hb (by omega) rdX12_readsRule_240 (by decide) (fun c48 => False.elim (by omega)) (fun c48 => ?_)
        exact e_v F w hr hlocks ⟨YS.e Yq46 ((rdR_0 gV).trans (rdC_0 gV).symm), Fq46⟩ rdX12_readsRule_243
      · exact absurd hb37 (by omega)
    · have hvv := rdV_v gV
      have hve : vn32 = (rdV T tn b).2.2 0 := hV.row (by decide) gV (by omega) (by omega)
      clear hVn32
      rcases (show vn32 = 0 ∨ vn32 = 1 ∨ vn32 = 2 ∨ vn32 = 3 ∨ vn32 = 4 ∨ vn32 = 5 ∨ vn32 = 6 ∨ vn32 = 7 ∨ vn32 = 8 ∨ vn32 = 9 by omega) with c9 | c9 | c9 | c9 | c9 | c9 | c9 | c9 | c9 | c9
      · subst c9
        refine lv_istore_n (lv' := [(1, .int (zI 0)), (0, .ref (B + 146))]) hx hb rdX12_readsRule_63 rfl hl (by decide) rfl (fun ls hl => ?_)
        refine lv_aload_n hx hb rdX12_readsRule_64 rfl (lv_at hl 1 rfl) ?_
        refine f_12_17 F w (a := 146) rfl rtb_146 rdX12_readsRule_65 ?_
        refine lv_iconst (v := zI 0) hx hb rdX12_readsRule_68 rfl ?_
        refine lv_iload_n hx hb rdX12_readsRule_69 rfl (lv_at hl 0 rfl) ?_
        refine g_iast F w (a := 153) rfl (j := 0) ⟨by decide, by decide⟩ (by omega) rdX12_readsRule_70 (fun H locs w => ?_)
        refine lv_iload_n hx hb rdX12_readsRule_71 rfl (lv_at hl 0 rfl) ?_
        refine lv_bipush (v := zI 8) hx hb rdX12_readsRule_72 (by decide) ?_
        refine z_icmp_ne (tgt := 90) hx hb (by omega) (by omega) rdX12_readsRule_74 (by decide) (fun c49 => ?_) (fun c49 => False.elim (by omega))
        refine lv_iload_n hx hb rdX12_readsRule_90 rfl (lv_at hl 0 rfl) ?_
        refine z_if_eq (tgt := 119) hx hb (by omega) rdX12_readsRule_91 (by decide) (fun c50 => ?_) (fun c50 => False.elim (by omega))
        refine lv_iload_n hx hb rdX12_readsRule_119 rfl (lv_at hl 0 rfl) ?_
        refine lv_bipush (v := zI 7) hx hb rdX12_readsRule_120 (by decide) ?_
        refine z_icmp_ne (tgt := 148) hx hb (by omega) (by omega) rdX12_readsRule_122 (by decide) (fun c51 => ?_) (fun c51 => False.elim (by omega))
        refine lv_iload_n hx hb rdX12_readsRule_148 rfl (lv_at hl 0 rfl) ?_
        refine k_Si F w (As := [.int (zI 0)]) (rest := []) (t_hasSide (z := 0) (by omega)) rgs_X12_137 rhs_X12_hasSide ⟨(Nat.le_of_ble_eq_true rfl), (Nat.le_of_ble_eq_true rfl)⟩ hl.1 rfl (Nat.le_of_ble_eq_true rfl) ⟨Nat.zero_le _, Nat.zero_le _⟩ rdX12_readsRule_149 (fun r Ma53 H locs hp w => ?_)
        rcases hp with ⟨⟨hb52, rfl⟩ | ⟨hb52, rfl⟩, hMe⟩
        · rw [hMe] at w
          refine z_if_eq (tgt := 169) hx hb (by omega) rdX12_readsRule_152 (by decide) (fun c54 => False.elim (by omega)) (fun c54 => ?_)
          refine lv_aload_n hx hb rdX12_readsRule_155 rfl (lv_at hl 1 rfl) ?_
          refine f_12_17 F w (a := 146) rfl rtb_146 rdX12_readsRule_156 ?_
          refine lv_iconst (v := zI 4) hx hb rdX12_readsRule_159 rfl ?_
          refine lv_aload_n hx hb rdX12_readsRule_160 rfl (lv_at hl 1 rfl) ?_
          refine lv_bipush (v := zI 15) hx hb rdX12_readsRule_161 (by decide) ?_
          refine lv_bipush (v := zI 16) hx hb rdX12_readsRule_163 (by decide) ?_
          have Yq55 : YS (st Ma33 153 0 (zI 0)) T tn (rdV T tn b) := hV
          have Fq55 : FrY (st Ma33 153 0 (zI 0)) M := FrY.o hFn32
          generalize (st Ma33 153 0 (zI 0)) = Mzq55 at w Yq55 Fq55
          refine k_Vi F w (As := [.int (zI 15), .int (zI 16)]) (rest := [.int (zI 4), .ref (B + 153)]) (a := 146) (kd_lt (a := 146) (show kd 146 = (12, 0, 0) from rfl) (by decide)) (sh_12 rfl _ _) rfl (t_needs hT (x := (rdV T tn b)) Yq55 (lo := 15) (hi := 16) (by decide) (by decide)) rgv_X12_227 rhv_X12_needs ⟨(Nat.le_of_ble_eq_true rfl), (Nat.le_of_ble_eq_true rfl)⟩ hl.1 rfl (Nat.le_of_ble_eq_true rfl) ⟨Nat.zero_le _, Nat.zero_le _⟩ rdX12_readsRule_165 (fun r Ma57 H locs hp w => ?_)
          rcases hp with ⟨vn56, rfl, hFn56, -, -, -, hSn56, hWn56⟩
          have hFn56 : FrY Ma57 M := FrY.tr Fq55 (FrY.w hFn56)
          refine g_iast F w (a := 153) rfl (j := 4) ⟨by decide, by decide⟩ (by omega) rdX12_readsRule_168 (fun H locs w => ?_)
          refine lv_iload_n hx hb rdX12_readsRule_169 rfl (lv_at hl 0 rfl) ?_
          refine lv_iconst (v := zI 3) hx hb rdX12_readsRule_170 rfl ?_
          refine z_icmp_eq (tgt := 180) hx hb (by omega) (by omega) rdX12_readsRule_171 (by decide) (fun c58 => False.elim (by omega)) (fun c58 => ?_)
          refine lv_iload_n hx hb rdX12_readsRule_174 rfl (lv_at hl 0 rfl) ?_
          refine lv_bipush (v := zI 8) hx hb rdX12_readsRule_175 (by decide) ?_
          refine z_icmp_ne (tgt := 194) hx hb (by omega) (by omega) rdX12_readsRule_177 (by decide) (fun c59 => ?_) (fun c59 => False.elim (by omega))
          refine lv_iload_n hx hb rdX12_readsRule_194 rfl (lv_at hl 0 rfl) ?_
          refine lv_iconst (v := zI 1) hx hb rdX12_readsRule_195 rfl ?_
          refine z_icmp_ne (tgt := 209) hx hb (by omega) (by omega) rdX12_readsRule_196 (by decide) (fun c60 => ?_) (fun c60 => False.elim (by omega))
          have Yq61 : YS (st Ma57 153 4 (zI vn56)) T tn (rdC T tn 15 16 4 (rdV T tn b)) := hSn56 4
          have Fq61 : FrY (st Ma57 153 4 (zI vn56)) M := FrY.o hFn56
          generalize (st Ma57 153 4 (zI vn56)) = Mzq61 at w Yq61 Fq61
          have hGf := Yq61.1.1
          have eP : rdP T tn ((rdV T tn b).2.2 0) (rdV T tn b) = (rdC T tn 15 16 4 (rdV T tn b)) := ((rdP_0 (by omega)).trans (by rw [rdK_0 (by omega)]))
          refine lv_aload_n hx hb rdX12_readsRule_209 rfl (lv_at hl 1 rfl) ?_
          refine f_12_16 F w (a := 146) rfl rtb_139 rdX12_readsRule_210 ?_
          refine r_val (v := (zI (1 - ((Prod.fst (rdC T tn 15 16 4 (rdV T tn b)) : Nat) : Int)))) (Yq61.2.2.2.2.1) ?_
          refine z_if_ne (tgt := 236) hx hb (by omega) rdX12_readsRule_213 (by decide) (fun c62 => ?_) (fun c62 => ?_)
          · have hGi := Yq61.1.1
            refine lv_aload_n hx hb rdX12_readsRule_236 rfl (lv_at hl 1 rfl) ?_
            refine f_12_16 F w (a := 146) rfl rtb_139 rdX12_readsRule_237 ?_
            refine r_val (v := (zI (1 - ((Prod.fst (rdC T tn 15 16 4 (rdV T tn b)) : Nat) : Int)))) (Yq61.2.2.2.2.1) ?_
            refine z_if_eq (tgt := 244) hx hb (by omega) rdX12_readsRule_240 (by decide) (fun c63 => False.elim (by omega)) (fun c63 => ?_)
            exact e_v F w hr hlocks ⟨YS.e Yq61 ((rdR_1 gV (by rw [eP]; omega)).trans eP), Fq61⟩ rdX12_readsRule_243
          · refine lv_iload_n hx hb rdX12_readsRule_216 rfl (lv_at hl 0 rfl) ?_
            refine k_Si F w (As := [.int (zI 0)]) (rest := []) (t_isBySyllables (z := 0) (by omega)) rgs_X12_140 rhs_X12_isBySyllables ⟨(Nat.le_of_ble_eq_true rfl), (Nat.le_of_ble_eq_true rfl)⟩ hl.1 rfl (Nat.le_of_ble_eq_true rfl) ⟨Nat.zero_le _, Nat.zero_le _⟩ rdX12_readsRule_217 (fun r Ma65 H locs hp w => ?_)
            rcases hp with ⟨⟨hb64, rfl⟩ | ⟨hb64, rfl⟩, hMe⟩
            · rw [hMe] at w
              refine z_if_ne (tgt := 236) hx hb (by omega) rdX12_readsRule_220 (by decide) (fun c66 => ?_) (fun c66 => False.elim (by omega))
              have hGi := Yq61.1.1
              refine lv_aload_n hx hb rdX12_readsRule_236 rfl (lv_at hl 1 rfl) ?_
              refine f_12_16 F w (a := 146) rfl rtb_139 rdX12_readsRule_237 ?_
              refine r_val (v := (zI (1 - ((Prod.fst (rdC T tn 15 16 4 (rdV T tn b)) : Nat) : Int)))) (Yq61.2.2.2.2.1) ?_
              refine z_if_eq (tgt := 244) hx hb (by omega) rdX12_readsRule_240 (by decide) (fun c67 => ?_) (fun c67 => False.elim (by omega))
              refine lv_aload_n hx hb rdX12_readsRule_244 rfl (lv_at hl 1 rfl) ?_
              refine f_12_13 F w (a := 146) rfl rtb_127 rdX12_readsRule_245 ?_
              have htl67 := tok_le T tn (Prod.fst (Prod.snd (rdC T tn 15 16 4 (rdV T tn b))))
              refine r_val (v := (zI (((tok T tn (Prod.fst (Prod.snd (rdC T tn 15 16 4 (rdV T tn b))))) : Nat) : Int))) (Yq61.2.2.2.1.2.2.2.1) ?_
              refine lv_iconst (v := zI 3) hx hb rdX12_readsRule_248 rfl ?_
              refine z_icmp_ne (tgt := 259) hx hb (by omega) (by omega) rdX12_readsRule_249 (by decide) (fun c68 => ?_) (fun c68 => ?_)
              · refine lv_aload_n hx hb rdX12_readsRule_259 rfl (lv_at hl 1 rfl) ?_
                refine lv_iconst (v := zI 1) hx hb rdX12_readsRule_260 rfl ?_
                refine u_12_16 F w (a := 146) rfl (by decide) (by decide) rtb_139 rdX12_readsRule_261 (fun H locs w => ?_)
                exact e_v F w hr hlocks ⟨YS.e (YS.bad Yq61) (rdR_I gV (by rw [eP]; exact rdI_n (Or.inr (Or.inl (by omega)))) (rdS_n (by omega) (fun q9 => absurd (tok_3.mpr q9) (by omega)))), FrY.t Fq61⟩ rdX12_readsRule_264
              · refine lv_aload_n hx hb rdX12_readsRule_252 rfl (lv_at hl 1 rfl) ?_
                refine k_Vv F w (As := []) (rest := []) (a := 146) (kd_lt (a := 146) (show kd 146 = (12, 0, 0) from rfl) (by decide)) (sh_12 rfl _ _) rfl (t_goesOn hT Yq61.2.1 Yq61.2.2.1 (E := en T tn (Prod.fst (Prod.snd (rdC T tn 15 16 4 (rdV T tn b))))) (wa := tok T tn (Prod.fst (Prod.snd (rdC T tn 15 16 4 (rdV T tn b))))) (en_le Yq61.2.2.2.1.1).2.1 Yq61.2.2.2.1.2.2.1 Yq61.2.2.2.1.2.2.2.1 (tok_le T tn _) (tok_w Yq61.2.2.2.1.1 (Or.inr (Or.inr (by omega))))) rgv_X12_221 rhv_X12_goesOn ⟨(Nat.le_of_ble_eq_true rfl), (Nat.le_of_ble_eq_true rfl)⟩ hl.1 rfl (Nat.le_of_ble_eq_true rfl) ⟨Nat.zero_le _, Nat.zero_le _⟩ rdX12_readsRule_253 (fun Ma70 H locs hp w => ?_)
                rcases hp with ⟨hRn69, hGn69⟩
                have hYn69 := YS.go Yq61 (by omega) hRn69 hGn69
                have hFn69 : FrY Ma70 M := FrY.tr Fq61 (FrY.w (FrW.g hGn69))
                refine lv_goto (tgt := 264) hx hb rdX12_readsRule_256 (by decide) ?_
                exact e_v F w hr hlocks ⟨YS.e hYn69 (rdR_I gV (by rw [eP]; exact rdI_n (Or.inr (Or.inl (by omega)))) (rdS_y (by omega) (tok_3.mp (by omega)).1 (tok_3.mp (by omega)).2)), hFn69⟩ rdX12_readsRule_264
            · exact absurd hb64 (by omega)
        · exact absurd hb52 (by omega)
      · subst c9
        refine lv_istore_n (lv' := [(1, .int (zI 1)), (0, .ref (B + 146))]) hx hb rdX12_readsRule_63 rfl hl (by decide) rfl (fun ls hl => ?_)
        refine lv_aload_n hx hb rdX12_readsRule_64 rfl (lv_at hl 1 rfl) ?_
        refine f_12_17 F w (a := 146) rfl rtb_146 rdX12_readsRule_65 ?_
        refine lv_iconst (v := zI 0) hx hb rdX12_readsRule_68 rfl ?_
        refine lv_iload_n hx hb rdX12_readsRule_69 rfl (lv_at hl 0 rfl) ?_
        refine g_iast F w (a := 153) rfl (j := 0) ⟨by decide, by decide⟩ (by omega) rdX12_readsRule_70 (fun H locs w => ?_)
        refine lv_iload_n hx hb rdX12_readsRule_71 rfl (lv_at hl 0 rfl) ?_
        refine lv_bipush (v := zI 8) hx hb rdX12_readsRule_72 (by decide) ?_
        refine z_icmp_ne (tgt := 90) hx hb (by omega) (by omega) rdX12_readsRule_74 (by decide) (fun c71 => ?_) (fun c71 => False.elim (by omega))
        refine lv_iload_n hx hb rdX12_readsRule_90 rfl (lv_at hl 0 rfl) ?_
        refine z_if_eq (tgt := 119) hx hb (by omega) rdX12_readsRule_91 (by decide) (fun c72 => False.elim (by omega)) (fun c72 => ?_)
        refine lv_aload_n hx hb rdX12_readsRule_94 rfl (lv_at hl 1 rfl) ?_
        refine f_12_17 F w (a := 146) rfl rtb_146 rdX12_readsRule_95 ?_
        refine lv_iconst (v := zI 2) hx hb rdX12_readsRule_98 rfl ?_
        refine lv_aload_n hx hb rdX12_readsRule_99 rfl (lv_at hl 1 rfl) ?_
        refine lv_bipush (v := zI 11) hx hb rdX12_readsRule_100 (by decide) ?_
        refine lv_iload_n hx hb rdX12_readsRule_102 rfl (lv_at hl 0 rfl) ?_
        refine lv_bipush (v := zI 9) hx hb rdX12_readsRule_103 (by decide) ?_
        refine z_icmp_ne (tgt := 113) hx hb (by omega) (by omega) rdX12_readsRule_105 (by decide) (fun c73 => ?_) (fun c73 => False.elim (by omega))
        refine lv_bipush (v := zI 14) hx hb rdX12_readsRule_113 (by decide) ?_
        have Yq74 : YS (st Ma33 153 0 (zI 1)) T tn (rdV T tn b) := hV
        have Fq74 : FrY (st Ma33 153 0 (zI 1)) M := FrY.o hFn32
        generalize (st Ma33 153 0 (zI 1)) = Mzq74 at w Yq74 Fq74
        refine k_Vi F w (As := [.int (zI 11), .int (zI 14)]) (rest := [.int (zI 2), .ref (B + 153)]) (a := 146) (kd_lt (a := 146) (show kd 146 = (12, 0, 0) from rfl) (by decide)) (sh_12 rfl _ _) rfl (t_needs hT (x := (rdV T tn b)) Yq74 (lo := 11) (hi := 14) (by decide) (by decide)) rgv_X12_227 rhv_X12_needs ⟨(Nat.le_of_ble_eq_true rfl), (Nat.le_of_ble_eq_true rfl)⟩ hl.1 rfl (Nat.le_of_ble_eq_true rfl) ⟨Nat.zero_le _, Nat.zero_le _⟩ rdX12_readsRule_115 (fun r Ma76 H locs hp w => ?_)
        rcases hp with ⟨vn75, rfl, hFn75, -, -, -, hSn75, hWn75⟩
        have hFn75 : FrY Ma76 M := FrY.tr Fq74 (FrY.w hFn75)
        refine g_iast F w (a := 153) rfl (j := 2) ⟨by decide, by decide⟩ (by omega) rdX12_readsRule_118 (fun H locs w => ?_)
        refine lv_iload_n hx hb rdX12_readsRule_119 rfl (lv_at hl 0 rfl) ?_
        refine lv_bipush (v := zI 7) hx hb rdX12_readsRule_120 (by decide) ?_
        refine z_icmp_ne (tgt := 148) hx hb (by omega) (by omega) rdX12_readsRule_122 (by decide) (fun c77 => ?_) (fun c77 => False.elim (by omega))
        refine lv_iload_n hx hb rdX12_readsRule_148 rfl (lv_at hl 0 rfl) ?_
        refine k_Si F w (As := [.int (zI 1)]) (rest := []) (t_hasSide (z := 1) (by omega)) rgs_X12_137 rhs_X12_hasSide ⟨(Nat.le_of_ble_eq_true rfl), (Nat.le_of_ble_eq_true rfl)⟩ hl.1 rfl (Nat.le_of_ble_eq_true rfl) ⟨Nat.zero_le _, Nat.zero_le _⟩ rdX12_readsRule_149 (fun r Ma79 H locs hp w => ?_)
        rcases hp with ⟨⟨hb78, rfl⟩ | ⟨hb78, rfl⟩, hMe⟩
        · rw [hMe] at w
          refine z_if_eq (tgt := 169) hx hb (by omega) rdX12_readsRule_152 (by decide) (fun c80 => False.elim (by omega)) (fun c80 => ?_)
          refine lv_aload_n hx hb rdX12_readsRule_155 rfl (lv_at hl 1 rfl) ?_
          refine f_12_17 F w (a := 146) rfl rtb_146 rdX12_readsRule_156 ?_
          refine lv_iconst (v := zI 4) hx hb rdX12_readsRule_159 rfl ?_
          refine lv_aload_n hx hb rdX12_readsRule_160 rfl (lv_at hl 1 rfl) ?_
          refine lv_bipush (v := zI 15) hx hb rdX12_readsRule_161 (by decide) ?_
          refine lv_bipush (v := zI 16) hx hb rdX12_readsRule_163 (by decide) ?_
          have Yq81 : YS (st Ma76 153 2 (zI vn75)) T tn (rdC T tn 11 14 2 (rdV T tn b)) := hSn75 2
          have Fq81 : FrY (st Ma76 153 2 (zI vn75)) M := FrY.o hFn75
          generalize (st Ma76 153 2 (zI vn75)) = Mzq81 at w Yq81 Fq81
          refine k_Vi F w (As := [.int (zI 15), .int (zI 16)]) (rest := [.int (zI 4), .ref (B + 153)]) (a := 146) (kd_lt (a := 146) (show kd 146 = (12, 0, 0) from rfl) (by decide)) (sh_12 rfl _ _) rfl (t_needs hT (x := (rdC T tn 11 14 2 (rdV T tn b))) Yq81 (lo := 15) (hi := 16) (by decide) (by decide)) rgv_X12_227 rhv_X12_needs ⟨(Nat.le_of_ble_eq_true rfl), (Nat.le_of_ble_eq_true rfl)⟩ hl.1 rfl (Nat.le_of_ble_eq_true rfl) ⟨Nat.zero_le _, Nat.zero_le _⟩ rdX12_readsRule_165 (fun r Ma83 H locs hp w => ?_)
          rcases hp with ⟨vn82, rfl, hFn82, -, -, -, hSn82, hWn82⟩
          have hFn82 : FrY Ma83 M := FrY.tr Fq81 (FrY.w hFn82)
          refine g_iast F w (a := 153) rfl (j := 4) ⟨by decide, by decide⟩ (by omega) rdX12_readsRule_168 (fun H locs w => ?_)
          refine lv_iload_n hx hb rdX12_readsRule_169 rfl (lv_at hl 0 rfl) ?_
          refine lv_iconst (v := zI 3) hx hb rdX12_readsRule_170 rfl ?_
          refine z_icmp_eq (tgt := 180) hx hb (by omega) (by omega) rdX12_readsRule_171 (by decide) (fun c84 => False.elim (by omega)) (fun c84 => ?_)
          refine lv_iload_n hx hb rdX12_readsRule_174 rfl (lv_at hl 0 rfl) ?_
          refine lv_bipush (v := zI 8) hx hb rdX12_readsRule_175 (by decide) ?_
          refine z_icmp_ne (tgt := 194) hx hb (by omega) (by omega) rdX12_readsRule_177 (by decide) (fun c85 => ?_) (fun c85 => False.elim (by omega))
          refine lv_iload_n hx hb rdX12_readsRule_194 rfl (lv_at hl 0 rfl) ?_
          refine lv_iconst (v := zI 1) hx hb rdX12_readsRule_195 rfl ?_
          refine z_icmp_ne (tgt := 209) hx hb (by omega) (by omega) rdX12_readsRule_196 (by decide) (fun c86 => False.elim (by omega)) (fun c86 => ?_)
          refine lv_aload_n hx hb rdX12_readsRule_199 rfl (lv_at hl 1 rfl) ?_
          refine f_12_17 F w (a := 146) rfl rtb_146 rdX12_readsRule_200 ?_
          refine lv_iconst (v := zI 3) hx hb rdX12_readsRule_203 rfl ?_
          refine lv_aload_n hx hb rdX12_readsRule_204 rfl (lv_at hl 1 rfl) ?_
          have Yq87 : YS (st Ma83 153 4 (zI vn82)) T tn (rdC T tn 15 16 4 (rdC T tn 11 14 2 (rdV T tn b))) := hSn82 4
          have Fq87 : FrY (st Ma83 153 4 (zI vn82)) M := FrY.o hFn82
          generalize (st Ma83 153 4 (zI vn82)) = Mzq87 at w Yq87 Fq87
          refine k_Vi F w (As := []) (rest := [.int (zI 3), .ref (B + 153)]) (a := 146) (kd_lt (a := 146) (show kd 146 = (12, 0, 0) from rfl) (by decide)) (sh_12 rfl _ _) rfl (t_needsNumber hT (x := (rdC T tn 15 16 4 (rdC T tn 11 14 2 (rdV T tn b)))) Yq87) rgv_X12_230 rhv_X12_needsNumber ⟨(Nat.le_of_ble_eq_true rfl), (Nat.le_of_ble_eq_true rfl)⟩ hl.1 rfl (Nat.le_of_ble_eq_true rfl) ⟨Nat.zero_le _, Nat.zero_le _⟩ rdX12_readsRule_205 (fun r Ma89 H locs hp w => ?_)
          rcases hp with ⟨vn88, rfl, hFn88, -, hSn88⟩
          have hFn88 : FrY Ma89 M := FrY.tr Fq87 (FrY.w hFn88)
          refine g_iast F w (a := 153) rfl (j := 3) ⟨by decide, by decide⟩ (by omega) rdX12_readsRule_208 (fun H locs w => ?_)
          have Yq90 : YS (st Ma89 153 3 (zI vn88)) T tn (rdN T tn (rdC T tn 15 16 4 (rdC T tn 11 14 2 (rdV T tn b)))) := hSn88
          have Fq90 : FrY (st Ma89 153 3 (zI vn88)) M := FrY.o hFn88
          generalize (st Ma89 153 3 (zI vn88)) = Mzq90 at w Yq90 Fq90
          have hGf := Yq90.1.1
          have eP : rdP T tn ((rdV T tn b).2.2 0) (rdV T tn b) = (rdN T tn (rdC T tn 15 16 4 (rdC T tn 11 14 2 (rdV T tn b)))) := ((rdP_1 (by omega)).trans (by rw [rdK_o (by omega) (by omega)]))
          refine lv_aload_n hx hb rdX12_readsRule_209 rfl (lv_at hl 1 rfl) ?_
          refine f_12_16 F w (a := 146) rfl rtb_139 rdX12_readsRule_210 ?_
          refine r_val (v := (zI (1 - ((Prod.fst (rdN T tn (rdC T tn 15 16 4 (rdC T tn 11 14 2 (rdV T tn b)))) : Nat) : Int)))) (Yq90.2.2.2.2.1) ?_
          refine z_if_ne (tgt := 236) hx hb (by omega) rdX12_readsRule_213 (by decide) (fun c91 => ?_) (fun c91 => ?_)
          · have hGi := Yq90.1.1
            refine lv_aload_n hx hb rdX12_readsRule_236 rfl (lv_at hl 1 rfl) ?_
            refine f_12_16 F w (a := 146) rfl rtb_139 rdX12_readsRule_237 ?_
            refine r_val (v := (zI (1 - ((Prod.fst (rdN T tn (rdC T tn 15 16 4 (rdC T tn 11 14 2 (rdV T tn b)))) : Nat) : Int)))) (Yq90.2.2.2.2.1) ?_
            refine z_if_eq (tgt := 244) hx hb (by omega) rdX12_readsRule_240 (by decide) (fun c92 => False.elim (by omega)) (fun c92 => ?_)
            exact e_v F w hr hlocks ⟨YS.e Yq90 ((rdR_1 gV (by rw [eP]; omega)).trans eP), Fq90⟩ rdX12_readsRule_243
          · refine lv_iload_n hx hb rdX12_readsRule_216 rfl (lv_at hl 0 rfl) ?_
            refine k_Si F w (As := [.int (zI 1)]) (rest := []) (t_isBySyllables (z := 1) (by omega)) rgs_X12_140 rhs_X12_isBySyllables ⟨(Nat.le_of_ble_eq_true rfl), (Nat.le_of_ble_eq_true rfl)⟩ hl.1 rfl (Nat.le_of_ble_eq_true rfl) ⟨Nat.zero_le _, Nat.zero_le _⟩ rdX12_readsRule_217 (fun r Ma94 H locs hp w => ?_)
            rcases hp with ⟨⟨hb93, rfl⟩ | ⟨hb93, rfl⟩, hMe⟩
            · exact absurd hb93 (by omega)
            · rw [hMe] at w
              refine z_if_ne (tgt := 236) hx hb (by omega) rdX12_readsRule_220 (by decide) (fun c95 => False.elim (by omega)) (fun c95 => ?_)
              refine lv_aload_n hx hb rdX12_readsRule_223 rfl (lv_at hl 1 rfl) ?_
              refine lv_bipush (v := zI 20) hx hb rdX12_readsRule_224 (by decide) ?_
              refine k_Vi F w (As := [.int (zI 20)]) (rest := []) (a := 146) (kd_lt (a := 146) (show kd 146 = (12, 0, 0) from rfl) (by decide)) (sh_12 rfl _ _) rfl (t_isWord hT (x := (rdN T tn (rdC T tn 15 16 4 (rdC T tn 11 14 2 (rdV T tn b))))) Yq90 (lo := 20) (by decide)) rgv_X12_224 rhv_X12_isWord ⟨(Nat.le_of_ble_eq_true rfl), (Nat.le_of_ble_eq_true rfl)⟩ hl.1 rfl (Nat.le_of_ble_eq_true rfl) ⟨Nat.zero_le _, Nat.zero_le _⟩ rdX12_readsRule_226 (fun r Ma97 H locs hp w => ?_)
              rcases hp with ⟨⟨hb96, rfl⟩ | ⟨hb96, rfl⟩, hMe⟩
              · rw [hMe] at w
                refine z_if_eq (tgt := 236) hx hb (by omega) rdX12_readsRule_229 (by decide) (fun c98 => False.elim (by omega)) (fun c98 => ?_)
                refine lv_aload_n hx hb rdX12_readsRule_232 rfl (lv_at hl 1 rfl) ?_
                refine k_Vv F w (As := []) (rest := []) (a := 146) (kd_lt (a := 146) (show kd 146 = (12, 0, 0) from rfl) (by decide)) (sh_12 rfl _ _) rfl (t_readsTest hT (x := (rdN T tn (rdC T tn 15 16 4 (rdC T tn 11 14 2 (rdV T tn b))))) Yq90 (by omega) (Or.inl (tk_w0 (T := T) (N := tn) Yq90.2.2.2.1.1 hb96))) rgv_X12_233 rhv_X12_readsTest ⟨(Nat.le_of_ble_eq_true rfl), (Nat.le_of_ble_eq_true rfl)⟩ hl.1 rfl (Nat.le_of_ble_eq_true rfl) ⟨Nat.zero_le _, Nat.zero_le _⟩ rdX12_readsRule_233 (fun Ma100 H locs hp w => ?_)
                rcases hp with ⟨hYn99, hFn99⟩
                have hFn99 : FrY Ma100 M := FrY.tr Fq90 hFn99
                have hGi := hYn99.1.1
                refine lv_aload_n hx hb rdX12_readsRule_236 rfl (lv_at hl 1 rfl) ?_
                refine f_12_16 F w (a := 146) rfl rtb_139 rdX12_readsRule_237 ?_
                refine r_val (v := (zI (1 - ((Prod.fst (rdT T tn (1, en T tn (Prod.fst (Prod.snd (rdN T tn (rdC T tn 15 16 4 (rdC T tn 11 14 2 (rdV T tn b)))))), Prod.snd (Prod.snd (rdN T tn (rdC T tn 15 16 4 (rdC T tn 11 14 2 (rdV T tn b))))))) : Nat) : Int)))) (hYn99.2.2.2.2.1) ?_
                refine z_if_eq (tgt := 244) hx hb (by omega) rdX12_readsRule_240 (by decide) (fun c101 => ?_) (fun c101 => ?_)
                · refine lv_aload_n hx hb rdX12_readsRule_244 rfl (lv_at hl 1 rfl) ?_
                  refine f_12_13 F w (a := 146) rfl rtb_127 rdX12_readsRule_245 ?_
                  have htl101 := tok_le T tn (Prod.fst (Prod.snd (rdT T tn (1, en T tn (Prod.fst (Prod.snd (rdN T tn (rdC T tn 15 16 4 (rdC T tn 11 14 2 (rdV T tn b)))))), Prod.snd (Prod.snd (rdN T tn (rdC T tn 15 16 4 (rdC T tn 11 14 2 (rdV T tn b)))))))))
                  refine r_val (v := (zI (((tok T tn (Prod.fst (Prod.snd (rdT T tn (1, en T tn (Prod.fst (Prod.snd (rdN T tn (rdC T tn 15 16 4 (rdC T tn 11 14 2 (rdV T tn b)))))), Prod.snd (Prod.snd (rdN T tn (rdC T tn 15 16 4 (rdC T tn 11 14 2 (rdV T tn b)))))))))) : Nat) : Int))) (hYn99.2.2.2.1.2.2.2.1) ?_
                  refine lv_iconst (v := zI 3) hx hb rdX12_readsRule_248 rfl ?_
                  refine z_icmp_ne (tgt := 259) hx hb (by omega) (by omega) rdX12_readsRule_249 (by decide) (fun c102 => ?_) (fun c102 => ?_)
                  · refine lv_aload_n hx hb rdX12_readsRule_259 rfl (lv_at hl 1 rfl) ?_
                    refine lv_iconst (v := zI 1) hx hb rdX12_readsRule_260 rfl ?_
                    refine u_12_16 F w (a := 146) rfl (by decide) (by decide) rtb_139 rdX12_readsRule_261 (fun H locs w => ?_)
                    exact e_v F w hr hlocks ⟨YS.e (YS.bad hYn99) (rdR_I gV (by rw [eP]; exact rdI_y (by omega) (by omega) hb96) (rdS_n (by omega) (fun q9 => absurd (tok_3.mpr q9) (by omega)))), FrY.t hFn99⟩ rdX12_readsRule_264
                  · refine lv_aload_n hx hb rdX12_readsRule_252 rfl (lv_at hl 1 rfl) ?_
                    refine k_Vv F w (As := []) (rest := []) (a := 146) (kd_lt (a := 146) (show kd 146 = (12, 0, 0) from rfl) (by decide)) (sh_12 rfl _ _) rfl (t_goesOn hT hYn99.2.1 hYn99.2.2.1 (E := en T tn (Prod.fst (Prod.snd (rdT T tn (1, en T tn (Prod.fst (Prod.snd (rdN T tn (rdC T tn 15 16 4 (rdC T tn 11 14 2 (rdV T tn b)))))), Prod.snd (Prod.snd (rdN T tn (rdC T tn 15 16 4 (rdC T tn 11 14 2 (rdV T tn b)))))))))) (wa := tok T tn (Prod.fst (Prod.snd (rdT T tn (1, en T tn (Prod.fst (Prod.snd (rdN T tn (rdC T tn 15 16 4 (rdC T tn 11 14 2 (rdV T tn b)))))), Prod.snd (Prod.snd (rdN T tn (rdC T tn 15 16 4 (rdC T tn 11 14 2 (rdV T tn b)))))))))) (en_le hYn99.2.2.2.1.1).2.1 hYn99.2.2.2.1.2.2.1 hYn99.2.2.2.1.2.2.2.1 (tok_le T tn _) (tok_w hYn99.2.2.2.1.1 (Or.inr (Or.inr (by omega))))) rgv_X12_221 rhv_X12_goesOn ⟨(Nat.le_of_ble_eq_true rfl), (Nat.le_of_ble_eq_true rfl)⟩ hl.1 rfl (Nat.le_of_ble_eq_true rfl) ⟨Nat.zero_le _, Nat.zero_le _⟩ rdX12_readsRule_253 (fun Ma104 H locs hp w => ?_)
                    rcases hp with ⟨hRn103, hGn103⟩
                    have hYn103 := YS.go hYn99 (by omega) hRn103 hGn103
                    have hFn103 : FrY Ma104 M := FrY.tr hFn99 (FrY.w (FrW.g hGn103))
                    refine lv_goto (tgt := 264) hx hb rdX12_readsRule_256 (by decide) ?_
                    exact e_v F w hr hlocks ⟨YS.e hYn103 (rdR_I gV (by rw [eP]; exact rdI_y (by omega) (by omega) hb96) (rdS_y (by omega) (tok_3.mp (by omega)).1 (tok_3.mp (by omega)).2)), hFn103⟩ rdX12_readsRule_264
                · exact e_v F w hr hlocks ⟨YS.e hYn99 (rdR_2 gV (by rw [eP]; exact rdI_y (by omega) (by omega) hb96) (by omega)), hFn99⟩ rdX12_readsRule_243
              · rw [hMe] at w
                refine z_if_eq (tgt := 236) hx hb (by omega) rdX12_readsRule_229 (by decide) (fun c105 => ?_) (fun c105 => False.elim (by omega))
                have hGi := Yq90.1.1
                refine lv_aload_n hx hb rdX12_readsRule_236 rfl (lv_at hl 1 rfl) ?_
                refine f_12_16 F w (a := 146) rfl rtb_139 rdX12_readsRule_237 ?_
                refine r_val (v := (zI (1 - ((Prod.fst (rdN T tn (rdC T tn 15 16 4 (rdC T tn 11 14 2 (rdV T tn b)))) : Nat) : Int)))) (Yq90.2.2.2.2.1) ?_
                refine z_if_eq (tgt := 244) hx hb (by omega) rdX12_readsRule_240 (by decide) (fun c106 => ?_) (fun c106 => False.elim (by omega))
                refine lv_aload_n hx hb rdX12_readsRule_244 rfl (lv_at hl 1 rfl) ?_
                refine f_12_13 F w (a := 146) rfl rtb_127 rdX12_readsRule_245 ?_
                have htl106 := tok_le T tn (Prod.fst (Prod.snd (rdN T tn (rdC T tn 15 16 4 (rdC T tn 11 14 2 (rdV T tn b))))))
                refine r_val (v := (zI (((tok T tn (Prod.fst (Prod.snd (rdN T tn (rdC T tn 15 16 4 (rdC T tn 11 14 2 (rdV T tn b))))))) : Nat) : Int))) (Yq90.2.2.2.1.2.2.2.1) ?_
                refine lv_iconst (v := zI 3) hx hb rdX12_readsRule_248 rfl ?_
                refine z_icmp_ne (tgt := 259) hx hb (by omega) (by omega) rdX12_readsRule_249 (by decide) (fun c107 => ?_) (fun c107 => ?_)
                · refine lv_aload_n hx hb rdX12_readsRule_259 rfl (lv_at hl 1 rfl) ?_
                  refine lv_iconst (v := zI 1) hx hb rdX12_readsRule_260 rfl ?_
                  refine u_12_16 F w (a := 146) rfl (by decide) (by decide) rtb_139 rdX12_readsRule_261 (fun H locs w => ?_)
                  exact e_v F w hr hlocks ⟨YS.e (YS.bad Yq90) (rdR_I gV (by rw [eP]; exact rdI_n (Or.inr (Or.inr hb96))) (rdS_n (by omega) (fun q9 => absurd (tok_3.mpr q9) (by omega)))), FrY.t Fq90⟩ rdX12_readsRule_264
                · refine lv_aload_n hx hb rdX12_readsRule_252 rfl (lv_at hl 1 rfl) ?_
                  refine k_Vv F w (As := []) (rest := []) (a := 146) (kd_lt (a := 146) (show kd 146 = (12, 0, 0) from rfl) (by decide)) (sh_12 rfl _ _) rfl (t_goesOn hT Yq90.2.1 Yq90.2.2.1 (E := en T tn (Prod.fst (Prod.snd (rdN T tn (rdC T tn 15 16 4 (rdC T tn 11 14 2 (rdV T tn b))))))) (wa := tok T tn (Prod.fst (Prod.snd (rdN T tn (rdC T tn 15 16 4 (rdC T tn 11 14 2 (rdV T tn b))))))) (en_le Yq90.2.2.2.1.1).2.1 Yq90.2.2.2.1.2.2.1 Yq90.2.2.2.1.2.2.2.1 (tok_le T tn _) (tok_w Yq90.2.2.2.1.1 (Or.inr (Or.inr (by omega))))) rgv_X12_221 rhv_X12_goesOn ⟨(Nat.le_of_ble_eq_true rfl), (Nat.le_of_ble_eq_true rfl)⟩ hl.1 rfl (Nat.le_of_ble_eq_true rfl) ⟨Nat.zero_le _, Nat.zero_le _⟩ rdX12_readsRule_253 (fun Ma109 H locs hp w => ?_)
                  rcases hp with ⟨hRn108, hGn108⟩
                  have hYn108 := YS.go Yq90 (by omega) hRn108 hGn108
                  have hFn108 : FrY Ma109 M := FrY.tr Fq90 (FrY.w (FrW.g hGn108))
                  refine lv_goto (tgt := 264) hx hb rdX12_readsRule_256 (by decide) ?_
                  exact e_v F w hr hlocks ⟨YS.e hYn108 (rdR_I gV (by rw [eP]; exact rdI_n (Or.inr (Or.inr hb96))) (rdS_y (by omega) (tok_3.mp (by omega)).1 (tok_3.mp (by omega)).2)), hFn108⟩ rdX12_readsRule_264
        · exact absurd hb78 (by omega)
      · subst c9
        refine lv_istore_n (lv' := [(1, .int (zI 2)), (0, .ref (B + 146))]) hx hb rdX12_readsRule_63 rfl hl (by decide) rfl (fun ls hl => ?_)
        refine lv_aload_n hx hb rdX12_readsRule_64 rfl (lv_at hl 1 rfl) ?_
        refine f_12_17 F w (a := 146) rfl rtb_146 rdX12_readsRule_65 ?_
        refine lv_iconst (v := zI 0) hx hb rdX12_readsRule_68 rfl ?_
        refine lv_iload_n hx hb rdX12_readsRule_69 rfl (lv_at hl 0 rfl) ?_
        refine g_iast F w (a := 153) rfl (j := 0) ⟨by decide, by decide⟩ (by omega) rdX12_readsRule_70 (fun H locs w => ?_)
        refine lv_iload_n hx hb rdX12_readsRule_71 rfl (lv_at hl 0 rfl) ?_
        refine lv_bipush (v := zI 8) hx hb rdX12_readsRule_72 (by decide) ?_
        refine z_icmp_ne (tgt := 90) hx hb (by omega) (by omega) rdX12_readsRule_74 (by decide) (fun c110 => ?_) (fun c110 => False.elim (by omega))
        refine lv_iload_n hx hb rdX12_readsRule_90 rfl (lv_at hl 0 rfl) ?_
        refine z_if_eq (tgt := 119) hx hb (by omega) rdX12_readsRule_91 (by decide) (fun c111 => False.elim (by omega)) (fun c111 => ?_)
        refine lv_aload_n hx hb rdX12_readsRule_94 rfl (lv_at hl 1 rfl) ?_
        refine f_12_17 F w (a := 146) rfl rtb_146 rdX12_readsRule_95 ?_
        refine lv_iconst (v := zI 2) hx hb rdX12_readsRule_98 rfl ?_
        refine lv_aload_n hx hb rdX12_readsRule_99 rfl (lv_at hl 1 rfl) ?_
        refine lv_bipush (v := zI 11) hx hb rdX12_readsRule_100 (by decide) ?_
        refine lv_iload_n hx hb rdX12_readsRule_102 rfl (lv_at hl 0 rfl) ?_
        refine lv_bipush (v := zI 9) hx hb rdX12_readsRule_103 (by decide) ?_
        refine z_icmp_ne (tgt := 113) hx hb (by omega) (by omega) rdX12_readsRule_105 (by decide) (fun c112 => ?_) (fun c112 => False.elim (by omega))
        refine lv_bipush (v := zI 14) hx hb rdX12_readsRule_113 (by decide) ?_
        have Yq113 : YS (st Ma33 153 0 (zI 2)) T tn (rdV T tn b) := hV
        have Fq113 : FrY (st Ma33 153 0 (zI 2)) M := FrY.o hFn32
        generalize (st Ma33 153 0 (zI 2)) = Mzq113 at w Yq113 Fq113
        refine k_Vi F w (As := [.int (zI 11), .int (zI 14)]) (rest := [.int (zI 2), .ref (B + 153)]) (a := 146) (kd_lt (a := 146) (show kd 146 = (12, 0, 0) from rfl) (by decide)) (sh_12 rfl _ _) rfl (t_needs hT (x := (rdV T tn b)) Yq113 (lo := 11) (hi := 14) (by decide) (by decide)) rgv_X12_227 rhv_X12_needs ⟨(Nat.le_of_ble_eq_true rfl), (Nat.le_of_ble_eq_true rfl)⟩ hl.1 rfl (Nat.le_of_ble_eq_true rfl) ⟨Nat.zero_le _, Nat.zero_le _⟩ rdX12_readsRule_115 (fun r Ma115 H locs hp w => ?_)
        rcases hp with ⟨vn114, rfl, hFn114, -, -, -, hSn114, hWn114⟩
        have hFn114 : FrY Ma115 M := FrY.tr Fq113 (FrY.w hFn114)
        refine g_iast F w (a := 153) rfl (j := 2) ⟨by decide, by decide⟩ (by omega) rdX12_readsRule_118 (fun H locs w => ?_)
        refine lv_iload_n hx hb rdX12_readsRule_119 rfl (lv_at hl 0 rfl) ?_
        refine lv_bipush (v := zI 7) hx hb rdX12_readsRule_120 (by decide) ?_
        refine z_icmp_ne (tgt := 148) hx hb (by omega) (by omega) rdX12_readsRule_122 (by decide) (fun c116 => ?_) (fun c116 => False.elim (by omega))
        refine lv_iload_n hx hb rdX12_readsRule_148 rfl (lv_at hl 0 rfl) ?_
        refine k_Si F w (As := [.int (zI 2)]) (rest := []) (t_hasSide (z := 2) (by omega)) rgs_X12_137 rhs_X12_hasSide ⟨(Nat.le_of_ble_eq_true rfl), (Nat.le_of_ble_eq_true rfl)⟩ hl.1 rfl (Nat.le_of_ble_eq_true rfl) ⟨Nat.zero_le _, Nat.zero_le _⟩ rdX12_readsRule_149 (fun r Ma118 H locs hp w => ?_)
        rcases hp with ⟨⟨hb117, rfl⟩ | ⟨hb117, rfl⟩, hMe⟩
        · rw [hMe] at w
          refine z_if_eq (tgt := 169) hx hb (by omega) rdX12_readsRule_152 (by decide) (fun c119 => False.elim (by omega)) (fun c119 => ?_)
          refine lv_aload_n hx hb rdX12_readsRule_155 rfl (lv_at hl 1 rfl) ?_
          refine f_12_17 F w (a := 146) rfl rtb_146 rdX12_readsRule_156 ?_
          refine lv_iconst (v := zI 4) hx hb rdX12_readsRule_159 rfl ?_
          refine lv_aload_n hx hb rdX12_readsRule_160 rfl (lv_at hl 1 rfl) ?_
          refine lv_bipush (v := zI 15) hx hb rdX12_readsRule_161 (by decide) ?_
          refine lv_bipush (v := zI 16) hx hb rdX12_readsRule_163 (by decide) ?_
          have Yq120 : YS (st Ma115 153 2 (zI vn114)) T tn (rdC T tn 11 14 2 (rdV T tn b)) := hSn114 2
          have Fq120 : FrY (st Ma115 153 2 (zI vn114)) M := FrY.o hFn114
          generalize (st Ma115 153 2 (zI vn114)) = Mzq120 at w Yq120 Fq120
          refine k_Vi F w (As := [.int (zI 15), .int (zI 16)]) (rest := [.int (zI 4), .ref (B + 153)]) (a := 146) (kd_lt (a := 146) (show kd 146 = (12, 0, 0) from rfl) (by decide)) (sh_12 rfl _ _) rfl (t_needs hT (x := (rdC T tn 11 14 2 (rdV T tn b))) Yq120 (lo := 15) (hi := 16) (by decide) (by decide)) rgv_X12_227 rhv_X12_needs ⟨(Nat.le_of_ble_eq_true rfl), (Nat.le_of_ble_eq_true rfl)⟩ hl.1 rfl (Nat.le_of_ble_eq_true rfl) ⟨Nat.zero_le _, Nat.zero_le _⟩ rdX12_readsRule_165 (fun r Ma122 H locs hp w => ?_)
          rcases hp with ⟨vn121, rfl, hFn121, -, -, -, hSn121, hWn121⟩
          have hFn121 : FrY Ma122 M := FrY.tr Fq120 (FrY.w hFn121)
          refine g_iast F w (a := 153) rfl (j := 4) ⟨by decide, by decide⟩ (by omega) rdX12_readsRule_168 (fun H locs w => ?_)
          refine lv_iload_n hx hb rdX12_readsRule_169 rfl (lv_at hl 0 rfl) ?_
          refine lv_iconst (v := zI 3) hx hb rdX12_readsRule_170 rfl ?_
          refine z_icmp_eq (tgt := 180) hx hb (by omega) (by omega) rdX12_readsRule_171 (by decide) (fun c123 => False.elim (by omega)) (fun c123 => ?_)
          refine lv_iload_n hx hb rdX12_readsRule_174 rfl (lv_at hl 0 rfl) ?_
          refine lv_bipush (v := zI 8) hx hb rdX12_readsRule_175 (by decide) ?_
          refine z_icmp_ne (tgt := 194) hx hb (by omega) (by omega) rdX12_readsRule_177 (by decide) (fun c124 => ?_) (fun c124 => False.elim (by omega))
          refine lv_iload_n hx hb rdX12_readsRule_194 rfl (lv_at hl 0 rfl) ?_
          refine lv_iconst (v := zI 1) hx hb rdX12_readsRule_195 rfl ?_
          refine z_icmp_ne (tgt := 209) hx hb (by omega) (by omega) rdX12_readsRule_196 (by decide) (fun c125 => ?_) (fun c125 => False.elim (by omega))
          have Yq126 : YS (st Ma122 153 4 (zI vn121)) T tn (rdC T tn 15 16 4 (rdC T tn 11 14 2 (rdV T tn b))) := hSn121 4
          have Fq126 : FrY (st Ma122 153 4 (zI vn121)) M := FrY.o hFn121
          generalize (st Ma122 153 4 (zI vn121)) = Mzq126 at w Yq126 Fq126
          have hGf := Yq126.1.1
          have eP : rdP T tn ((rdV T tn b).2.2 0) (rdV T tn b) = (rdC T tn 15 16 4 (rdC T tn 11 14 2 (rdV T tn b))) := ((rdP_0 (by omega)).trans (by rw [rdK_o (by omega) (by omega)]))
          refine lv_aload_n hx hb rdX12_readsRule_209 rfl (lv_at hl 1 rfl) ?_
          refine f_12_16 F w (a := 146) rfl rtb_139 rdX12_readsRule_210 ?_
          refine r_val (v := (zI (1 - ((Prod.fst (rdC T tn 15 16 4 (rdC T tn 11 14 2 (rdV T tn b))) : Nat) : Int)))) (Yq126.2.2.2.2.1) ?_
          refine z_if_ne (tgt := 236) hx hb (by omega) rdX12_readsRule_213 (by decide) (fun c127 => ?_) (fun c127 => ?_)
          · have hGi := Yq126.1.1
            refine lv_aload_n hx hb rdX12_readsRule_236 rfl (lv_at hl 1 rfl) ?_
            refine f_12_16 F w (a := 146) rfl rtb_139 rdX12_readsRule_237 ?_
            refine r_val (v := (zI (1 - ((Prod.fst (rdC T tn 15 16 4 (rdC T tn 11 14 2 (rdV T tn b))) : Nat) : Int)))) (Yq126.2.2.2.2.1) ?_
            refine z_if_eq (tgt := 244) hx hb (by omega) rdX12_readsRule_240 (by decide) (fun c128 => False.elim (by omega)) (fun c128 => ?_)
            exact e_v F w hr hlocks ⟨YS.e Yq126 ((rdR_1 gV (by rw [eP]; omega)).trans eP), Fq126⟩ rdX12_readsRule_243
          · refine lv_iload_n hx hb rdX12_readsRule_216 rfl (lv_at hl 0 rfl) ?_
            refine k_Si F w (As := [.int (zI 2)]) (rest := []) (t_isBySyllables (z := 2) (by omega)) rgs_X12_140 rhs_X12_isBySyllables ⟨(Nat.le_of_ble_eq_true rfl), (Nat.le_of_ble_eq_true rfl)⟩ hl.1 rfl (Nat.le_of_ble_eq_true rfl) ⟨Nat.zero_le _, Nat.zero_le _⟩ rdX12_readsRule_217 (fun r Ma130 H locs hp w => ?_)
            rcases hp with ⟨⟨hb129, rfl⟩ | ⟨hb129, rfl⟩, hMe⟩
            · exact absurd hb129 (by omega)
            · rw [hMe] at w
              refine z_if_ne (tgt := 236) hx hb (by omega) rdX12_readsRule_220 (by decide) (fun c131 => False.elim (by omega)) (fun c131 => ?_)
              refine lv_aload_n hx hb rdX12_readsRule_223 rfl (lv_at hl 1 rfl) ?_
              refine lv_bipush (v := zI 20) hx hb rdX12_readsRule_224 (by decide) ?_
              refine k_Vi F w (As := [.int (zI 20)]) (rest := []) (a := 146) (kd_lt (a := 146) (show kd 146 = (12, 0, 0) from rfl) (by decide)) (sh_12 rfl _ _) rfl (t_isWord hT (x := (rdC T tn 15 16 4 (rdC T tn 11 14 2 (rdV T tn b)))) Yq126 (lo := 20) (by decide)) rgv_X12_224 rhv_X12_isWord ⟨(Nat.le_of_ble_eq_true rfl), (Nat.le_of_ble_eq_true rfl)⟩ hl.1 rfl (Nat.le_of_ble_eq_true rfl) ⟨Nat.zero_le _, Nat.zero_le _⟩ rdX12_readsRule_226 (fun r Ma133 H locs hp w => ?_)
              rcases hp with ⟨⟨hb132, rfl⟩ | ⟨hb132, rfl⟩, hMe⟩
              · rw [hMe] at w
                refine z_if_eq (tgt := 236) hx hb (by omega) rdX12_readsRule_229 (by decide) (fun c134 => False.elim (by omega)) (fun c134 => ?_)
                refine lv_aload_n hx hb rdX12_readsRule_232 rfl (lv_at hl 1 rfl) ?_
                refine k_Vv F w (As := []) (rest := []) (a := 146) (kd_lt (a := 146) (show kd 146 = (12, 0, 0) from rfl) (by decide)) (sh_12 rfl _ _) rfl (t_readsTest hT (x := (rdC T tn 15 16 4 (rdC T tn 11 14 2 (rdV T tn b)))) Yq126 (by omega) (Or.inl (tk_w0 (T := T) (N := tn) Yq126.2.2.2.1.1 hb132))) rgv_X12_233 rhv_X12_readsTest ⟨(Nat.le_of_ble_eq_true rfl), (Nat.le_of_ble_eq_true rfl)⟩ hl.1 rfl (Nat.le_of_ble_eq_true rfl) ⟨Nat.zero_le _, Nat.zero_le _⟩ rdX12_readsRule_233 (fun Ma136 H locs hp w => ?_)
                rcases hp with ⟨hYn135, hFn135⟩
                have hFn135 : FrY Ma136 M := FrY.tr Fq126 hFn135
                have hGi := hYn135.1.1
                refine lv_aload_n hx hb rdX12_readsRule_236 rfl (lv_at hl 1 rfl) ?_
                refine f_12_16 F w (a := 146) rfl rtb_139 rdX12_readsRule_237 ?_
                refine r_val (v := (zI (1 - ((Prod.fst (rdT T tn (1, en T tn (Prod.fst (Prod.snd (rdC T tn 15 16 4 (rdC T tn 11 14 2 (rdV T tn b))))), Prod.snd (Prod.snd (rdC T tn 15 16 4 (rdC T tn 11 14 2 (rdV T tn b)))))) : Nat) : Int)))) (hYn135.2.2.2.2.1) ?_
                refine z_if_eq (tgt := 244) hx hb (by omega) rdX12_readsRule_240 (by decide) (fun c137 => ?_) (fun c137 => ?_)
                · refine lv_aload_n hx hb rdX12_readsRule_244 rfl (lv_at hl 1 rfl) ?_
                  refine f_12_13 F w (a := 146) rfl rtb_127 rdX12_readsRule_245 ?_
                  have htl137 := tok_le T tn (Prod.fst (Prod.snd (rdT T tn (1, en T tn (Prod.fst (Prod.snd (rdC T tn 15 16 4 (rdC T tn 11 14 2 (rdV T tn b))))), Prod.snd (Prod.snd (rdC T tn 15 16 4 (rdC T tn 11 14 2 (rdV T tn b))))))))
                  refine r_val (v := (zI (((tok T tn (Prod.fst (Prod.snd (rdT T tn (1, en T tn (Prod.fst (Prod.snd (rdC T tn 15 16 4 (rdC T tn 11 14 2 (rdV T tn b))))), Prod.snd (Prod.snd (rdC T tn 15 16 4 (rdC T tn 11 14 2 (rdV T tn b))))))))) : Nat) : Int))) (hYn135.2.2.2.1.2.2.2.1) ?_
                  refine lv_iconst (v := zI 3) hx hb rdX12_readsRule_248 rfl ?_
                  refine z_icmp_ne (tgt := 259) hx hb (by omega) (by omega) rdX12_readsRule_249 (by decide) (fun c138 => ?_) (fun c138 => ?_)
                  · refine lv_aload_n hx hb rdX12_readsRule_259 rfl (lv_at hl 1 rfl) ?_
                    refine lv_iconst (v := zI 1) hx hb rdX12_readsRule_260 rfl ?_
                    refine u_12_16 F w (a := 146) rfl (by decide) (by decide) rtb_139 rdX12_readsRule_261 (fun H locs w => ?_)
                    exact e_v F w hr hlocks ⟨YS.e (YS.bad hYn135) (rdR_I gV (by rw [eP]; exact rdI_y (by omega) (by omega) hb132) (rdS_n (by omega) (fun q9 => absurd (tok_3.mpr q9) (by omega)))), FrY.t hFn135⟩ rdX12_readsRule_264
                  · refine lv_aload_n hx hb rdX12_readsRule_252 rfl (lv_at hl 1 rfl) ?_
                    refine k_Vv F w (As := []) (rest := []) (a := 146) (kd_lt (a := 146) (show kd 146 = (12, 0, 0) from rfl) (by decide)) (sh_12 rfl _ _) rfl (t_goesOn hT hYn135.2.1 hYn135.2.2.1 (E := en T tn (Prod.fst (Prod.snd (rdT T tn (1, en T tn (Prod.fst (Prod.snd (rdC T tn 15 16 4 (rdC T tn 11 14 2 (rdV T tn b))))), Prod.snd (Prod.snd (rdC T tn 15 16 4 (rdC T tn 11 14 2 (rdV T tn b))))))))) (wa := tok T tn (Prod.fst (Prod.snd (rdT T tn (1, en T tn (Prod.fst (Prod.snd (rdC T tn 15 16 4 (rdC T tn 11 14 2 (rdV T tn b))))), Prod.snd (Prod.snd (rdC T tn 15 16 4 (rdC T tn 11 14 2 (rdV T tn b))))))))) (en_le hYn135.2.2.2.1.1).2.1 hYn135.2.2.2.1.2.2.1 hYn135.2.2.2.1.2.2.2.1 (tok_le T tn _) (tok_w hYn135.2.2.2.1.1 (Or.inr (Or.inr (by omega))))) rgv_X12_221 rhv_X12_goesOn ⟨(Nat.le_of_ble_eq_true rfl), (Nat.le_of_ble_eq_true rfl)⟩ hl.1 rfl (Nat.le_of_ble_eq_true rfl) ⟨Nat.zero_le _, Nat.zero_le _⟩ rdX12_readsRule_253 (fun Ma140 H locs hp w => ?_)
                    rcases hp with ⟨hRn139, hGn139⟩
                    have hYn139 := YS.go hYn135 (by omega) hRn139 hGn139
                    have hFn139 : FrY Ma140 M := FrY.tr hFn135 (FrY.w (FrW.g hGn139))
                    refine lv_goto (tgt := 264) hx hb rdX12_readsRule_256 (by decide) ?_
                    exact e_v F w hr hlocks ⟨YS.e hYn139 (rdR_I gV (by rw [eP]; exact rdI_y (by omega) (by omega) hb132) (rdS_y (by omega) (tok_3.mp (by omega)).1 (tok_3.mp (by omega)).2)), hFn139⟩ rdX12_readsRule_264
                · exact e_v F w hr hlocks ⟨YS.e hYn135 (rdR_2 gV (by rw [eP]; exact rdI_y (by omega) (by omega) hb132) (by omega)), hFn135⟩ rdX12_readsRule_243
              · rw [hMe] at w
                refine z_if_eq (tgt := 236) hx hb (by omega) rdX12_readsRule_229 (by decide) (fun c141 => ?_) (fun c141 => False.elim (by omega))
                have hGi := Yq126.1.1
                refine lv_aload_n hx hb rdX12_readsRule_236 rfl (lv_at hl 1 rfl) ?_
                refine f_12_16 F w (a := 146) rfl rtb_139 rdX12_readsRule_237 ?_
                refine r_val (v := (zI (1 - ((Prod.fst (rdC T tn 15 16 4 (rdC T tn 11 14 2 (rdV T tn b))) : Nat) : Int)))) (Yq126.2.2.2.2.1) ?_
                refine z_if_eq (tgt := 244) hx hb (by omega) rdX12_readsRule_240 (by decide) (fun c142 => ?_) (fun c142 => False.elim (by omega))
                refine lv_aload_n hx hb rdX12_readsRule_244 rfl (lv_at hl 1 rfl) ?_
                refine f_12_13 F w (a := 146) rfl rtb_127 rdX12_readsRule_245 ?_
                have htl142 := tok_le T tn (Prod.fst (Prod.snd (rdC T tn 15 16 4 (rdC T tn 11 14 2 (rdV T tn b)))))
                refine r_val (v := (zI (((tok T tn (Prod.fst (Prod.snd (rdC T tn 15 16 4 (rdC T tn 11 14 2 (rdV T tn b)))))) : Nat) : Int))) (Yq126.2.2.2.1.2.2.2.1) ?_
                refine lv_iconst (v := zI 3) hx hb rdX12_readsRule_248 rfl ?_
                refine z_icmp_ne (tgt := 259) hx hb (by omega) (by omega) rdX12_readsRule_249 (by decide) (fun c143 => ?_) (fun c143 => ?_)
                · refine lv_aload_n hx hb rdX12_readsRule_259 rfl (lv_at hl 1 rfl) ?_
                  refine lv_iconst (v := zI 1) hx hb rdX12_readsRule_260 rfl ?_
                  refine u_12_16 F w (a := 146) rfl (by decide) (by decide) rtb_139 rdX12_readsRule_261 (fun H locs w => ?_)
                  exact e_v F w hr hlocks ⟨YS.e (YS.bad Yq126) (rdR_I gV (by rw [eP]; exact rdI_n (Or.inr (Or.inr hb132))) (rdS_n (by omega) (fun q9 => absurd (tok_3.mpr q9) (by omega)))), FrY.t Fq126⟩ rdX12_readsRule_264
                · refine lv_aload_n hx hb rdX12_readsRule_252 rfl (lv_at hl 1 rfl) ?_
                  refine k_Vv F w (As := []) (rest := []) (a := 146) (kd_lt (a := 146) (show kd 146 = (12, 0, 0) from rfl) (by decide)) (sh_12 rfl _ _) rfl (t_goesOn hT Yq126.2.1 Yq126.2.2.1 (E := en T tn (Prod.fst (Prod.snd (rdC T tn 15 16 4 (rdC T tn 11 14 2 (rdV T tn b)))))) (wa := tok T tn (Prod.fst (Prod.snd (rdC T tn 15 16 4 (rdC T tn 11 14 2 (rdV T tn b)))))) (en_le Yq126.2.2.2.1.1).2.1 Yq126.2.2.2.1.2.2.1 Yq126.2.2.2.1.2.2.2.1 (tok_le T tn _) (tok_w Yq126.2.2.2.1.1 (Or.inr (Or.inr (by omega))))) rgv_X12_221 rhv_X12_goesOn ⟨(Nat.le_of_ble_eq_true rfl), (Nat.le_of_ble_eq_true rfl)⟩ hl.1 rfl (Nat.le_of_ble_eq_true rfl) ⟨Nat.zero_le _, Nat.zero_le _⟩ rdX12_readsRule_253 (fun Ma145 H locs hp w => ?_)
                  rcases hp with ⟨hRn144, hGn144⟩
                  have hYn144 := YS.go Yq126 (by omega) hRn144 hGn144
                  have hFn144 : FrY Ma145 M := FrY.tr Fq126 (FrY.w (FrW.g hGn144))
                  refine lv_goto (tgt := 264) hx hb rdX12_readsRule_256 (by decide) ?_
                  exact e_v F w hr hlocks ⟨YS.e hYn144 (rdR_I gV (by rw [eP]; exact rdI_n (Or.inr (Or.inr hb132))) (rdS_y (by omega) (tok_3.mp (by omega)).1 (tok_3.mp (by omega)).2)), hFn144⟩ rdX12_readsRule_264
        · exact absurd hb117 (by omega)
      · subst c9
        refine lv_istore_n (lv' := [(1, .int (zI 3)), (0, .ref (B + 146))]) hx hb rdX12_readsRule_63 rfl hl (by decide) rfl (fun ls hl => ?_)
        refine lv_aload_n hx hb rdX12_readsRule_64 rfl (lv_at hl 1 rfl) ?_
        refine f_12_17 F w (a := 146) rfl rtb_146 rdX12_readsRule_65 ?_
        refine lv_iconst (v := zI 0) hx hb rdX12_readsRule_68 rfl ?_
        refine lv_iload_n hx hb rdX12_readsRule_69 rfl (lv_at hl 0 rfl) ?_
        refine g_iast F w (a := 153) rfl (j := 0) ⟨by decide, by decide⟩ (by omega) rdX12_readsRule_70 (fun H locs w => ?_)
        refine lv_iload_n hx hb rdX12_readsRule_71 rfl (lv_at hl 0 rfl) ?_
        refine lv_bipush (v := zI 8) hx hb rdX12_readsRule_72 (by decide) ?_
        refine z_icmp_ne (tgt := 90) hx hb (by omega) (by omega) rdX12_readsRule_74 (by decide) (fun c146 => ?_) (fun c146 => False.elim (by omega))
        refine lv_iload_n hx hb rdX12_readsRule_90 rfl (lv_at hl 0 rfl) ?_
        refine z_if_eq (tgt := 119) hx hb (by omega) rdX12_readsRule_91 (by decide) (fun c147 => False.elim (by omega)) (fun c147 => ?_)
        refine lv_aload_n hx hb rdX12_readsRule_94 rfl (lv_at hl 1 rfl) ?_
        refine f_12_17 F w (a := 146) rfl rtb_146 rdX12_readsRule_95 ?_
        refine lv_iconst (v := zI 2) hx hb rdX12_readsRule_98 rfl ?_
        refine lv_aload_n hx hb rdX12_readsRule_99 rfl (lv_at hl 1 rfl) ?_
        refine lv_bipush (v := zI 11) hx hb rdX12_readsRule_100 (by decide) ?_
        refine lv_iload_n hx hb rdX12_readsRule_102 rfl (lv_at hl 0 rfl) ?_
        refine lv_bipush (v := zI 9) hx hb rdX12_readsRule_103 (by decide) ?_
        refine z_icmp_ne (tgt := 113) hx hb (by omega) (by omega) rdX12_readsRule_105 (by decide) (fun c148 => ?_) (fun c148 => False.elim (by omega))
        refine lv_bipush (v := zI 14) hx hb rdX12_readsRule_113 (by decide) ?_
        have Yq149 : YS (st Ma33 153 0 (zI 3)) T tn (rdV T tn b) := hV
        have Fq149 : FrY (st Ma33 153 0 (zI 3)) M := FrY.o hFn32
        generalize (st Ma33 153 0 (zI 3)) = Mzq149 at w Yq149 Fq149
        refine k_Vi F w (As := [.int (zI 11), .int (zI 14)]) (rest := [.int (zI 2), .ref (B + 153)]) (a := 146) (kd_lt (a := 146) (show kd 146 = (12, 0, 0) from rfl) (by decide)) (sh_12 rfl _ _) rfl (t_needs hT (x := (rdV T tn b)) Yq149 (lo := 11) (hi := 14) (by decide) (by decide)) rgv_X12_227 rhv_X12_needs ⟨(Nat.le_of_ble_eq_true rfl), (Nat.le_of_ble_eq_true rfl)⟩ hl.1 rfl (Nat.le_of_ble_eq_true rfl) ⟨Nat.zero_le _, Nat.zero_le _⟩ rdX12_readsRule_115 (fun r Ma151 H locs hp w => ?_)
        rcases hp with ⟨vn150, rfl, hFn150, -, -, -, hSn150, hWn150⟩
        have hFn150 : FrY Ma151 M := FrY.tr Fq149 (FrY.w hFn150)
        refine g_iast F w (a := 153) rfl (j := 2) ⟨by decide, by decide⟩ (by omega) rdX12_readsRule_118 (fun H locs w => ?_)
        refine lv_iload_n hx hb rdX12_readsRule_119 rfl (lv_at hl 0 rfl) ?_
        refine lv_bipush (v := zI 7) hx hb rdX12_readsRule_120 (by decide) ?_
        refine z_icmp_ne (tgt := 148) hx hb (by omega) (by omega) rdX12_readsRule_122 (by decide) (fun c152 => ?_) (fun c152 => False.elim (by omega))
        refine lv_iload_n hx hb rdX12_readsRule_148 rfl (lv_at hl 0 rfl) ?_
        refine k_Si F w (As := [.int (zI 3)]) (rest := []) (t_hasSide (z := 3) (by omega)) rgs_X12_137 rhs_X12_hasSide ⟨(Nat.le_of_ble_eq_true rfl), (Nat.le_of_ble_eq_true rfl)⟩ hl.1 rfl (Nat.le_of_ble_eq_true rfl) ⟨Nat.zero_le _, Nat.zero_le _⟩ rdX12_readsRule_149 (fun r Ma154 H locs hp w => ?_)
        rcases hp with ⟨⟨hb153, rfl⟩ | ⟨hb153, rfl⟩, hMe⟩
        · exact absurd hb153 (by omega)
        · rw [hMe] at w
          refine z_if_eq (tgt := 169) hx hb (by omega) rdX12_readsRule_152 (by decide) (fun c155 => ?_) (fun c155 => False.elim (by omega))
          refine lv_iload_n hx hb rdX12_readsRule_169 rfl (lv_at hl 0 rfl) ?_
          refine lv_iconst (v := zI 3) hx hb rdX12_readsRule_170 rfl ?_
          refine z_icmp_eq (tgt := 180) hx hb (by omega) (by omega) rdX12_readsRule_171 (by decide) (fun c156 => ?_) (fun c156 => False.elim (by omega))
          refine lv_aload_n hx hb rdX12_readsRule_180 rfl (lv_at hl 1 rfl) ?_
          refine f_12_17 F w (a := 146) rfl rtb_146 rdX12_readsRule_181 ?_
          refine lv_iconst (v := zI 4) hx hb rdX12_readsRule_184 rfl ?_
          refine lv_aload_n hx hb rdX12_readsRule_185 rfl (lv_at hl 1 rfl) ?_
          refine lv_bipush (v := zI 17) hx hb rdX12_readsRule_186 (by decide) ?_
          refine lv_bipush (v := zI 18) hx hb rdX12_readsRule_188 (by decide) ?_
          have Yq157 : YS (st Ma151 153 2 (zI vn150)) T tn (rdC T tn 11 14 2 (rdV T tn b)) := hSn150 2
          have Fq157 : FrY (st Ma151 153 2 (zI vn150)) M := FrY.o hFn150
          generalize (st Ma151 153 2 (zI vn150)) = Mzq157 at w Yq157 Fq157
          refine k_Vi F w (As := [.int (zI 17), .int (zI 18)]) (rest := [.int (zI 4), .ref (B + 153)]) (a := 146) (kd_lt (a := 146) (show kd 146 = (12, 0, 0) from rfl) (by decide)) (sh_12 rfl _ _) rfl (t_needs hT (x := (rdC T tn 11 14 2 (rdV T tn b))) Yq157 (lo := 17) (hi := 18) (by decide) (by decide)) rgv_X12_227 rhv_X12_needs ⟨(Nat.le_of_ble_eq_true rfl), (Nat.le_of_ble_eq_true rfl)⟩ hl.1 rfl (Nat.le_of_ble_eq_true rfl) ⟨Nat.zero_le _, Nat.zero_le _⟩ rdX12_readsRule_190 (fun r Ma159 H locs hp w => ?_)
          rcases hp with ⟨vn158, rfl, hFn158, -, -, -, hSn158, hWn158⟩
          have hFn158 : FrY Ma159 M := FrY.tr Fq157 (FrY.w hFn158)
          refine g_iast F w (a := 153) rfl (j := 4) ⟨by decide, by decide⟩ (by omega) rdX12_readsRule_193 (fun H locs w => ?_)
          refine lv_iload_n hx hb rdX12_readsRule_194 rfl (lv_at hl 0 rfl) ?_
          refine lv_iconst (v := zI 1) hx hb rdX12_readsRule_195 rfl ?_
          refine z_icmp_ne (tgt := 209) hx hb (by omega) (by omega) rdX12_readsRule_196 (by decide) (fun c160 => ?_) (fun c160 => False.elim (by omega))
          have Yq161 : YS (st Ma159 153 4 (zI vn158)) T tn (rdC T tn 17 18 4 (rdC T tn 11 14 2 (rdV T tn b))) := hSn158 4
          have Fq161 : FrY (st Ma159 153 4 (zI vn158)) M := FrY.o hFn158
          generalize (st Ma159 153 4 (zI vn158)) = Mzq161 at w Yq161 Fq161
          have hGf := Yq161.1.1
          have eP : rdP T tn ((rdV T tn b).2.2 0) (rdV T tn b) = (rdC T tn 17 18 4 (rdC T tn 11 14 2 (rdV T tn b))) := ((rdP_3 (by omega)).trans (by rw [rdK_o (by omega) (by omega)]))
          refine lv_aload_n hx hb rdX12_readsRule_209 rfl (lv_at hl 1 rfl) ?_
          refine f_12_16 F w (a := 146) rfl rtb_139 rdX12_readsRule_210 ?_
          refine r_val (v := (zI (1 - ((Prod.fst (rdC T tn 17 18 4 (rdC T tn 11 14 2 (rdV T tn b))) : Nat) : Int)))) (Yq161.2.2.2.2.1) ?_
          refine z_if_ne (tgt := 236) hx hb (by omega) rdX12_readsRule_213 (by decide) (fun c162 => ?_) (fun c162 => ?_)
          · have hGi := Yq161.1.1
            refine lv_aload_n hx hb rdX12_readsRule_236 rfl (lv_at hl 1 rfl) ?_
            refine f_12_16 F w (a := 146) rfl rtb_139 rdX12_readsRule_237 ?_
            refine r_val (v := (zI (1 - ((Prod.fst (rdC T tn 17 18 4 (rdC T tn 11 14 2 (rdV T tn b))) : Nat) : Int)))) (Yq161.2.2.2.2.1) ?_
            refine z_if_eq (tgt := 244) hx hb (by omega) rdX12_readsRule_240 (by decide) (fun c163 => False.elim (by omega)) (fun c163 => ?_)
            exact e_v F w hr hlocks ⟨YS.e Yq161 ((rdR_1 gV (by rw [eP]; omega)).trans eP), Fq161⟩ rdX12_readsRule_243
          · refine lv_iload_n hx hb rdX12_readsRule_216 rfl (lv_at hl 0 rfl) ?_
            refine k_Si F w (As := [.int (zI 3)]) (rest := []) (t_isBySyllables (z := 3) (by omega)) rgs_X12_140 rhs_X12_isBySyllables ⟨(Nat.le_of_ble_eq_true rfl), (Nat.le_of_ble_eq_true rfl)⟩ hl.1 rfl (Nat.le_of_ble_eq_true rfl) ⟨Nat.zero_le _, Nat.zero_le _⟩ rdX12_readsRule_217 (fun r Ma165 H locs hp w => ?_)
            rcases hp with ⟨⟨hb164, rfl⟩ | ⟨hb164, rfl⟩, hMe⟩
            · exact absurd hb164 (by omega)
            · rw [hMe] at w
              refine z_if_ne (tgt := 236) hx hb (by omega) rdX12_readsRule_220 (by decide) (fun c166 => False.elim (by omega)) (fun c166 => ?_)
              refine lv_aload_n hx hb rdX12_readsRule_223 rfl (lv_at hl 1 rfl) ?_
              refine lv_bipush (v := zI 20) hx hb rdX12_readsRule_224 (by decide) ?_
              refine k_Vi F w (As := [.int (zI 20)]) (rest := []) (a := 146) (kd_lt (a := 146) (show kd 146 = (12, 0, 0) from rfl) (by decide)) (sh_12 rfl _ _) rfl (t_isWord hT (x := (rdC T tn 17 18 4 (rdC T tn 11 14 2 (rdV T tn b)))) Yq161 (lo := 20) (by decide)) rgv_X12_224 rhv_X12_isWord ⟨(Nat.le_of_ble_eq_true rfl), (Nat.le_of_ble_eq_true rfl)⟩ hl.1 rfl (Nat.le_of_ble_eq_true rfl) ⟨Nat.zero_le _, Nat.zero_le _⟩ rdX12_readsRule_226 (fun r Ma168 H locs hp w => ?_)
              rcases hp with ⟨⟨hb167, rfl⟩ | ⟨hb167, rfl⟩, hMe⟩
              · rw [hMe] at w
                refine z_if_eq (tgt := 236) hx hb (by omega) rdX12_readsRule_229 (by decide) (fun c169 => False.elim (by omega)) (fun c169 => ?_)
                refine lv_aload_n hx hb rdX12_readsRule_232 rfl (lv_at hl 1 rfl) ?_
                refine k_Vv F w (As := []) (rest := []) (a := 146) (kd_lt (a := 146) (show kd 146 = (12, 0, 0) from rfl) (by decide)) (sh_12 rfl _ _) rfl (t_readsTest hT (x := (rdC T tn 17 18 4 (rdC T tn 11 14 2 (rdV T tn b)))) Yq161 (by omega) (Or.inl (tk_w0 (T := T) (N := tn) Yq161.2.2.2.1.1 hb167))) rgv_X12_233 rhv_X12_readsTest ⟨(Nat.le_of_ble_eq_true rfl), (Nat.le_of_ble_eq_true rfl)⟩ hl.1 rfl (Nat.le_of_ble_eq_true rfl) ⟨Nat.zero_le _, Nat.zero_le _⟩ rdX12_readsRule_233 (fun Ma171 H locs hp w => ?_)
                rcases hp with ⟨hYn170, hFn170⟩
                have hFn170 : FrY Ma171 M := FrY.tr Fq161 hFn170
                have hGi := hYn170.1.1
                refine lv_aload_n hx hb rdX12_readsRule_236 rfl (lv_at hl 1 rfl) ?_
                refine f_12_16 F w (a := 146) rfl rtb_139 rdX12_readsRule_237 ?_
                refine r_val (v := (zI (1 - ((Prod.fst (rdT T tn (1, en T tn (Prod.fst (Prod.snd (rdC T tn 17 18 4 (rdC T tn 11 14 2 (rdV T tn b))))), Prod.snd (Prod.snd (rdC T tn 17 18 4 (rdC T tn 11 14 2 (rdV T tn b)))))) : Nat) : Int)))) (hYn170.2.2.2.2.1) ?_
                refine z_if_eq (tgt := 244) hx hb (by omega) rdX12_readsRule_240 (by decide) (fun c172 => ?_) (fun c172 => ?_)
                · refine lv_aload_n hx hb rdX12_readsRule_244 rfl (lv_at hl 1 rfl) ?_
                  refine f_12_13 F w (a := 146) rfl rtb_127 rdX12_readsRule_245 ?_
                  have htl172 := tok_le T tn (Prod.fst (Prod.snd (rdT T tn (1, en T tn (Prod.fst (Prod.snd (rdC T tn 17 18 4 (rdC T tn 11 14 2 (rdV T tn b))))), Prod.snd (Prod.snd (rdC T tn 17 18 4 (rdC T tn 11 14 2 (rdV T tn b))))))))
                  refine r_val (v := (zI (((tok T tn (Prod.fst (Prod.snd (rdT T tn (1, en T tn (Prod.fst (Prod.snd (rdC T tn 17 18 4 (rdC T tn 11 14 2 (rdV T tn b))))), Prod.snd (Prod.snd (rdC T tn 17 18 4 (rdC T tn 11 14 2 (rdV T tn b))))))))) : Nat) : Int))) (hYn170.2.2.2.1.2.2.2.1) ?_
                  refine lv_iconst (v := zI 3) hx hb rdX12_readsRule_248 rfl ?_
                  refine z_icmp_ne (tgt := 259) hx hb (by omega) (by omega) rdX12_readsRule_249 (by decide) (fun c173 => ?_) (fun c173 => ?_)
                  · refine lv_aload_n hx hb rdX12_readsRule_259 rfl (lv_at hl 1 rfl) ?_
                    refine lv_iconst (v := zI 1) hx hb rdX12_readsRule_260 rfl ?_
                    refine u_12_16 F w (a := 146) rfl (by decide) (by decide) rtb_139 rdX12_readsRule_261 (fun H locs w => ?_)
                    exact e_v F w hr hlocks ⟨YS.e (YS.bad hYn170) (rdR_I gV (by rw [eP]; exact rdI_y (by omega) (by omega) hb167) (rdS_n (by omega) (fun q9 => absurd (tok_3.mpr q9) (by omega)))), FrY.t hFn170⟩ rdX12_readsRule_264
                  · refine lv_aload_n hx hb rdX12_readsRule_252 rfl (lv_at hl 1 rfl) ?_
                    refine k_Vv F w (As := []) (rest := []) (a := 146) (kd_lt (a := 146) (show kd 146 = (12, 0, 0) from rfl) (by decide)) (sh_12 rfl _ _) rfl (t_goesOn hT hYn170.2.1 hYn170.2.2.1 (E := en T tn (Prod.fst (Prod.snd (rdT T tn (1, en T tn (Prod.fst (Prod.snd (rdC T tn 17 18 4 (rdC T tn 11 14 2 (rdV T tn b))))), Prod.snd (Prod.snd (rdC T tn 17 18 4 (rdC T tn 11 14 2 (rdV T tn b))))))))) (wa := tok T tn (Prod.fst (Prod.snd (rdT T tn (1, en T tn (Prod.fst (Prod.snd (rdC T tn 17 18 4 (rdC T tn 11 14 2 (rdV T tn b))))), Prod.snd (Prod.snd (rdC T tn 17 18 4 (rdC T tn 11 14 2 (rdV T tn b))))))))) (en_le hYn170.2.2.2.1.1).2.1 hYn170.2.2.2.1.2.2.1 hYn170.2.2.2.1.2.2.2.1 (tok_le T tn _) (tok_w hYn170.2.2.2.1.1 (Or.inr (Or.inr (by omega))))) rgv_X12_221 rhv_X12_goesOn ⟨(Nat.le_of_ble_eq_true rfl), (Nat.le_of_ble_eq_true rfl)⟩ hl.1 rfl (Nat.le_of_ble_eq_true rfl) ⟨Nat.zero_le _, Nat.zero_le _⟩ rdX12_readsRule_253 (fun Ma175 H locs hp w => ?_)
                    rcases hp with ⟨hRn174, hGn174⟩
                    have hYn174 := YS.go hYn170 (by omega) hRn174 hGn174
                    have hFn174 : FrY Ma175 M := FrY.tr hFn170 (FrY.w (FrW.g hGn174))
                    refine lv_goto (tgt := 264) hx hb rdX12_readsRule_256 (by decide) ?_
                    exact e_v F w hr hlocks ⟨YS.e hYn174 (rdR_I gV (by rw [eP]; exact rdI_y (by omega) (by omega) hb167) (rdS_y (by omega) (tok_3.mp (by omega)).1 (tok_3.mp (by omega)).2)), hFn174⟩ rdX12_readsRule_264
                · exact e_v F w hr hlocks ⟨YS.e hYn170 (rdR_2 gV (by rw [eP]; exact rdI_y (by omega) (by omega) hb167) (by omega)), hFn170⟩ rdX12_readsRule_243
              · rw [hMe] at w
                refine z_if_eq (tgt := 236) hx hb (by omega) rdX12_readsRule_229 (by decide) (fun c176 => ?_) (fun c176 => False.elim (by omega))
                have hGi := Yq161.1.1
                refine lv_aload_n hx hb rdX12_readsRule_236 rfl (lv_at hl 1 rfl) ?_
                refine f_12_16 F w (a := 146) rfl rtb_139 rdX12_readsRule_237 ?_
                refine r_val (v := (zI (1 - ((Prod.fst (rdC T tn 17 18 4 (rdC T tn 11 14 2 (rdV T tn b))) : Nat) : Int)))) (Yq161.2.2.2.2.1) ?_
                refine z_if_eq (tgt := 244) hx hb (by omega) rdX12_readsRule_240 (by decide) (fun c177 => ?_) (fun c177 => False.elim (by omega))
                refine lv_aload_n hx hb rdX12_readsRule_244 rfl (lv_at hl 1 rfl) ?_
                refine f_12_13 F w (a := 146) rfl rtb_127 rdX12_readsRule_245 ?_
                have htl177 := tok_le T tn (Prod.fst (Prod.snd (rdC T tn 17 18 4 (rdC T tn 11 14 2 (rdV T tn b)))))
                refine r_val (v := (zI (((tok T tn (Prod.fst (Prod.snd (rdC T tn 17 18 4 (rdC T tn 11 14 2 (rdV T tn b)))))) : Nat) : Int))) (Yq161.2.2.2.1.2.2.2.1) ?_
                refine lv_iconst (v := zI 3) hx hb rdX12_readsRule_248 rfl ?_
                refine z_icmp_ne (tgt := 259) hx hb (by omega) (by omega) rdX12_readsRule_249 (by decide) (fun c178 => ?_) (fun c178 => ?_)
                · refine lv_aload_n hx hb rdX12_readsRule_259 rfl (lv_at hl 1 rfl) ?_
                  refine lv_iconst (v := zI 1) hx hb rdX12_readsRule_260 rfl ?_
                  refine u_12_16 F w (a := 146) rfl (by decide) (by decide) rtb_139 rdX12_readsRule_261 (fun H locs w => ?_)
                  exact e_v F w hr hlocks ⟨YS.e (YS.bad Yq161) (rdR_I gV (by rw [eP]; exact rdI_n (Or.inr (Or.inr hb167))) (rdS_n (by omega) (fun q9 => absurd (tok_3.mpr q9) (by omega)))), FrY.t Fq161⟩ rdX12_readsRule_264
                · refine lv_aload_n hx hb rdX12_readsRule_252 rfl (lv_at hl 1 rfl) ?_
                  refine k_Vv F w (As := []) (rest := []) (a := 146) (kd_lt (a := 146) (show kd 146 = (12, 0, 0) from rfl) (by decide)) (sh_12 rfl _ _) rfl (t_goesOn hT Yq161.2.1 Yq161.2.2.1 (E := en T tn (Prod.fst (Prod.snd (rdC T tn 17 18 4 (rdC T tn 11 14 2 (rdV T tn b)))))) (wa := tok T tn (Prod.fst (Prod.snd (rdC T tn 17 18 4 (rdC T tn 11 14 2 (rdV T tn b)))))) (en_le Yq161.2.2.2.1.1).2.1 Yq161.2.2.2.1.2.2.1 Yq161.2.2.2.1.2.2.2.1 (tok_le T tn _) (tok_w Yq161.2.2.2.1.1 (Or.inr (Or.inr (by omega))))) rgv_X12_221 rhv_X12_goesOn ⟨(Nat.le_of_ble_eq_true rfl), (Nat.le_of_ble_eq_true rfl)⟩ hl.1 rfl (Nat.le_of_ble_eq_true rfl) ⟨Nat.zero_le _, Nat.zero_le _⟩ rdX12_readsRule_253 (fun Ma180 H locs hp w => ?_)
                  rcases hp with ⟨hRn179, hGn179⟩
                  have hYn179 := YS.go Yq161 (by omega) hRn179 hGn179
                  have hFn179 : FrY Ma180 M := FrY.tr Fq161 (FrY.w (FrW.g hGn179))
                  refine lv_goto (tgt := 264) hx hb rdX12_readsRule_256 (by decide) ?_
                  exact e_v F w hr hlocks ⟨YS.e hYn179 (rdR_I gV (by rw [eP]; exact rdI_n (Or.inr (Or.inr hb167))) (rdS_y (by omega) (tok_3.mp (by omega)).1 (tok_3.mp (by omega)).2)), hFn179⟩ rdX12_readsRule_264
      · subst c9
        refine lv_istore_n (lv' := [(1, .int (zI 4)), (0, .ref (B + 146))]) hx hb rdX12_readsRule_63 rfl hl (by decide) rfl (fun ls hl => ?_)
        refine lv_aload_n hx hb rdX12_readsRule_64 rfl (lv_at hl 1 rfl) ?_
        refine f_12_17 F w (a := 146) rfl rtb_146 rdX12_readsRule_65 ?_
        refine lv_iconst (v := zI 0) hx hb rdX12_readsRule_68 rfl ?_
        refine lv_iload_n hx hb rdX12_readsRule_69 rfl (lv_at hl 0 rfl) ?_
        refine g_iast F w (a := 153) rfl (j := 0) ⟨by decide, by decide⟩ (by omega) rdX12_readsRule_70 (fun H locs w => ?_)
        refine lv_iload_n hx hb rdX12_readsRule_71 rfl (lv_at hl 0 rfl) ?_
        refine lv_bipush (v := zI 8) hx hb rdX12_readsRule_72 (by decide) ?_
        refine z_icmp_ne (tgt := 90) hx hb (by omega) (by omega) rdX12_readsRule_74 (by decide) (fun c181 => ?_) (fun c181 => False.elim (by omega))
        refine lv_iload_n hx hb rdX12_readsRule_90 rfl (lv_at hl 0 rfl) ?_
        refine z_if_eq (tgt := 119) hx hb (by omega) rdX12_readsRule_91 (by decide) (fun c182 => False.elim (by omega)) (fun c182 => ?_)
        refine lv_aload_n hx hb rdX12_readsRule_94 rfl (lv_at hl 1 rfl) ?_
        refine f_12_17 F w (a := 146) rfl rtb_146 rdX12_readsRule_95 ?_
        refine lv_iconst (v := zI 2) hx hb rdX12_readsRule_98 rfl ?_
        refine lv_aload_n hx hb rdX12_readsRule_99 rfl (lv_at hl 1 rfl) ?_
        refine lv_bipush (v := zI 11) hx hb rdX12_readsRule_100 (by decide) ?_
        refine lv_iload_n hx hb rdX12_readsRule_102 rfl (lv_at hl 0 rfl) ?_
        refine lv_bipush (v := zI 9) hx hb rdX12_readsRule_103 (by decide) ?_
        refine z_icmp_ne (tgt := 113) hx hb (by omega) (by omega) rdX12_readsRule_105 (by decide) (fun c183 => ?_) (fun c183 => False.elim (by omega))
        refine lv_bipush (v := zI 14) hx hb rdX12_readsRule_113 (by decide) ?_
        have Yq184 : YS (st Ma33 153 0 (zI 4)) T tn (rdV T tn b) := hV
        have Fq184 : FrY (st Ma33 153 0 (zI 4)) M := FrY.o hFn32
        generalize (st Ma33 153 0 (zI 4)) = Mzq184 at w Yq184 Fq184
        refine k_Vi F w (As := [.int (zI 11), .int (zI 14)]) (rest := [.int (zI 2), .ref (B + 153)]) (a := 146) (kd_lt (a := 146) (show kd 146 = (12, 0, 0) from rfl) (by decide)) (sh_12 rfl _ _) rfl (t_needs hT (x := (rdV T tn b)) Yq184 (lo := 11) (hi := 14) (by decide) (by decide)) rgv_X12_227 rhv_X12_needs ⟨(Nat.le_of_ble_eq_true rfl), (Nat.le_of_ble_eq_true rfl)⟩ hl.1 rfl (Nat.le_of_ble_eq_true rfl) ⟨Nat.zero_le _, Nat.zero_le _⟩ rdX12_readsRule_115 (fun r Ma186 H locs hp w => ?_)
        rcases hp with ⟨vn185, rfl, hFn185, -, -, -, hSn185, hWn185⟩
        have hFn185 : FrY Ma186 M := FrY.tr Fq184 (FrY.w hFn185)
        refine g_iast F w (a := 153) rfl (j := 2) ⟨by decide, by decide⟩ (by omega) rdX12_readsRule_118 (fun H locs w => ?_)
        refine lv_iload_n hx hb rdX12_readsRule_119 rfl (lv_at hl 0 rfl) ?_
        refine lv_bipush (v := zI 7) hx hb rdX12_readsRule_120 (by decide) ?_
        refine z_icmp_ne (tgt := 148) hx hb (by omega) (by omega) rdX12_readsRule_122 (by decide) (fun c187 => ?_) (fun c187 => False.elim (by omega))
        refine lv_iload_n hx hb rdX12_readsRule_148 rfl (lv_at hl 0 rfl) ?_
        refine k_Si F w (As := [.int (zI 4)]) (rest := []) (t_hasSide (z := 4) (by omega)) rgs_X12_137 rhs_X12_hasSide ⟨(Nat.le_of_ble_eq_true rfl), (Nat.le_of_ble_eq_true rfl)⟩ hl.1 rfl (Nat.le_of_ble_eq_true rfl) ⟨Nat.zero_le _, Nat.zero_le _⟩ rdX12_readsRule_149 (fun r Ma189 H locs hp w => ?_)
        rcases hp with ⟨⟨hb188, rfl⟩ | ⟨hb188, rfl⟩, hMe⟩
        · rw [hMe] at w
          refine z_if_eq (tgt := 169) hx hb (by omega) rdX12_readsRule_152 (by decide) (fun c190 => False.elim (by omega)) (fun c190 => ?_)
          refine lv_aload_n hx hb rdX12_readsRule_155 rfl (lv_at hl 1 rfl) ?_
          refine f_12_17 F w (a := 146) rfl rtb_146 rdX12_readsRule_156 ?_
          refine lv_iconst (v := zI 4) hx hb rdX12_readsRule_159 rfl ?_
          refine lv_aload_n hx hb rdX12_readsRule_160 rfl (lv_at hl 1 rfl) ?_
          refine lv_bipush (v := zI 15) hx hb rdX12_readsRule_161 (by decide) ?_
          refine lv_bipush (v := zI 16) hx hb rdX12_readsRule_163 (by decide) ?_
          have Yq191 : YS (st Ma186 153 2 (zI vn185)) T tn (rdC T tn 11 14 2 (rdV T tn b)) := hSn185 2
          have Fq191 : FrY (st Ma186 153 2 (zI vn185)) M := FrY.o hFn185
          generalize (st Ma186 153 2 (zI vn185)) = Mzq191 at w Yq191 Fq191
          refine k_Vi F w (As := [.int (zI 15), .int (zI 16)]) (rest := [.int (zI 4), .ref (B + 153)]) (a := 146) (kd_lt (a := 146) (show kd 146 = (12, 0, 0) from rfl) (by decide)) (sh_12 rfl _ _) rfl (t_needs hT (x := (rdC T tn 11 14 2 (rdV T tn b))) Yq191 (lo := 15) (hi := 16) (by decide) (by decide)) rgv_X12_227 rhv_X12_needs ⟨(Nat.le_of_ble_eq_true rfl), (Nat.le_of_ble_eq_true rfl)⟩ hl.1 rfl (Nat.le_of_ble_eq_true rfl) ⟨Nat.zero_le _, Nat.zero_le _⟩ rdX12_readsRule_165 (fun r Ma193 H locs hp w => ?_)
          rcases hp with ⟨vn192, rfl, hFn192, -, -, -, hSn192, hWn192⟩
          have hFn192 : FrY Ma193 M := FrY.tr Fq191 (FrY.w hFn192)
          refine g_iast F w (a := 153) rfl (j := 4) ⟨by decide, by decide⟩ (by omega) rdX12_readsRule_168 (fun H locs w => ?_)
          refine lv_iload_n hx hb rdX12_readsRule_169 rfl (lv_at hl 0 rfl) ?_
          refine lv_iconst (v := zI 3) hx hb rdX12_readsRule_170 rfl ?_
          refine z_icmp_eq (tgt := 180) hx hb (by omega) (by omega) rdX12_readsRule_171 (by decide) (fun c194 => False.elim (by omega)) (fun c194 => ?_)
          refine lv_iload_n hx hb rdX12_readsRule_174 rfl (lv_at hl 0 rfl) ?_
          refine lv_bipush (v := zI 8) hx hb rdX12_readsRule_175 (by decide) ?_
          refine z_icmp_ne (tgt := 194) hx hb (by omega) (by omega) rdX12_readsRule_177 (by decide) (fun c195 => ?_) (fun c195 => False.elim (by omega))
          refine lv_iload_n hx hb rdX12_readsRule_194 rfl (lv_at hl 0 rfl) ?_
          refine lv_iconst (v := zI 1) hx hb rdX12_readsRule_195 rfl ?_
          refine z_icmp_ne (tgt := 209) hx hb (by omega) (by omega) rdX12_readsRule_196 (by decide) (fun c196 => ?_) (fun c196 => False.elim (by omega))
          have Yq197 : YS (st Ma193 153 4 (zI vn192)) T tn (rdC T tn 15 16 4 (rdC T tn 11 14 2 (rdV T tn b))) := hSn192 4
          have Fq197 : FrY (st Ma193 153 4 (zI vn192)) M := FrY.o hFn192
          generalize (st Ma193 153 4 (zI vn192)) = Mzq197 at w Yq197 Fq197
          have hGf := Yq197.1.1
          have eP : rdP T tn ((rdV T tn b).2.2 0) (rdV T tn b) = (rdC T tn 15 16 4 (rdC T tn 11 14 2 (rdV T tn b))) := ((rdP_0 (by omega)).trans (by rw [rdK_o (by omega) (by omega)]))
          refine lv_aload_n hx hb rdX12_readsRule_209 rfl (lv_at hl 1 rfl) ?_
          refine f_12_16 F w (a := 146) rfl rtb_139 rdX12_readsRule_210 ?_
          refine r_val (v := (zI (1 - ((Prod.fst (rdC T tn 15 16 4 (rdC T tn 11 14 2 (rdV T tn b))) : Nat) : Int)))) (Yq197.2.2.2.2.1) ?_
          refine z_if_ne (tgt := 236) hx hb (by omega) rdX12_readsRule_213 (by decide) (fun c198 => ?_) (fun c198 => ?_)
          · have hGi := Yq197.1.1
            refine lv_aload_n hx hb rdX12_readsRule_236 rfl (lv_at hl 1 rfl) ?_
            refine f_12_16 F w (a := 146) rfl rtb_139 rdX12_readsRule_237 ?_
            refine r_val (v := (zI (1 - ((Prod.fst (rdC T tn 15 16 4 (rdC T tn 11 14 2 (rdV T tn b))) : Nat) : Int)))) (Yq197.2.2.2.2.1) ?_
            refine z_if_eq (tgt := 244) hx hb (by omega) rdX12_readsRule_240 (by decide) (fun c199 => False.elim (by omega)) (fun c199 => ?_)
            exact e_v F w hr hlocks ⟨YS.e Yq197 ((rdR_1 gV (by rw [eP]; omega)).trans eP), Fq197⟩ rdX12_readsRule_243
          · refine lv_iload_n hx hb rdX12_readsRule_216 rfl (lv_at hl 0 rfl) ?_
            refine k_Si F w (As := [.int (zI 4)]) (rest := []) (t_isBySyllables (z := 4) (by omega)) rgs_X12_140 rhs_X12_isBySyllables ⟨(Nat.le_of_ble_eq_true rfl), (Nat.le_of_ble_eq_true rfl)⟩ hl.1 rfl (Nat.le_of_ble_eq_true rfl) ⟨Nat.zero_le _, Nat.zero_le _⟩ rdX12_readsRule_217 (fun r Ma201 H locs hp w => ?_)
            rcases hp with ⟨⟨hb200, rfl⟩ | ⟨hb200, rfl⟩, hMe⟩
            · exact absurd hb200 (by omega)
            · rw [hMe] at w
              refine z_if_ne (tgt := 236) hx hb (by omega) rdX12_readsRule_220 (by decide) (fun c202 => False.elim (by omega)) (fun c202 => ?_)
              refine lv_aload_n hx hb rdX12_readsRule_223 rfl (lv_at hl 1 rfl) ?_
              refine lv_bipush (v := zI 20) hx hb rdX12_readsRule_224 (by decide) ?_
              refine k_Vi F w (As := [.int (zI 20)]) (rest := []) (a := 146) (kd_lt (a := 146) (show kd 146 = (12, 0, 0) from rfl) (by decide)) (sh_12 rfl _ _) rfl (t_isWord hT (x := (rdC T tn 15 16 4 (rdC T tn 11 14 2 (rdV T tn b)))) Yq197 (lo := 20) (by decide)) rgv_X12_224 rhv_X12_isWord ⟨(Nat.le_of_ble_eq_true rfl), (Nat.le_of_ble_eq_true rfl)⟩ hl.1 rfl (Nat.le_of_ble_eq_true rfl) ⟨Nat.zero_le _, Nat.zero_le _⟩ rdX12_readsRule_226 (fun r Ma204 H locs hp w => ?_)
              rcases hp with ⟨⟨hb203, rfl⟩ | ⟨hb203, rfl⟩, hMe⟩
              · rw [hMe] at w
                refine z_if_eq (tgt := 236) hx hb (by omega) rdX12_readsRule_229 (by decide) (fun c205 => False.elim (by omega)) (fun c205 => ?_)
                refine lv_aload_n hx hb rdX12_readsRule_232 rfl (lv_at hl 1 rfl) ?_
                refine k_Vv F w (As := []) (rest := []) (a := 146) (kd_lt (a := 146) (show kd 146 = (12, 0, 0) from rfl) (by decide)) (sh_12 rfl _ _) rfl (t_readsTest hT (x := (rdC T tn 15 16 4 (rdC T tn 11 14 2 (rdV T tn b)))) Yq197 (by omega) (Or.inl (tk_w0 (T := T) (N := tn) Yq197.2.2.2.1.1 hb203))) rgv_X12_233 rhv_X12_readsTest ⟨(Nat.le_of_ble_eq_true rfl), (Nat.le_of_ble_eq_true rfl)⟩ hl.1 rfl (Nat.le_of_ble_eq_true rfl) ⟨Nat.zero_le _, Nat.zero_le _⟩ rdX12_readsRule_233 (fun Ma207 H locs hp w => ?_)
                rcases hp with ⟨hYn206, hFn206⟩
                have hFn206 : FrY Ma207 M := FrY.tr Fq197 hFn206
                have hGi := hYn206.1.1
                refine lv_aload_n hx hb rdX12_readsRule_236 rfl (lv_at hl 1 rfl) ?_
                refine f_12_16 F w (a := 146) rfl rtb_139 rdX12_readsRule_237 ?_
                refine r_val (v := (zI (1 - ((Prod.fst (rdT T tn (1, en T tn (Prod.fst (Prod.snd (rdC T tn 15 16 4 (rdC T tn 11 14 2 (rdV T tn b))))), Prod.snd (Prod.snd (rdC T tn 15 16 4 (rdC T tn 11 14 2 (rdV T tn b)))))) : Nat) : Int)))) (hYn206.2.2.2.2.1) ?_
                refine z_if_eq (tgt := 244) hx hb (by omega) rdX12_readsRule_240 (by decide) (fun c208 => ?_) (fun c208 => ?_)
                · refine lv_aload_n hx hb rdX12_readsRule_244 rfl (lv_at hl 1 rfl) ?_
                  refine f_12_13 F w (a := 146) rfl rtb_127 rdX12_readsRule_245 ?_
                  have htl208 := tok_le T tn (Prod.fst (Prod.snd (rdT T tn (1, en T tn (Prod.fst (Prod.snd (rdC T tn 15 16 4 (rdC T tn 11 14 2 (rdV T tn b))))), Prod.snd (Prod.snd (rdC T tn 15 16 4 (rdC T tn 11 14 2 (rdV T tn b))))))))
                  refine r_val (v := (zI (((tok T tn (Prod.fst (Prod.snd (rdT T tn (1, en T tn (Prod.fst (Prod.snd (rdC T tn 15 16 4 (rdC T tn 11 14 2 (rdV T tn b))))), Prod.snd (Prod.snd (rdC T tn 15 16 4 (rdC T tn 11 14 2 (rdV T tn b))))))))) : Nat) : Int))) (hYn206.2.2.2.1.2.2.2.1) ?_
                  refine lv_iconst (v := zI 3) hx hb rdX12_readsRule_248 rfl ?_
                  refine z_icmp_ne (tgt := 259) hx hb (by omega) (by omega) rdX12_readsRule_249 (by decide) (fun c209 => ?_) (fun c209 => ?_)
                  · refine lv_aload_n hx hb rdX12_readsRule_259 rfl (lv_at hl 1 rfl) ?_
                    refine lv_iconst (v := zI 1) hx hb rdX12_readsRule_260 rfl ?_
                    refine u_12_16 F w (a := 146) rfl (by decide) (by decide) rtb_139 rdX12_readsRule_261 (fun H locs w => ?_)
                    exact e_v F w hr hlocks ⟨YS.e (YS.bad hYn206) (rdR_I gV (by rw [eP]; exact rdI_y (by omega) (by omega) hb203) (rdS_n (by omega) (fun q9 => absurd (tok_3.mpr q9) (by omega)))), FrY.t hFn206⟩ rdX12_readsRule_264
                  · refine lv_aload_n hx hb rdX12_readsRule_252 rfl (lv_at hl 1 rfl) ?_
                    refine k_Vv F w (As := []) (rest := []) (a := 146) (kd_lt (a := 146) (show kd 146 = (12, 0, 0) from rfl) (by decide)) (sh_12 rfl _ _) rfl (t_goesOn hT hYn206.2.1 hYn206.2.2.1 (E := en T tn (Prod.fst (Prod.snd (rdT T tn (1, en T tn (Prod.fst (Prod.snd (rdC T tn 15 16 4 (rdC T tn 11 14 2 (rdV T tn b))))), Prod.snd (Prod.snd (rdC T tn 15 16 4 (rdC T tn 11 14 2 (rdV T tn b))))))))) (wa := tok T tn (Prod.fst (Prod.snd (rdT T tn (1, en T tn (Prod.fst (Prod.snd (rdC T tn 15 16 4 (rdC T tn 11 14 2 (rdV T tn b))))), Prod.snd (Prod.snd (rdC T tn 15 16 4 (rdC T tn 11 14 2 (rdV T tn b))))))))) (en_le hYn206.2.2.2.1.1).2.1 hYn206.2.2.2.1.2.2.1 hYn206.2.2.2.1.2.2.2.1 (tok_le T tn _) (tok_w hYn206.2.2.2.1.1 (Or.inr (Or.inr (by omega))))) rgv_X12_221 rhv_X12_goesOn ⟨(Nat.le_of_ble_eq_true rfl), (Nat.le_of_ble_eq_true rfl)⟩ hl.1 rfl (Nat.le_of_ble_eq_true rfl) ⟨Nat.zero_le _, Nat.zero_le _⟩ rdX12_readsRule_253 (fun Ma211 H locs hp w => ?_)
                    rcases hp with ⟨hRn210, hGn210⟩
                    have hYn210 := YS.go hYn206 (by omega) hRn210 hGn210
                    have hFn210 : FrY Ma211 M := FrY.tr hFn206 (FrY.w (FrW.g hGn210))
                    refine lv_goto (tgt := 264) hx hb rdX12_readsRule_256 (by decide) ?_
                    exact e_v F w hr hlocks ⟨YS.e hYn210 (rdR_I gV (by rw [eP]; exact rdI_y (by omega) (by omega) hb203) (rdS_y (by omega) (tok_3.mp (by omega)).1 (tok_3.mp (by omega)).2)), hFn210⟩ rdX12_readsRule_264
                · exact e_v F w hr hlocks ⟨YS.e hYn206 (rdR_2 gV (by rw [eP]; exact rdI_y (by omega) (by omega) hb203) (by omega)), hFn206⟩ rdX12_readsRule_243
              · rw [hMe] at w
                refine z_if_eq (tgt := 236) hx hb (by omega) rdX12_readsRule_229 (by decide) (fun c212 => ?_) (fun c212 => False.elim (by omega))
                have hGi := Yq197.1.1
                refine lv_aload_n hx hb rdX12_readsRule_236 rfl (lv_at hl 1 rfl) ?_
                refine f_12_16 F w (a := 146) rfl rtb_139 rdX12_readsRule_237 ?_
                refine r_val (v := (zI (1 - ((Prod.fst (rdC T tn 15 16 4 (rdC T tn 11 14 2 (rdV T tn b))) : Nat) : Int)))) (Yq197.2.2.2.2.1) ?_
                refine z_if_eq (tgt := 244) hx hb (by omega) rdX12_readsRule_240 (by decide) (fun c213 => ?_) (fun c213 => False.elim (by omega))
                refine lv_aload_n hx hb rdX12_readsRule_244 rfl (lv_at hl 1 rfl) ?_
                refine f_12_13 F w (a := 146) rfl rtb_127 rdX12_readsRule_245 ?_
                have htl213 := tok_le T tn (Prod.fst (Prod.snd (rdC T tn 15 16 4 (rdC T tn 11 14 2 (rdV T tn b)))))
                refine r_val (v := (zI (((tok T tn (Prod.fst (Prod.snd (rdC T tn 15 16 4 (rdC T tn 11 14 2 (rdV T tn b)))))) : Nat) : Int))) (Yq197.2.2.2.1.2.2.2.1) ?_
                refine lv_iconst (v := zI 3) hx hb rdX12_readsRule_248 rfl ?_
                refine z_icmp_ne (tgt := 259) hx hb (by omega) (by omega) rdX12_readsRule_249 (by decide) (fun c214 => ?_) (fun c214 => ?_)
                · refine lv_aload_n hx hb rdX12_readsRule_259 rfl (lv_at hl 1 rfl) ?_
                  refine lv_iconst (v := zI 1) hx hb rdX12_readsRule_260 rfl ?_
                  refine u_12_16 F w (a := 146) rfl (by decide) (by decide) rtb_139 rdX12_readsRule_261 (fun H locs w => ?_)
                  exact e_v F w hr hlocks ⟨YS.e (YS.bad Yq197) (rdR_I gV (by rw [eP]; exact rdI_n (Or.inr (Or.inr hb203))) (rdS_n (by omega) (fun q9 => absurd (tok_3.mpr q9) (by omega)))), FrY.t Fq197⟩ rdX12_readsRule_264
                · refine lv_aload_n hx hb rdX12_readsRule_252 rfl (lv_at hl 1 rfl) ?_
                  refine k_Vv F w (As := []) (rest := []) (a := 146) (kd_lt (a := 146) (show kd 146 = (12, 0, 0) from rfl) (by decide)) (sh_12 rfl _ _) rfl (t_goesOn hT Yq197.2.1 Yq197.2.2.1 (E := en T tn (Prod.fst (Prod.snd (rdC T tn 15 16 4 (rdC T tn 11 14 2 (rdV T tn b)))))) (wa := tok T tn (Prod.fst (Prod.snd (rdC T tn 15 16 4 (rdC T tn 11 14 2 (rdV T tn b)))))) (en_le Yq197.2.2.2.1.1).2.1 Yq197.2.2.2.1.2.2.1 Yq197.2.2.2.1.2.2.2.1 (tok_le T tn _) (tok_w Yq197.2.2.2.1.1 (Or.inr (Or.inr (by omega))))) rgv_X12_221 rhv_X12_goesOn ⟨(Nat.le_of_ble_eq_true rfl), (Nat.le_of_ble_eq_true rfl)⟩ hl.1 rfl (Nat.le_of_ble_eq_true rfl) ⟨Nat.zero_le _, Nat.zero_le _⟩ rdX12_readsRule_253 (fun Ma216 H locs hp w => ?_)
                  rcases hp with ⟨hRn215, hGn215⟩
                  have hYn215 := YS.go Yq197 (by omega) hRn215 hGn215
                  have hFn215 : FrY Ma216 M := FrY.tr Fq197 (FrY.w (FrW.g hGn215))
                  refine lv_goto (tgt := 264) hx hb rdX12_readsRule_256 (by decide) ?_
                  exact e_v F w hr hlocks ⟨YS.e hYn215 (rdR_I gV (by rw [eP]; exact rdI_n (Or.inr (Or.inr hb203))) (rdS_y (by omega) (tok_3.mp (by omega)).1 (tok_3.mp (by omega)).2)), hFn215⟩ rdX12_readsRule_264
        · exact absurd hb188 (by omega)
      · subst c9
        refine lv_istore_n (lv' := [(1, .int (zI 5)), (0, .ref (B + 146))]) hx hb rdX12_readsRule_63 rfl hl (by decide) rfl (fun ls hl => ?_)
        refine lv_aload_n hx hb rdX12_readsRule_64 rfl (lv_at hl 1 rfl) ?_
        refine f_12_17 F w (a := 146) rfl rtb_146 rdX12_readsRule_65 ?_
        refine lv_iconst (v := zI 0) hx hb rdX12_readsRule_68 rfl ?_
        refine lv_iload_n hx hb rdX12_readsRule_69 rfl (lv_at hl 0 rfl) ?_
        refine g_iast F w (a := 153) rfl (j := 0) ⟨by decide, by decide⟩ (by omega) rdX12_readsRule_70 (fun H locs w => ?_)
        refine lv_iload_n hx hb rdX12_readsRule_71 rfl (lv_at hl 0 rfl) ?_
        refine lv_bipush (v := zI 8) hx hb rdX12_readsRule_72 (by decide) ?_
        refine z_icmp_ne (tgt := 90) hx hb (by omega) (by omega) rdX12_readsRule_74 (by decide) (fun c217 => ?_) (fun c217 => False.elim (by omega))
        refine lv_iload_n hx hb rdX12_readsRule_90 rfl (lv_at hl 0 rfl) ?_
        refine z_if_eq (tgt := 119) hx hb (by omega) rdX12_readsRule_91 (by decide) (fun c218 => False.elim (by omega)) (fun c218 => ?_)
        refine lv_aload_n hx hb rdX12_readsRule_94 rfl (lv_at hl 1 rfl) ?_
        refine f_12_17 F w (a := 146) rfl rtb_146 rdX12_readsRule_95 ?_
        refine lv_iconst (v := zI 2) hx hb rdX12_readsRule_98 rfl ?_
        refine lv_aload_n hx hb rdX12_readsRule_99 rfl (lv_at hl 1 rfl) ?_
        refine lv_bipush (v := zI 11) hx hb rdX12_readsRule_100 (by decide) ?_
        refine lv_iload_n hx hb rdX12_readsRule_102 rfl (lv_at hl 0 rfl) ?_
        refine lv_bipush (v := zI 9) hx hb rdX12_readsRule_103 (by decide) ?_
        refine z_icmp_ne (tgt := 113) hx hb (by omega) (by omega) rdX12_readsRule_105 (by decide) (fun c219 => ?_) (fun c219 => False.elim (by omega))
        refine lv_bipush (v := zI 14) hx hb rdX12_readsRule_113 (by decide) ?_
        have Yq220 : YS (st Ma33 153 0 (zI 5)) T tn (rdV T tn b) := hV
        have Fq220 : FrY (st Ma33 153 0 (zI 5)) M := FrY.o hFn32
        generalize (st Ma33 153 0 (zI 5)) = Mzq220 at w Yq220 Fq220
        refine k_Vi F w (As := [.int (zI 11), .int (zI 14)]) (rest := [.int (zI 2), .ref (B + 153)]) (a := 146) (kd_lt (a := 146) (show kd 146 = (12, 0, 0) from rfl) (by decide)) (sh_12 rfl _ _) rfl (t_needs hT (x := (rdV T tn b)) Yq220 (lo := 11) (hi := 14) (by decide) (by decide)) rgv_X12_227 rhv_X12_needs ⟨(Nat.le_of_ble_eq_true rfl), (Nat.le_of_ble_eq_true rfl)⟩ hl.1 rfl (Nat.le_of_ble_eq_true rfl) ⟨Nat.zero_le _, Nat.zero_le _⟩ rdX12_readsRule_115 (fun r Ma222 H locs hp w => ?_)
        rcases hp with ⟨vn221, rfl, hFn221, -, -, -, hSn221, hWn221⟩
        have hFn221 : FrY Ma222 M := FrY.tr Fq220 (FrY.w hFn221)
        refine g_iast F w (a := 153) rfl (j := 2) ⟨by decide, by decide⟩ (by omega) rdX12_readsRule_118 (fun H locs w => ?_)
        refine lv_iload_n hx hb rdX12_readsRule_119 rfl (lv_at hl 0 rfl) ?_
        refine lv_bipush (v := zI 7) hx hb rdX12_readsRule_120 (by decide) ?_
        refine z_icmp_ne (tgt := 148) hx hb (by omega) (by omega) rdX12_readsRule_122 (by decide) (fun c223 => ?_) (fun c223 => False.elim (by omega))
        refine lv_iload_n hx hb rdX12_readsRule_148 rfl (lv_at hl 0 rfl) ?_
        refine k_Si F w (As := [.int (zI 5)]) (rest := []) (t_hasSide (z := 5) (by omega)) rgs_X12_137 rhs_X12_hasSide ⟨(Nat.le_of_ble_eq_true rfl), (Nat.le_of_ble_eq_true rfl)⟩ hl.1 rfl (Nat.le_of_ble_eq_true rfl) ⟨Nat.zero_le _, Nat.zero_le _⟩ rdX12_readsRule_149 (fun r Ma225 H locs hp w => ?_)
        rcases hp with ⟨⟨hb224, rfl⟩ | ⟨hb224, rfl⟩, hMe⟩
        · exact absurd hb224 (by omega)
        · rw [hMe] at w
          refine z_if_eq (tgt := 169) hx hb (by omega) rdX12_readsRule_152 (by decide) (fun c226 => ?_) (fun c226 => False.elim (by omega))
          refine lv_iload_n hx hb rdX12_readsRule_169 rfl (lv_at hl 0 rfl) ?_
          refine lv_iconst (v := zI 3) hx hb rdX12_readsRule_170 rfl ?_
          refine z_icmp_eq (tgt := 180) hx hb (by omega) (by omega) rdX12_readsRule_171 (by decide) (fun c227 => False.elim (by omega)) (fun c227 => ?_)
          refine lv_iload_n hx hb rdX12_readsRule_174 rfl (lv_at hl 0 rfl) ?_
          refine lv_bipush (v := zI 8) hx hb rdX12_readsRule_175 (by decide) ?_
          refine z_icmp_ne (tgt := 194) hx hb (by omega) (by omega) rdX12_readsRule_177 (by decide) (fun c228 => ?_) (fun c228 => False.elim (by omega))
          refine lv_iload_n hx hb rdX12_readsRule_194 rfl (lv_at hl 0 rfl) ?_
          refine lv_iconst (v := zI 1) hx hb rdX12_readsRule_195 rfl ?_
          refine z_icmp_ne (tgt := 209) hx hb (by omega) (by omega) rdX12_readsRule_196 (by decide) (fun c229 => ?_) (fun c229 => False.elim (by omega))
          have Yq230 : YS (st Ma222 153 2 (zI vn221)) T tn (rdC T tn 11 14 2 (rdV T tn b)) := hSn221 2
          have Fq230 : FrY (st Ma222 153 2 (zI vn221)) M := FrY.o hFn221
          generalize (st Ma222 153 2 (zI vn221)) = Mzq230 at w Yq230 Fq230
          have hGf := Yq230.1.1
          have eP : rdP T tn ((rdV T tn b).2.2 0) (rdV T tn b) = (rdC T tn 11 14 2 (rdV T tn b)) := ((rdP_o (by omega)).trans (rdK_o (by omega) (by omega)))
          refine lv_aload_n hx hb rdX12_readsRule_209 rfl (lv_at hl 1 rfl) ?_
          refine f_12_16 F w (a := 146) rfl rtb_139 rdX12_readsRule_210 ?_
          refine r_val (v := (zI (1 - ((Prod.fst (rdC T tn 11 14 2 (rdV T tn b)) : Nat) : Int)))) (Yq230.2.2.2.2.1) ?_
          refine z_if_ne (tgt := 236) hx hb (by omega) rdX12_readsRule_213 (by decide) (fun c231 => ?_) (fun c231 => ?_)
          · have hGi := Yq230.1.1
            refine lv_aload_n hx hb rdX12_readsRule_236 rfl (lv_at hl 1 rfl) ?_
            refine f_12_16 F w (a := 146) rfl rtb_139 rdX12_readsRule_237 ?_
            refine r_val (v := (zI (1 - ((Prod.fst (rdC T tn 11 14 2 (rdV T tn b)) : Nat) : Int)))) (Yq230.2.2.2.2.1) ?_
            refine z_if_eq (tgt := 244) hx hb (by omega) rdX12_readsRule_240 (by decide) (fun c232 => False.elim (by omega)) (fun c232 => ?_)
            exact e_v F w hr hlocks ⟨YS.e Yq230 ((rdR_1 gV (by rw [eP]; omega)).trans eP), Fq230⟩ rdX12_readsRule_243
          · refine lv_iload_n hx hb rdX12_readsRule_216 rfl (lv_at hl 0 rfl) ?_
            refine k_Si F w (As := [.int (zI 5)]) (rest := []) (t_isBySyllables (z := 5) (by omega)) rgs_X12_140 rhs_X12_isBySyllables ⟨(Nat.le_of_ble_eq_true rfl), (Nat.le_of_ble_eq_true rfl)⟩ hl.1 rfl (Nat.le_of_ble_eq_true rfl) ⟨Nat.zero_le _, Nat.zero_le _⟩ rdX12_readsRule_217 (fun r Ma234 H locs hp w => ?_)
            rcases hp with ⟨⟨hb233, rfl⟩ | ⟨hb233, rfl⟩, hMe⟩
            · exact absurd hb233 (by omega)
            · rw [hMe] at w
              refine z_if_ne (tgt := 236) hx hb (by omega) rdX12_readsRule_220 (by decide) (fun c235 => False.elim (by omega)) (fun c235 => ?_)
              refine lv_aload_n hx hb rdX12_readsRule_223 rfl (lv_at hl 1 rfl) ?_
              refine lv_bipush (v := zI 20) hx hb rdX12_readsRule_224 (by decide) ?_
              refine k_Vi F w (As := [.int (zI 20)]) (rest := []) (a := 146) (kd_lt (a := 146) (show kd 146 = (12, 0, 0) from rfl) (by decide)) (sh_12 rfl _ _) rfl (t_isWord hT (x := (rdC T tn 11 14 2 (rdV T tn b))) Yq230 (lo := 20) (by decide)) rgv_X12_224 rhv_X12_isWord ⟨(Nat.le_of_ble_eq_true rfl), (Nat.le_of_ble_eq_true rfl)⟩ hl.1 rfl (Nat.le_of_ble_eq_true rfl) ⟨Nat.zero_le _, Nat.zero_le _⟩ rdX12_readsRule_226 (fun r Ma237 H locs hp w => ?_)
              rcases hp with ⟨⟨hb236, rfl⟩ | ⟨hb236, rfl⟩, hMe⟩
              · rw [hMe] at w
                refine z_if_eq (tgt := 236) hx hb (by omega) rdX12_readsRule_229 (by decide) (fun c238 => False.elim (by omega)) (fun c238 => ?_)
                refine lv_aload_n hx hb rdX12_readsRule_232 rfl (lv_at hl 1 rfl) ?_
                refine k_Vv F w (As := []) (rest := []) (a := 146) (kd_lt (a := 146) (show kd 146 = (12, 0, 0) from rfl) (by decide)) (sh_12 rfl _ _) rfl (t_readsTest hT (x := (rdC T tn 11 14 2 (rdV T tn b))) Yq230 (by omega) (Or.inl (tk_w0 (T := T) (N := tn) Yq230.2.2.2.1.1 hb236))) rgv_X12_233 rhv_X12_readsTest ⟨(Nat.le_of_ble_eq_true rfl), (Nat.le_of_ble_eq_true rfl)⟩ hl.1 rfl (Nat.le_of_ble_eq_true rfl) ⟨Nat.zero_le _, Nat.zero_le _⟩ rdX12_readsRule_233 (fun Ma240 H locs hp w => ?_)
                rcases hp with ⟨hYn239, hFn239⟩
                have hFn239 : FrY Ma240 M := FrY.tr Fq230 hFn239
                have hGi := hYn239.1.1
                refine lv_aload_n hx hb rdX12_readsRule_236 rfl (lv_at hl 1 rfl) ?_
                refine f_12_16 F w (a := 146) rfl rtb_139 rdX12_readsRule_237 ?_
                refine r_val (v := (zI (1 - ((Prod.fst (rdT T tn (1, en T tn (Prod.fst (Prod.snd (rdC T tn 11 14 2 (rdV T tn b)))), Prod.snd (Prod.snd (rdC T tn 11 14 2 (rdV T tn b))))) : Nat) : Int)))) (hYn239.2.2.2.2.1) ?_
                refine z_if_eq (tgt := 244) hx hb (by omega) rdX12_readsRule_240 (by decide) (fun c241 => ?_) (fun c241 => ?_)
                · refine lv_aload_n hx hb rdX12_readsRule_244 rfl (lv_at hl 1 rfl) ?_
                  refine f_12_13 F w (a := 146) rfl rtb_127 rdX12_readsRule_245 ?_
                  have htl241 := tok_le T tn (Prod.fst (Prod.snd (rdT T tn (1, en T tn (Prod.fst (Prod.snd (rdC T tn 11 14 2 (rdV T tn b)))), Prod.snd (Prod.snd (rdC T tn 11 14 2 (rdV T tn b)))))))
                  refine r_val (v := (zI (((tok T tn (Prod.fst (Prod.snd (rdT T tn (1, en T tn (Prod.fst (Prod.snd (rdC T tn 11 14 2 (rdV T tn b)))), Prod.snd (Prod.snd (rdC T tn 11 14 2 (rdV T tn b)))))))) : Nat) : Int))) (hYn239.2.2.2.1.2.2.2.1) ?_
                  refine lv_iconst (v := zI 3) hx hb rdX12_readsRule_248 rfl ?_
                  refine z_icmp_ne (tgt := 259) hx hb (by omega) (by omega) rdX12_readsRule_249 (by decide) (fun c242 => ?_) (fun c242 => ?_)
                  · refine lv_aload_n hx hb rdX12_readsRule_259 rfl (lv_at hl 1 rfl) ?_
                    refine lv_iconst (v := zI 1) hx hb rdX12_readsRule_260 rfl ?_
                    refine u_12_16 F w (a := 146) rfl (by decide) (by decide) rtb_139 rdX12_readsRule_261 (fun H locs w => ?_)
                    exact e_v F w hr hlocks ⟨YS.e (YS.bad hYn239) (rdR_I gV (by rw [eP]; exact rdI_y (by omega) (by omega) hb236) (rdS_n (by omega) (fun q9 => absurd (tok_3.mpr q9) (by omega)))), FrY.t hFn239⟩ rdX12_readsRule_264
                  · refine lv_aload_n hx hb rdX12_readsRule_252 rfl (lv_at hl 1 rfl) ?_
                    refine k_Vv F w (As := []) (rest := []) (a := 146) (kd_lt (a := 146) (show kd 146 = (12, 0, 0) from rfl) (by decide)) (sh_12 rfl _ _) rfl (t_goesOn hT hYn239.2.1 hYn239.2.2.1 (E := en T tn (Prod.fst (Prod.snd (rdT T tn (1, en T tn (Prod.fst (Prod.snd (rdC T tn 11 14 2 (rdV T tn b)))), Prod.snd (Prod.snd (rdC T tn 11 14 2 (rdV T tn b)))))))) (wa := tok T tn (Prod.fst (Prod.snd (rdT T tn (1, en T tn (Prod.fst (Prod.snd (rdC T tn 11 14 2 (rdV T tn b)))), Prod.snd (Prod.snd (rdC T tn 11 14 2 (rdV T tn b)))))))) (en_le hYn239.2.2.2.1.1).2.1 hYn239.2.2.2.1.2.2.1 hYn239.2.2.2.1.2.2.2.1 (tok_le T tn _) (tok_w hYn239.2.2.2.1.1 (Or.inr (Or.inr (by omega))))) rgv_X12_221 rhv_X12_goesOn ⟨(Nat.le_of_ble_eq_true rfl), (Nat.le_of_ble_eq_true rfl)⟩ hl.1 rfl (Nat.le_of_ble_eq_true rfl) ⟨Nat.zero_le _, Nat.zero_le _⟩ rdX12_readsRule_253 (fun Ma244 H locs hp w => ?_)
                    rcases hp with ⟨hRn243, hGn243⟩
                    have hYn243 := YS.go hYn239 (by omega) hRn243 hGn243
                    have hFn243 : FrY Ma244 M := FrY.tr hFn239 (FrY.w (FrW.g hGn243))
                    refine lv_goto (tgt := 264) hx hb rdX12_readsRule_256 (by decide) ?_
                    exact e_v F w hr hlocks ⟨YS.e hYn243 (rdR_I gV (by rw [eP]; exact rdI_y (by omega) (by omega) hb236) (rdS_y (by omega) (tok_3.mp (by omega)).1 (tok_3.mp (by omega)).2)), hFn243⟩ rdX12_readsRule_264
                · exact e_v F w hr hlocks ⟨YS.e hYn239 (rdR_2 gV (by rw [eP]; exact rdI_y (by omega) (by omega) hb236) (by omega)), hFn239⟩ rdX12_readsRule_243
              · rw [hMe] at w
                refine z_if_eq (tgt := 236) hx hb (by omega) rdX12_readsRule_229 (by decide) (fun c245 => ?_) (fun c245 => False.elim (by omega))
                have hGi := Yq230.1.1
                refine lv_aload_n hx hb rdX12_readsRule_236 rfl (lv_at hl 1 rfl) ?_
                refine f_12_16 F w (a := 146) rfl rtb_139 rdX12_readsRule_237 ?_
                refine r_val (v := (zI (1 - ((Prod.fst (rdC T tn 11 14 2 (rdV T tn b)) : Nat) : Int)))) (Yq230.2.2.2.2.1) ?_
                refine z_if_eq (tgt := 244) hx hb (by omega) rdX12_readsRule_240 (by decide) (fun c246 => ?_) (fun c246 => False.elim (by omega))
                refine lv_aload_n hx hb rdX12_readsRule_244 rfl (lv_at hl 1 rfl) ?_
                refine f_12_13 F w (a := 146) rfl rtb_127 rdX12_readsRule_245 ?_
                have htl246 := tok_le T tn (Prod.fst (Prod.snd (rdC T tn 11 14 2 (rdV T tn b))))
                refine r_val (v := (zI (((tok T tn (Prod.fst (Prod.snd (rdC T tn 11 14 2 (rdV T tn b))))) : Nat) : Int))) (Yq230.2.2.2.1.2.2.2.1) ?_
                refine lv_iconst (v := zI 3) hx hb rdX12_readsRule_248 rfl ?_
                refine z_icmp_ne (tgt := 259) hx hb (by omega) (by omega) rdX12_readsRule_249 (by decide) (fun c247 => ?_) (fun c247 => ?_)
                · refine lv_aload_n hx hb rdX12_readsRule_259 rfl (lv_at hl 1 rfl) ?_
                  refine lv_iconst (v := zI 1) hx hb rdX12_readsRule_260 rfl ?_
                  refine u_12_16 F w (a := 146) rfl (by decide) (by decide) rtb_139 rdX12_readsRule_261 (fun H locs w => ?_)
                  exact e_v F w hr hlocks ⟨YS.e (YS.bad Yq230) (rdR_I gV (by rw [eP]; exact rdI_n (Or.inr (Or.inr hb236))) (rdS_n (by omega) (fun q9 => absurd (tok_3.mpr q9) (by omega)))), FrY.t Fq230⟩ rdX12_readsRule_264
                · refine lv_aload_n hx hb rdX12_readsRule_252 rfl (lv_at hl 1 rfl) ?_
                  refine k_Vv F w (As := []) (rest := []) (a := 146) (kd_lt (a := 146) (show kd 146 = (12, 0, 0) from rfl) (by decide)) (sh_12 rfl _ _) rfl (t_goesOn hT Yq230.2.1 Yq230.2.2.1 (E := en T tn (Prod.fst (Prod.snd (rdC T tn 11 14 2 (rdV T tn b))))) (wa := tok T tn (Prod.fst (Prod.snd (rdC T tn 11 14 2 (rdV T tn b))))) (en_le Yq230.2.2.2.1.1).2.1 Yq230.2.2.2.1.2.2.1 Yq230.2.2.2.1.2.2.2.1 (tok_le T tn _) (tok_w Yq230.2.2.2.1.1 (Or.inr (Or.inr (by omega))))) rgv_X12_221 rhv_X12_goesOn ⟨(Nat.le_of_ble_eq_true rfl), (Nat.le_of_ble_eq_true rfl)⟩ hl.1 rfl (Nat.le_of_ble_eq_true rfl) ⟨Nat.zero_le _, Nat.zero_le _⟩ rdX12_readsRule_253 (fun Ma249 H locs hp w => ?_)
                  rcases hp with ⟨hRn248, hGn248⟩
                  have hYn248 := YS.go Yq230 (by omega) hRn248 hGn248
                  have hFn248 : FrY Ma249 M := FrY.tr Fq230 (FrY.w (FrW.g hGn248))
                  refine lv_goto (tgt := 264) hx hb rdX12_readsRule_256 (by decide) ?_
                  exact e_v F w hr hlocks ⟨YS.e hYn248 (rdR_I gV (by rw [eP]; exact rdI_n (Or.inr (Or.inr hb236))) (rdS_y (by omega) (tok_3.mp (by omega)).1 (tok_3.mp (by omega)).2)), hFn248⟩ rdX12_readsRule_264
      · subst c9
        refine lv_istore_n (lv' := [(1, .int (zI 6)), (0, .ref (B + 146))]) hx hb rdX12_readsRule_63 rfl hl (by decide) rfl (fun ls hl => ?_)
        refine lv_aload_n hx hb rdX12_readsRule_64 rfl (lv_at hl 1 rfl) ?_
        refine f_12_17 F w (a := 146) rfl rtb_146 rdX12_readsRule_65 ?_
        refine lv_iconst (v := zI 0) hx hb rdX12_readsRule_68 rfl ?_
        refine lv_iload_n hx hb rdX12_readsRule_69 rfl (lv_at hl 0 rfl) ?_
        refine g_iast F w (a := 153) rfl (j := 0) ⟨by decide, by decide⟩ (by omega) rdX12_readsRule_70 (fun H locs w => ?_)
        refine lv_iload_n hx hb rdX12_readsRule_71 rfl (lv_at hl 0 rfl) ?_
        refine lv_bipush (v := zI 8) hx hb rdX12_readsRule_72 (by decide) ?_
        refine z_icmp_ne (tgt := 90) hx hb (by omega) (by omega) rdX12_readsRule_74 (by decide) (fun c250 => ?_) (fun c250 => False.elim (by omega))
        refine lv_iload_n hx hb rdX12_readsRule_90 rfl (lv_at hl 0 rfl) ?_
        refine z_if_eq (tgt := 119) hx hb (by omega) rdX12_readsRule_91 (by decide) (fun c251 => False.elim (by omega)) (fun c251 => ?_)
        refine lv_aload_n hx hb rdX12_readsRule_94 rfl (lv_at hl 1 rfl) ?_
        refine f_12_17 F w (a := 146) rfl rtb_146 rdX12_readsRule_95 ?_
        refine lv_iconst (v := zI 2) hx hb rdX12_readsRule_98 rfl ?_
        refine lv_aload_n hx hb rdX12_readsRule_99 rfl (lv_at hl 1 rfl) ?_
        refine lv_bipush (v := zI 11) hx hb rdX12_readsRule_100 (by decide) ?_
        refine lv_iload_n hx hb rdX12_readsRule_102 rfl (lv_at hl 0 rfl) ?_
        refine lv_bipush (v := zI 9) hx hb rdX12_readsRule_103 (by decide) ?_
        refine z_icmp_ne (tgt := 113) hx hb (by omega) (by omega) rdX12_readsRule_105 (by decide) (fun c252 => ?_) (fun c252 => False.elim (by omega))
        refine lv_bipush (v := zI 14) hx hb rdX12_readsRule_113 (by decide) ?_
        have Yq253 : YS (st Ma33 153 0 (zI 6)) T tn (rdV T tn b) := hV
        have Fq253 : FrY (st Ma33 153 0 (zI 6)) M := FrY.o hFn32
        generalize (st Ma33 153 0 (zI 6)) = Mzq253 at w Yq253 Fq253
        refine k_Vi F w (As := [.int (zI 11), .int (zI 14)]) (rest := [.int (zI 2), .ref (B + 153)]) (a := 146) (kd_lt (a := 146) (show kd 146 = (12, 0, 0) from rfl) (by decide)) (sh_12 rfl _ _) rfl (t_needs hT (x := (rdV T tn b)) Yq253 (lo := 11) (hi := 14) (by decide) (by decide)) rgv_X12_227 rhv_X12_needs ⟨(Nat.le_of_ble_eq_true rfl), (Nat.le_of_ble_eq_true rfl)⟩ hl.1 rfl (Nat.le_of_ble_eq_true rfl) ⟨Nat.zero_le _, Nat.zero_le _⟩ rdX12_readsRule_115 (fun r Ma255 H locs hp w => ?_)
        rcases hp with ⟨vn254, rfl, hFn254, -, -, -, hSn254, hWn254⟩
        have hFn254 : FrY Ma255 M := FrY.tr Fq253 (FrY.w hFn254)
        refine g_iast F w (a := 153) rfl (j := 2) ⟨by decide, by decide⟩ (by omega) rdX12_readsRule_118 (fun H locs w => ?_)
        refine lv_iload_n hx hb rdX12_readsRule_119 rfl (lv_at hl 0 rfl) ?_
        refine lv_bipush (v := zI 7) hx hb rdX12_readsRule_120 (by decide) ?_
        refine z_icmp_ne (tgt := 148) hx hb (by omega) (by omega) rdX12_readsRule_122 (by decide) (fun c256 => ?_) (fun c256 => False.elim (by omega))
        refine lv_iload_n hx hb rdX12_readsRule_148 rfl (lv_at hl 0 rfl) ?_
        refine k_Si F w (As := [.int (zI 6)]) (rest := []) (t_hasSide (z := 6) (by omega)) rgs_X12_137 rhs_X12_hasSide ⟨(Nat.le_of_ble_eq_true rfl), (Nat.le_of_ble_eq_true rfl)⟩ hl.1 rfl (Nat.le_of_ble_eq_true rfl) ⟨Nat.zero_le _, Nat.zero_le _⟩ rdX12_readsRule_149 (fun r Ma258 H locs hp w => ?_)
        rcases hp with ⟨⟨hb257, rfl⟩ | ⟨hb257, rfl⟩, hMe⟩
        · exact absurd hb257 (by omega)
        · rw [hMe] at w
          refine z_if_eq (tgt := 169) hx hb (by omega) rdX12_readsRule_152 (by decide) (fun c259 => ?_) (fun c259 => False.elim (by omega))
          refine lv_iload_n hx hb rdX12_readsRule_169 rfl (lv_at hl 0 rfl) ?_
          refine lv_iconst (v := zI 3) hx hb rdX12_readsRule_170 rfl ?_
          refine z_icmp_eq (tgt := 180) hx hb (by omega) (by omega) rdX12_readsRule_171 (by decide) (fun c260 => False.elim (by omega)) (fun c260 => ?_)
          refine lv_iload_n hx hb rdX12_readsRule_174 rfl (lv_at hl 0 rfl) ?_
          refine lv_bipush (v := zI 8) hx hb rdX12_readsRule_175 (by decide) ?_
          refine z_icmp_ne (tgt := 194) hx hb (by omega) (by omega) rdX12_readsRule_177 (by decide) (fun c261 => ?_) (fun c261 => False.elim (by omega))
          refine lv_iload_n hx hb rdX12_readsRule_194 rfl (lv_at hl 0 rfl) ?_
          refine lv_iconst (v := zI 1) hx hb rdX12_readsRule_195 rfl ?_
          refine z_icmp_ne (tgt := 209) hx hb (by omega) (by omega) rdX12_readsRule_196 (by decide) (fun c262 => ?_) (fun c262 => False.elim (by omega))
          have Yq263 : YS (st Ma255 153 2 (zI vn254)) T tn (rdC T tn 11 14 2 (rdV T tn b)) := hSn254 2
          have Fq263 : FrY (st Ma255 153 2 (zI vn254)) M := FrY.o hFn254
          generalize (st Ma255 153 2 (zI vn254)) = Mzq263 at w Yq263 Fq263
          have hGf := Yq263.1.1
          have eP : rdP T tn ((rdV T tn b).2.2 0) (rdV T tn b) = (rdC T tn 11 14 2 (rdV T tn b)) := ((rdP_o (by omega)).trans (rdK_o (by omega) (by omega)))
          refine lv_aload_n hx hb rdX12_readsRule_209 rfl (lv_at hl 1 rfl) ?_
          refine f_12_16 F w (a := 146) rfl rtb_139 rdX12_readsRule_210 ?_
          refine r_val (v := (zI (1 - ((Prod.fst (rdC T tn 11 14 2 (rdV T tn b)) : Nat) : Int)))) (Yq263.2.2.2.2.1) ?_
          refine z_if_ne (tgt := 236) hx hb (by omega) rdX12_readsRule_213 (by decide) (fun c264 => ?_) (fun c264 => ?_)
          · have hGi := Yq263.1.1
            refine lv_aload_n hx hb rdX12_readsRule_236 rfl (lv_at hl 1 rfl) ?_
            refine f_12_16 F w (a := 146) rfl rtb_139 rdX12_readsRule_237 ?_
            refine r_val (v := (zI (1 - ((Prod.fst (rdC T tn 11 14 2 (rdV T tn b)) : Nat) : Int)))) (Yq263.2.2.2.2.1) ?_
            refine z_if_eq (tgt := 244) hx hb (by omega) rdX12_readsRule_240 (by decide) (fun c265 => False.elim (by omega)) (fun c265 => ?_)
            exact e_v F w hr hlocks ⟨YS.e Yq263 ((rdR_1 gV (by rw [eP]; omega)).trans eP), Fq263⟩ rdX12_readsRule_243
          · refine lv_iload_n hx hb rdX12_readsRule_216 rfl (lv_at hl 0 rfl) ?_
            refine k_Si F w (As := [.int (zI 6)]) (rest := []) (t_isBySyllables (z := 6) (by omega)) rgs_X12_140 rhs_X12_isBySyllables ⟨(Nat.le_of_ble_eq_true rfl), (Nat.le_of_ble_eq_true rfl)⟩ hl.1 rfl (Nat.le_of_ble_eq_true rfl) ⟨Nat.zero_le _, Nat.zero_le _⟩ rdX12_readsRule_217 (fun r Ma267 H locs hp w => ?_)
            rcases hp with ⟨⟨hb266, rfl⟩ | ⟨hb266, rfl⟩, hMe⟩
            · exact absurd hb266 (by omega)
            · rw [hMe] at w
              refine z_if_ne (tgt := 236) hx hb (by omega) rdX12_readsRule_220 (by decide) (fun c268 => False.elim (by omega)) (fun c268 => ?_)
              refine lv_aload_n hx hb rdX12_readsRule_223 rfl (lv_at hl 1 rfl) ?_
              refine lv_bipush (v := zI 20) hx hb rdX12_readsRule_224 (by decide) ?_
              refine k_Vi F w (As := [.int (zI 20)]) (rest := []) (a := 146) (kd_lt (a := 146) (show kd 146 = (12, 0, 0) from rfl) (by decide)) (sh_12 rfl _ _) rfl (t_isWord hT (x := (rdC T tn 11 14 2 (rdV T tn b))) Yq263 (lo := 20) (by decide)) rgv_X12_224 rhv_X12_isWord ⟨(Nat.le_of_ble_eq_true rfl), (Nat.le_of_ble_eq_true rfl)⟩ hl.1 rfl (Nat.le_of_ble_eq_true rfl) ⟨Nat.zero_le _, Nat.zero_le _⟩ rdX12_readsRule_226 (fun r Ma270 H locs hp w => ?_)
              rcases hp with ⟨⟨hb269, rfl⟩ | ⟨hb269, rfl⟩, hMe⟩
              · rw [hMe] at w
                refine z_if_eq (tgt := 236) hx hb (by omega) rdX12_readsRule_229 (by decide) (fun c271 => False.elim (by omega)) (fun c271 => ?_)
                refine lv_aload_n hx hb rdX12_readsRule_232 rfl (lv_at hl 1 rfl) ?_
                refine k_Vv F w (As := []) (rest := []) (a := 146) (kd_lt (a := 146) (show kd 146 = (12, 0, 0) from rfl) (by decide)) (sh_12 rfl _ _) rfl (t_readsTest hT (x := (rdC T tn 11 14 2 (rdV T tn b))) Yq263 (by omega) (Or.inl (tk_w0 (T := T) (N := tn) Yq263.2.2.2.1.1 hb269))) rgv_X12_233 rhv_X12_readsTest ⟨(Nat.le_of_ble_eq_true rfl), (Nat.le_of_ble_eq_true rfl)⟩ hl.1 rfl (Nat.le_of_ble_eq_true rfl) ⟨Nat.zero_le _, Nat.zero_le _⟩ rdX12_readsRule_233 (fun Ma273 H locs hp w => ?_)
                rcases hp with ⟨hYn272, hFn272⟩
                have hFn272 : FrY Ma273 M := FrY.tr Fq263 hFn272
                have hGi := hYn272.1.1
                refine lv_aload_n hx hb rdX12_readsRule_236 rfl (lv_at hl 1 rfl) ?_
                refine f_12_16 F w (a := 146) rfl rtb_139 rdX12_readsRule_237 ?_
                refine r_val (v := (zI (1 - ((Prod.fst (rdT T tn (1, en T tn (Prod.fst (Prod.snd (rdC T tn 11 14 2 (rdV T tn b)))), Prod.snd (Prod.snd (rdC T tn 11 14 2 (rdV T tn b))))) : Nat) : Int)))) (hYn272.2.2.2.2.1) ?_
                refine z_if_eq (tgt := 244) hx hb (by omega) rdX12_readsRule_240 (by decide) (fun c274 => ?_) (fun c274 => ?_)
                · refine lv_aload_n hx hb rdX12_readsRule_244 rfl (lv_at hl 1 rfl) ?_
                  refine f_12_13 F w (a := 146) rfl rtb_127 rdX12_readsRule_245 ?_
                  have htl274 := tok_le T tn (Prod.fst (Prod.snd (rdT T tn (1, en T tn (Prod.fst (Prod.snd (rdC T tn 11 14 2 (rdV T tn b)))), Prod.snd (Prod.snd (rdC T tn 11 14 2 (rdV T tn b)))))))
                  refine r_val (v := (zI (((tok T tn (Prod.fst (Prod.snd (rdT T tn (1, en T tn (Prod.fst (Prod.snd (rdC T tn 11 14 2 (rdV T tn b)))), Prod.snd (Prod.snd (rdC T tn 11 14 2 (rdV T tn b)))))))) : Nat) : Int))) (hYn272.2.2.2.1.2.2.2.1) ?_
                  refine lv_iconst (v := zI 3) hx hb rdX12_readsRule_248 rfl ?_
                  refine z_icmp_ne (tgt := 259) hx hb (by omega) (by omega) rdX12_readsRule_249 (by decide) (fun c275 => ?_) (fun c275 => ?_)
                  · refine lv_aload_n hx hb rdX12_readsRule_259 rfl (lv_at hl 1 rfl) ?_
                    refine lv_iconst (v := zI 1) hx hb rdX12_readsRule_260 rfl ?_
                    refine u_12_16 F w (a := 146) rfl (by decide) (by decide) rtb_139 rdX12_readsRule_261 (fun H locs w => ?_)
                    exact e_v F w hr hlocks ⟨YS.e (YS.bad hYn272) (rdR_I gV (by rw [eP]; exact rdI_y (by omega) (by omega) hb269) (rdS_n (by omega) (fun q9 => absurd (tok_3.mpr q9) (by omega)))), FrY.t hFn272⟩ rdX12_readsRule_264
                  · refine lv_aload_n hx hb rdX12_readsRule_252 rfl (lv_at hl 1 rfl) ?_
                    refine k_Vv F w (As := []) (rest := []) (a := 146) (kd_lt (a := 146) (show kd 146 = (12, 0, 0) from rfl) (by decide)) (sh_12 rfl _ _) rfl (t_goesOn hT hYn272.2.1 hYn272.2.2.1 (E := en T tn (Prod.fst (Prod.snd (rdT T tn (1, en T tn (Prod.fst (Prod.snd (rdC T tn 11 14 2 (rdV T tn b)))), Prod.snd (Prod.snd (rdC T tn 11 14 2 (rdV T tn b)))))))) (wa := tok T tn (Prod.fst (Prod.snd (rdT T tn (1, en T tn (Prod.fst (Prod.snd (rdC T tn 11 14 2 (rdV T tn b)))), Prod.snd (Prod.snd (rdC T tn 11 14 2 (rdV T tn b)))))))) (en_le hYn272.2.2.2.1.1).2.1 hYn272.2.2.2.1.2.2.1 hYn272.2.2.2.1.2.2.2.1 (tok_le T tn _) (tok_w hYn272.2.2.2.1.1 (Or.inr (Or.inr (by omega))))) rgv_X12_221 rhv_X12_goesOn ⟨(Nat.le_of_ble_eq_true rfl), (Nat.le_of_ble_eq_true rfl)⟩ hl.1 rfl (Nat.le_of_ble_eq_true rfl) ⟨Nat.zero_le _, Nat.zero_le _⟩ rdX12_readsRule_253 (fun Ma277 H locs hp w => ?_)
                    rcases hp with ⟨hRn276, hGn276⟩
                    have hYn276 := YS.go hYn272 (by omega) hRn276 hGn276
                    have hFn276 : FrY Ma277 M := FrY.tr hFn272 (FrY.w (FrW.g hGn276))
                    refine lv_goto (tgt := 264) hx hb rdX12_readsRule_256 (by decide) ?_
                    exact e_v F w hr hlocks ⟨YS.e hYn276 (rdR_I gV (by rw [eP]; exact rdI_y (by omega) (by omega) hb269) (rdS_y (by omega) (tok_3.mp (by omega)).1 (tok_3.mp (by omega)).2)), hFn276⟩ rdX12_readsRule_264
                · exact e_v F w hr hlocks ⟨YS.e hYn272 (rdR_2 gV (by rw [eP]; exact rdI_y (by omega) (by omega) hb269) (by omega)), hFn272⟩ rdX12_readsRule_243
              · rw [hMe] at w
                refine z_if_eq (tgt := 236) hx hb (by omega) rdX12_readsRule_229 (by decide) (fun c278 => ?_) (fun c278 => False.elim (by omega))
                have hGi := Yq263.1.1
                refine lv_aload_n hx hb rdX12_readsRule_236 rfl (lv_at hl 1 rfl) ?_
                refine f_12_16 F w (a := 146) rfl rtb_139 rdX12_readsRule_237 ?_
                refine r_val (v := (zI (1 - ((Prod.fst (rdC T tn 11 14 2 (rdV T tn b)) : Nat) : Int)))) (Yq263.2.2.2.2.1) ?_
                refine z_if_eq (tgt := 244) hx hb (by omega) rdX12_readsRule_240 (by decide) (fun c279 => ?_) (fun c279 => False.elim (by omega))
                refine lv_aload_n hx hb rdX12_readsRule_244 rfl (lv_at hl 1 rfl) ?_
                refine f_12_13 F w (a := 146) rfl rtb_127 rdX12_readsRule_245 ?_
                have htl279 := tok_le T tn (Prod.fst (Prod.snd (rdC T tn 11 14 2 (rdV T tn b))))
                refine r_val (v := (zI (((tok T tn (Prod.fst (Prod.snd (rdC T tn 11 14 2 (rdV T tn b))))) : Nat) : Int))) (Yq263.2.2.2.1.2.2.2.1) ?_
                refine lv_iconst (v := zI 3) hx hb rdX12_readsRule_248 rfl ?_
                refine z_icmp_ne (tgt := 259) hx hb (by omega) (by omega) rdX12_readsRule_249 (by decide) (fun c280 => ?_) (fun c280 => ?_)
                · refine lv_aload_n hx hb rdX12_readsRule_259 rfl (lv_at hl 1 rfl) ?_
                  refine lv_iconst (v := zI 1) hx hb rdX12_readsRule_260 rfl ?_
                  refine u_12_16 F w (a := 146) rfl (by decide) (by decide) rtb_139 rdX12_readsRule_261 (fun H locs w => ?_)
                  exact e_v F w hr hlocks ⟨YS.e (YS.bad Yq263) (rdR_I gV (by rw [eP]; exact rdI_n (Or.inr (Or.inr hb269))) (rdS_n (by omega) (fun q9 => absurd (tok_3.mpr q9) (by omega)))), FrY.t Fq263⟩ rdX12_readsRule_264
                · refine lv_aload_n hx hb rdX12_readsRule_252 rfl (lv_at hl 1 rfl) ?_
                  refine k_Vv F w (As := []) (rest := []) (a := 146) (kd_lt (a := 146) (show kd 146 = (12, 0, 0) from rfl) (by decide)) (sh_12 rfl _ _) rfl (t_goesOn hT Yq263.2.1 Yq263.2.2.1 (E := en T tn (Prod.fst (Prod.snd (rdC T tn 11 14 2 (rdV T tn b))))) (wa := tok T tn (Prod.fst (Prod.snd (rdC T tn 11 14 2 (rdV T tn b))))) (en_le Yq263.2.2.2.1.1).2.1 Yq263.2.2.2.1.2.2.1 Yq263.2.2.2.1.2.2.2.1 (tok_le T tn _) (tok_w Yq263.2.2.2.1.1 (Or.inr (Or.inr (by omega))))) rgv_X12_221 rhv_X12_goesOn ⟨(Nat.le_of_ble_eq_true rfl), (Nat.le_of_ble_eq_true rfl)⟩ hl.1 rfl (Nat.le_of_ble_eq_true rfl) ⟨Nat.zero_le _, Nat.zero_le _⟩ rdX12_readsRule_253 (fun Ma282 H locs hp w => ?_)
                  rcases hp with ⟨hRn281, hGn281⟩
                  have hYn281 := YS.go Yq263 (by omega) hRn281 hGn281
                  have hFn281 : FrY Ma282 M := FrY.tr Fq263 (FrY.w (FrW.g hGn281))
                  refine lv_goto (tgt := 264) hx hb rdX12_readsRule_256 (by decide) ?_
                  exact e_v F w hr hlocks ⟨YS.e hYn281 (rdR_I gV (by rw [eP]; exact rdI_n (Or.inr (Or.inr hb269))) (rdS_y (by omega) (tok_3.mp (by omega)).1 (tok_3.mp (by omega)).2)), hFn281⟩ rdX12_readsRule_264
      · subst c9
        refine lv_istore_n (lv' := [(1, .int (zI 7)), (0, .ref (B + 146))]) hx hb rdX12_readsRule_63 rfl hl (by decide) rfl (fun ls hl => ?_)
        refine lv_aload_n hx hb rdX12_readsRule_64 rfl (lv_at hl 1 rfl) ?_
        refine f_12_17 F w (a := 146) rfl rtb_146 rdX12_readsRule_65 ?_
        refine lv_iconst (v := zI 0) hx hb rdX12_readsRule_68 rfl ?_
        refine lv_iload_n hx hb rdX12_readsRule_69 rfl (lv_at hl 0 rfl) ?_
        refine g_iast F w (a := 153) rfl (j := 0) ⟨by decide, by decide⟩ (by omega) rdX12_readsRule_70 (fun H locs w => ?_)
        refine lv_iload_n hx hb rdX12_readsRule_71 rfl (lv_at hl 0 rfl) ?_
        refine lv_bipush (v := zI 8) hx hb rdX12_readsRule_72 (by decide) ?_
        refine z_icmp_ne (tgt := 90) hx hb (by omega) (by omega) rdX12_readsRule_74 (by decide) (fun c283 => ?_) (fun c283 => False.elim (by omega))
        refine lv_iload_n hx hb rdX12_readsRule_90 rfl (lv_at hl 0 rfl) ?_
        refine z_if_eq (tgt := 119) hx hb (by omega) rdX12_readsRule_91 (by decide) (fun c284 => False.elim (by omega)) (fun c284 => ?_)
        refine lv_aload_n hx hb rdX12_readsRule_94 rfl (lv_at hl 1 rfl) ?_
        refine f_12_17 F w (a := 146) rfl rtb_146 rdX12_readsRule_95 ?_
        refine lv_iconst (v := zI 2) hx hb rdX12_readsRule_98 rfl ?_
        refine lv_aload_n hx hb rdX12_readsRule_99 rfl (lv_at hl 1 rfl) ?_
        refine lv_bipush (v := zI 11) hx hb rdX12_readsRule_100 (by decide) ?_
        refine lv_iload_n hx hb rdX12_readsRule_102 rfl (lv_at hl 0 rfl) ?_
        refine lv_bipush (v := zI 9) hx hb rdX12_readsRule_103 (by decide) ?_
        refine z_icmp_ne (tgt := 113) hx hb (by omega) (by omega) rdX12_readsRule_105 (by decide) (fun c285 => ?_) (fun c285 => False.elim (by omega))
        refine lv_bipush (v := zI 14) hx hb rdX12_readsRule_113 (by decide) ?_
        have Yq286 : YS (st Ma33 153 0 (zI 7)) T tn (rdV T tn b) := hV
        have Fq286 : FrY (st Ma33 153 0 (zI 7)) M := FrY.o hFn32
        generalize (st Ma33 153 0 (zI 7)) = Mzq286 at w Yq286 Fq286
        refine k_Vi F w (As := [.int (zI 11), .int (zI 14)]) (rest := [.int (zI 2), .ref (B + 153)]) (a := 146) (kd_lt (a := 146) (show kd 146 = (12, 0, 0) from rfl) (by decide)) (sh_12 rfl _ _) rfl (t_needs hT (x := (rdV T tn b)) Yq286 (lo := 11) (hi := 14) (by decide) (by decide)) rgv_X12_227 rhv_X12_needs ⟨(Nat.le_of_ble_eq_true rfl), (Nat.le_of_ble_eq_true rfl)⟩ hl.1 rfl (Nat.le_of_ble_eq_true rfl) ⟨Nat.zero_le _, Nat.zero_le _⟩ rdX12_readsRule_115 (fun r Ma288 H locs hp w => ?_)
        rcases hp with ⟨vn287, rfl, hFn287, -, -, -, hSn287, hWn287⟩
        have hFn287 : FrY Ma288 M := FrY.tr Fq286 (FrY.w hFn287)
        refine g_iast F w (a := 153) rfl (j := 2) ⟨by decide, by decide⟩ (by omega) rdX12_readsRule_118 (fun H locs w => ?_)
        refine lv_iload_n hx hb rdX12_readsRule_119 rfl (lv_at hl 0 rfl) ?_
        refine lv_bipush (v := zI 7) hx hb rdX12_readsRule_120 (by decide) ?_
        refine z_icmp_ne (tgt := 148) hx hb (by omega) (by omega) rdX12_readsRule_122 (by decide) (fun c289 => False.elim (by omega)) (fun c289 => ?_)
        refine lv_aload_n hx hb rdX12_readsRule_125 rfl (lv_at hl 1 rfl) ?_
        refine lv_bipush (v := zI 19) hx hb rdX12_readsRule_126 (by decide) ?_
        refine lv_bipush (v := zI 19) hx hb rdX12_readsRule_128 (by decide) ?_
        have Yq290 : YS (st Ma288 153 2 (zI vn287)) T tn (rdC T tn 11 14 2 (rdV T tn b)) := hSn287 2
        have Fq290 : FrY (st Ma288 153 2 (zI vn287)) M := FrY.o hFn287
        generalize (st Ma288 153 2 (zI vn287)) = Mzq290 at w Yq290 Fq290
        refine k_Vi F w (As := [.int (zI 19), .int (zI 19)]) (rest := []) (a := 146) (kd_lt (a := 146) (show kd 146 = (12, 0, 0) from rfl) (by decide)) (sh_12 rfl _ _) rfl (t_needs hT (x := (rdC T tn 11 14 2 (rdV T tn b))) Yq290 (lo := 19) (hi := 19) (by decide) (by decide)) rgv_X12_227 rhv_X12_needs ⟨(Nat.le_of_ble_eq_true rfl), (Nat.le_of_ble_eq_true rfl)⟩ hl.1 rfl (Nat.le_of_ble_eq_true rfl) ⟨Nat.zero_le _, Nat.zero_le _⟩ rdX12_readsRule_130 (fun r Ma292 H locs hp w => ?_)
        rcases hp with ⟨vn291, rfl, hFn291, -, -, -, hSn291, hWn291⟩
        have hFn291 : FrY Ma292 M := FrY.tr Fq290 (FrY.w hFn291)
        have Yq293 : YS Ma292 T tn (rdW T tn 19 (rdC T tn 11 14 2 (rdV T tn b))) := hWn291 rfl
        refine lv_pop hx hb rdX12_readsRule_133 rfl ?_
        refine lv_aload_n hx hb rdX12_readsRule_134 rfl (lv_at hl 1 rfl) ?_
        refine f_12_17 F w (a := 146) rfl rtb_146 rdX12_readsRule_135 ?_
        refine lv_iconst (v := zI 3) hx hb rdX12_readsRule_138 rfl ?_
        refine lv_aload_n hx hb rdX12_readsRule_139 rfl (lv_at hl 1 rfl) ?_
        refine lv_bipush (v := zI 11) hx hb rdX12_readsRule_140 (by decide) ?_
        refine lv_bipush (v := zI 13) hx hb rdX12_readsRule_142 (by decide) ?_
        refine k_Vi F w (As := [.int (zI 11), .int (zI 13)]) (rest := [.int (zI 3), .ref (B + 153)]) (a := 146) (kd_lt (a := 146) (show kd 146 = (12, 0, 0) from rfl) (by decide)) (sh_12 rfl _ _) rfl (t_needs hT (x := (rdW T tn 19 (rdC T tn 11 14 2 (rdV T tn b)))) Yq293 (lo := 11) (hi := 13) (by decide) (by decide)) rgv_X12_227 rhv_X12_needs ⟨(Nat.le_of_ble_eq_true rfl), (Nat.le_of_ble_eq_true rfl)⟩ hl.1 rfl (Nat.le_of_ble_eq_true rfl) ⟨Nat.zero_le _, Nat.zero_le _⟩ rdX12_readsRule_144 (fun r Ma295 H locs hp w => ?_)
        rcases hp with ⟨vn294, rfl, hFn294, -, -, -, hSn294, hWn294⟩
        have hFn294 : FrY Ma295 M := FrY.tr hFn291 (FrY.w hFn294)
        refine g_iast F w (a := 153) rfl (j := 3) ⟨by decide, by decide⟩ (by omega) rdX12_readsRule_147 (fun H locs w => ?_)
        refine lv_iload_n hx hb rdX12_readsRule_148 rfl (lv_at hl 0 rfl) ?_
        refine k_Si F w (As := [.int (zI 7)]) (rest := []) (t_hasSide (z := 7) (by omega)) rgs_X12_137 rhs_X12_hasSide ⟨(Nat.le_of_ble_eq_true rfl), (Nat.le_of_ble_eq_true rfl)⟩ hl.1 rfl (Nat.le_of_ble_eq_true rfl) ⟨Nat.zero_le _, Nat.zero_le _⟩ rdX12_readsRule_149 (fun r Ma297 H locs hp w => ?_)
        rcases hp with ⟨⟨hb296, rfl⟩ | ⟨hb296, rfl⟩, hMe⟩
        · exact absurd hb296 (by omega)
        · rw [hMe] at w
          refine z_if_eq (tgt := 169) hx hb (by omega) rdX12_readsRule_152 (by decide) (fun c298 => ?_) (fun c298 => False.elim (by omega))
          refine lv_iload_n hx hb rdX12_readsRule_169 rfl (lv_at hl 0 rfl) ?_
          refine lv_iconst (v := zI 3) hx hb rdX12_readsRule_170 rfl ?_
          refine z_icmp_eq (tgt := 180) hx hb (by omega) (by omega) rdX12_readsRule_171 (by decide) (fun c299 => False.elim (by omega)) (fun c299 => ?_)
          refine lv_iload_n hx hb rdX12_readsRule_174 rfl (lv_at hl 0 rfl) ?_
          refine lv_bipush (v := zI 8) hx hb rdX12_readsRule_175 (by decide) ?_
          refine z_icmp_ne (tgt := 194) hx hb (by omega) (by omega) rdX12_readsRule_177 (by decide) (fun c300 => ?_) (fun c300 => False.elim (by omega))
          refine lv_iload_n hx hb rdX12_readsRule_194 rfl (lv_at hl 0 rfl) ?_
          refine lv_iconst (v := zI 1) hx hb rdX12_readsRule_195 rfl ?_
          refine z_icmp_ne (tgt := 209) hx hb (by omega) (by omega) rdX12_readsRule_196 (by decide) (fun c301 => ?_) (fun c301 => False.elim (by omega))
          have Yq302 : YS (st Ma295 153 3 (zI vn294)) T tn (rdC T tn 11 13 3 (rdW T tn 19 (rdC T tn 11 14 2 (rdV T tn b)))) := hSn294 3
          have Fq302 : FrY (st Ma295 153 3 (zI vn294)) M := FrY.o hFn294
          generalize (st Ma295 153 3 (zI vn294)) = Mzq302 at w Yq302 Fq302
          have hGf := Yq302.1.1
          have eP : rdP T tn ((rdV T tn b).2.2 0) (rdV T tn b) = (rdC T tn 11 13 3 (rdW T tn 19 (rdC T tn 11 14 2 (rdV T tn b)))) := ((rdP_7 (by omega)).trans (by rw [rdK_o (by omega) (by omega)]))
          refine lv_aload_n hx hb rdX12_readsRule_209 rfl (lv_at hl 1 rfl) ?_
          refine f_12_16 F w (a := 146) rfl rtb_139 rdX12_readsRule_210 ?_
          refine r_val (v := (zI (1 - ((Prod.fst (rdC T tn 11 13 3 (rdW T tn 19 (rdC T tn 11 14 2 (rdV T tn b)))) : Nat) : Int)))) (Yq302.2.2.2.2.1) ?_
          refine z_if_ne (tgt := 236) hx hb (by omega) rdX12_readsRule_213 (by decide) (fun c303 => ?_) (fun c303 => ?_)
          · have hGi := Yq302.1.1
            refine lv_aload_n hx hb rdX12_readsRule_236 rfl (lv_at hl 1 rfl) ?_
            refine f_12_16 F w (a := 146) rfl rtb_139 rdX12_readsRule_237 ?_
            refine r_val (v := (zI (1 - ((Prod.fst (rdC T tn 11 13 3 (rdW T tn 19 (rdC T tn 11 14 2 (rdV T tn b)))) : Nat) : Int)))) (Yq302.2.2.2.2.1) ?_
            refine z_if_eq (tgt := 244) hx hb (by omega) rdX12_readsRule_240 (by decide) (fun c304 => False.elim (by omega)) (fun c304 => ?_)
            exact e_v F w hr hlocks ⟨YS.e Yq302 ((rdR_1 gV (by rw [eP]; omega)).trans eP), Fq302⟩ rdX12_readsRule_243
          · refine lv_iload_n hx hb rdX12_readsRule_216 rfl (lv_at hl 0 rfl) ?_
            refine k_Si F w (As := [.int (zI 7)]) (rest := []) (t_isBySyllables (z := 7) (by omega)) rgs_X12_140 rhs_X12_isBySyllables ⟨(Nat.le_of_ble_eq_true rfl), (Nat.le_of_ble_eq_true rfl)⟩ hl.1 rfl (Nat.le_of_ble_eq_true rfl) ⟨Nat.zero_le _, Nat.zero_le _⟩ rdX12_readsRule_217 (fun r Ma306 H locs hp w => ?_)
            rcases hp with ⟨⟨hb305, rfl⟩ | ⟨hb305, rfl⟩, hMe⟩
            · exact absurd hb305 (by omega)
            · rw [hMe] at w
              refine z_if_ne (tgt := 236) hx hb (by omega) rdX12_readsRule_220 (by decide) (fun c307 => False.elim (by omega)) (fun c307 => ?_)
              refine lv_aload_n hx hb rdX12_readsRule_223 rfl (lv_at hl 1 rfl) ?_
              refine lv_bipush (v := zI 20) hx hb rdX12_readsRule_224 (by decide) ?_
              refine k_Vi F w (As := [.int (zI 20)]) (rest := []) (a := 146) (kd_lt (a := 146) (show kd 146 = (12, 0, 0) from rfl) (by decide)) (sh_12 rfl _ _) rfl (t_isWord hT (x := (rdC T tn 11 13 3 (rdW T tn 19 (rdC T tn 11 14 2 (rdV T tn b))))) Yq302 (lo := 20) (by decide)) rgv_X12_224 rhv_X12_isWord ⟨(Nat.le_of_ble_eq_true rfl), (Nat.le_of_ble_eq_true rfl)⟩ hl.1 rfl (Nat.le_of_ble_eq_true rfl) ⟨Nat.zero_le _, Nat.zero_le _⟩ rdX12_readsRule_226 (fun r Ma309 H locs hp w => ?_)
              rcases hp with ⟨⟨hb308, rfl⟩ | ⟨hb308, rfl⟩, hMe⟩
              · rw [hMe] at w
                refine z_if_eq (tgt := 236) hx hb (by omega) rdX12_readsRule_229 (by decide) (fun c310 => False.elim (by omega)) (fun c310 => ?_)
                refine lv_aload_n hx hb rdX12_readsRule_232 rfl (lv_at hl 1 rfl) ?_
                refine k_Vv F w (As := []) (rest := []) (a := 146) (kd_lt (a := 146) (show kd 146 = (12, 0, 0) from rfl) (by decide)) (sh_12 rfl _ _) rfl (t_readsTest hT (x := (rdC T tn 11 13 3 (rdW T tn 19 (rdC T tn 11 14 2 (rdV T tn b))))) Yq302 (by omega) (Or.inl (tk_w0 (T := T) (N := tn) Yq302.2.2.2.1.1 hb308))) rgv_X12_233 rhv_X12_readsTest ⟨(Nat.le_of_ble_eq_true rfl), (Nat.le_of_ble_eq_true rfl)⟩ hl.1 rfl (Nat.le_of_ble_eq_true rfl) ⟨Nat.zero_le _, Nat.zero_le _⟩ rdX12_readsRule_233 (fun Ma312 H locs hp w => ?_)
                rcases hp with ⟨hYn311, hFn311⟩
                have hFn311 : FrY Ma312 M := FrY.tr Fq302 hFn311
                have hGi := hYn311.1.1
                refine lv_aload_n hx hb rdX12_readsRule_236 rfl (lv_at hl 1 rfl) ?_
                refine f_12_16 F w (a := 146) rfl rtb_139 rdX12_readsRule_237 ?_
                refine r_val (v := (zI (1 - ((Prod.fst (rdT T tn (1, en T tn (Prod.fst (Prod.snd (rdC T tn 11 13 3 (rdW T tn 19 (rdC T tn 11 14 2 (rdV T tn b)))))), Prod.snd (Prod.snd (rdC T tn 11 13 3 (rdW T tn 19 (rdC T tn 11 14 2 (rdV T tn b))))))) : Nat) : Int)))) (hYn311.2.2.2.2.1) ?_
                refine z_if_eq (tgt := 244) hx hb (by omega) rdX12_readsRule_240 (by decide) (fun c313 => ?_) (fun c313 => ?_)
                · refine lv_aload_n hx hb rdX12_readsRule_244 rfl (lv_at hl 1 rfl) ?_
                  refine f_12_13 F w (a := 146) rfl rtb_127 rdX12_readsRule_245 ?_
                  have htl313 := tok_le T tn (Prod.fst (Prod.snd (rdT T tn (1, en T tn (Prod.fst (Prod.snd (rdC T tn 11 13 3 (rdW T tn 19 (rdC T tn 11 14 2 (rdV T tn b)))))), Prod.snd (Prod.snd (rdC T tn 11 13 3 (rdW T tn 19 (rdC T tn 11 14 2 (rdV T tn b)))))))))
                  refine r_val (v := (zI (((tok T tn (Prod.fst (Prod.snd (rdT T tn (1, en T tn (Prod.fst (Prod.snd (rdC T tn 11 13 3 (rdW T tn 19 (rdC T tn 11 14 2 (rdV T tn b)))))), Prod.snd (Prod.snd (rdC T tn 11 13 3 (rdW T tn 19 (rdC T tn 11 14 2 (rdV T tn b)))))))))) : Nat) : Int))) (hYn311.2.2.2.1.2.2.2.1) ?_
                  refine lv_iconst (v := zI 3) hx hb rdX12_readsRule_248 rfl ?_
                  refine z_icmp_ne (tgt := 259) hx hb (by omega) (by omega) rdX12_readsRule_249 (by decide) (fun c314 => ?_) (fun c314 => ?_)
                  · refine lv_aload_n hx hb rdX12_readsRule_259 rfl (lv_at hl 1 rfl) ?_
                    refine lv_iconst (v := zI 1) hx hb rdX12_readsRule_260 rfl ?_
                    refine u_12_16 F w (a := 146) rfl (by decide) (by decide) rtb_139 rdX12_readsRule_261 (fun H locs w => ?_)
                    exact e_v F w hr hlocks ⟨YS.e (YS.bad hYn311) (rdR_I gV (by rw [eP]; exact rdI_y (by omega) (by omega) hb308) (rdS_n (by omega) (fun q9 => absurd (tok_3.mpr q9) (by omega)))), FrY.t hFn311⟩ rdX12_readsRule_264
                  · refine lv_aload_n hx hb rdX12_readsRule_252 rfl (lv_at hl 1 rfl) ?_
                    refine k_Vv F w (As := []) (rest := []) (a := 146) (kd_lt (a := 146) (show kd 146 = (12, 0, 0) from rfl) (by decide)) (sh_12 rfl _ _) rfl (t_goesOn hT hYn311.2.1 hYn311.2.2.1 (E := en T tn (Prod.fst (Prod.snd (rdT T tn (1, en T tn (Prod.fst (Prod.snd (rdC T tn 11 13 3 (rdW T tn 19 (rdC T tn 11 14 2 (rdV T tn b)))))), Prod.snd (Prod.snd (rdC T tn 11 13 3 (rdW T tn 19 (rdC T tn 11 14 2 (rdV T tn b)))))))))) (wa := tok T tn (Prod.fst (Prod.snd (rdT T tn (1, en T tn (Prod.fst (Prod.snd (rdC T tn 11 13 3 (rdW T tn 19 (rdC T tn 11 14 2 (rdV T tn b)))))), Prod.snd (Prod.snd (rdC T tn 11 13 3 (rdW T tn 19 (rdC T tn 11 14 2 (rdV T tn b)))))))))) (en_le hYn311.2.2.2.1.1).2.1 hYn311.2.2.2.1.2.2.1 hYn311.2.2.2.1.2.2.2.1 (tok_le T tn _) (tok_w hYn311.2.2.2.1.1 (Or.inr (Or.inr (by omega))))) rgv_X12_221 rhv_X12_goesOn ⟨(Nat.le_of_ble_eq_true rfl), (Nat.le_of_ble_eq_true rfl)⟩ hl.1 rfl (Nat.le_of_ble_eq_true rfl) ⟨Nat.zero_le _, Nat.zero_le _⟩ rdX12_readsRule_253 (fun Ma316 H locs hp w => ?_)
                    rcases hp with ⟨hRn315, hGn315⟩
                    have hYn315 := YS.go hYn311 (by omega) hRn315 hGn315
                    have hFn315 : FrY Ma316 M := FrY.tr hFn311 (FrY.w (FrW.g hGn315))
                    refine lv_goto (tgt := 264) hx hb rdX12_readsRule_256 (by decide) ?_
                    exact e_v F w hr hlocks ⟨YS.e hYn315 (rdR_I gV (by rw [eP]; exact rdI_y (by omega) (by omega) hb308) (rdS_y (by omega) (tok_3.mp (by omega)).1 (tok_3.mp (by omega)).2)), hFn315⟩ rdX12_readsRule_264
                · exact e_v F w hr hlocks ⟨YS.e hYn311 (rdR_2 gV (by rw [eP]; exact rdI_y (by omega) (by omega) hb308) (by omega)), hFn311⟩ rdX12_readsRule_243
              · rw [hMe] at w
                refine z_if_eq (tgt := 236) hx hb (by omega) rdX12_readsRule_229 (by decide) (fun c317 => ?_) (fun c317 => False.elim (by omega))
                have hGi := Yq302.1.1
                refine lv_aload_n hx hb rdX12_readsRule_236 rfl (lv_at hl 1 rfl) ?_
                refine f_12_16 F w (a := 146) rfl rtb_139 rdX12_readsRule_237 ?_
                refine r_val (v := (zI (1 - ((Prod.fst (rdC T tn 11 13 3 (rdW T tn 19 (rdC T tn 11 14 2 (rdV T tn b)))) : Nat) : Int)))) (Yq302.2.2.2.2.1) ?_
                refine z_if_eq (tgt := 244) hx hb (by omega) rdX12_readsRule_240 (by decide) (fun c318 => ?_) (fun c318 => False.elim (by omega))
                refine lv_aload_n hx hb rdX12_readsRule_244 rfl (lv_at hl 1 rfl) ?_
                refine f_12_13 F w (a := 146) rfl rtb_127 rdX12_readsRule_245 ?_
                have htl318 := tok_le T tn (Prod.fst (Prod.snd (rdC T tn 11 13 3 (rdW T tn 19 (rdC T tn 11 14 2 (rdV T tn b))))))
                refine r_val (v := (zI (((tok T tn (Prod.fst (Prod.snd (rdC T tn 11 13 3 (rdW T tn 19 (rdC T tn 11 14 2 (rdV T tn b))))))) : Nat) : Int))) (Yq302.2.2.2.1.2.2.2.1) ?_
                refine lv_iconst (v := zI 3) hx hb rdX12_readsRule_248 rfl ?_
                refine z_icmp_ne (tgt := 259) hx hb (by omega) (by omega) rdX12_readsRule_249 (by decide) (fun c319 => ?_) (fun c319 => ?_)
                · refine lv_aload_n hx hb rdX12_readsRule_259 rfl (lv_at hl 1 rfl) ?_
                  refine lv_iconst (v := zI 1) hx hb rdX12_readsRule_260 rfl ?_
                  refine u_12_16 F w (a := 146) rfl (by decide) (by decide) rtb_139 rdX12_readsRule_261 (fun H locs w => ?_)
                  exact e_v F w hr hlocks ⟨YS.e (YS.bad Yq302) (rdR_I gV (by rw [eP]; exact rdI_n (Or.inr (Or.inr hb308))) (rdS_n (by omega) (fun q9 => absurd (tok_3.mpr q9) (by omega)))), FrY.t Fq302⟩ rdX12_readsRule_264
                · refine lv_aload_n hx hb rdX12_readsRule_252 rfl (lv_at hl 1 rfl) ?_
                  refine k_Vv F w (As := []) (rest := []) (a := 146) (kd_lt (a := 146) (show kd 146 = (12, 0, 0) from rfl) (by decide)) (sh_12 rfl _ _) rfl (t_goesOn hT Yq302.2.1 Yq302.2.2.1 (E := en T tn (Prod.fst (Prod.snd (rdC T tn 11 13 3 (rdW T tn 19 (rdC T tn 11 14 2 (rdV T tn b))))))) (wa := tok T tn (Prod.fst (Prod.snd (rdC T tn 11 13 3 (rdW T tn 19 (rdC T tn 11 14 2 (rdV T tn b))))))) (en_le Yq302.2.2.2.1.1).2.1 Yq302.2.2.2.1.2.2.1 Yq302.2.2.2.1.2.2.2.1 (tok_le T tn _) (tok_w Yq302.2.2.2.1.1 (Or.inr (Or.inr (by omega))))) rgv_X12_221 rhv_X12_goesOn ⟨(Nat.le_of_ble_eq_true rfl), (Nat.le_of_ble_eq_true rfl)⟩ hl.1 rfl (Nat.le_of_ble_eq_true rfl) ⟨Nat.zero_le _, Nat.zero_le _⟩ rdX12_readsRule_253 (fun Ma321 H locs hp w => ?_)
                  rcases hp with ⟨hRn320, hGn320⟩
                  have hYn320 := YS.go Yq302 (by omega) hRn320 hGn320
                  have hFn320 : FrY Ma321 M := FrY.tr Fq302 (FrY.w (FrW.g hGn320))
                  refine lv_goto (tgt := 264) hx hb rdX12_readsRule_256 (by decide) ?_
                  exact e_v F w hr hlocks ⟨YS.e hYn320 (rdR_I gV (by rw [eP]; exact rdI_n (Or.inr (Or.inr hb308))) (rdS_y (by omega) (tok_3.mp (by omega)).1 (tok_3.mp (by omega)).2)), hFn320⟩ rdX12_readsRule_264
      · subst c9
        refine lv_istore_n (lv' := [(1, .int (zI 8)), (0, .ref (B + 146))]) hx hb rdX12_readsRule_63 rfl hl (by decide) rfl (fun ls hl => ?_)
        refine lv_aload_n hx hb rdX12_readsRule_64 rfl (lv_at hl 1 rfl) ?_
        refine f_12_17 F w (a := 146) rfl rtb_146 rdX12_readsRule_65 ?_
        refine lv_iconst (v := zI 0) hx hb rdX12_readsRule_68 rfl ?_
        refine lv_iload_n hx hb rdX12_readsRule_69 rfl (lv_at hl 0 rfl) ?_
        refine g_iast F w (a := 153) rfl (j := 0) ⟨by decide, by decide⟩ (by omega) rdX12_readsRule_70 (fun H locs w => ?_)
        refine lv_iload_n hx hb rdX12_readsRule_71 rfl (lv_at hl 0 rfl) ?_
        refine lv_bipush (v := zI 8) hx hb rdX12_readsRule_72 (by decide) ?_
        refine z_icmp_ne (tgt := 90) hx hb (by omega) (by omega) rdX12_readsRule_74 (by decide) (fun c322 => False.elim (by omega)) (fun c322 => ?_)
        refine lv_aload_n hx hb rdX12_readsRule_77 rfl (lv_at hl 1 rfl) ?_
        refine f_12_17 F w (a := 146) rfl rtb_146 rdX12_readsRule_78 ?_
        refine lv_iconst (v := zI 3) hx hb rdX12_readsRule_81 rfl ?_
        refine lv_aload_n hx hb rdX12_readsRule_82 rfl (lv_at hl 1 rfl) ?_
        have Yq323 : YS (st Ma33 153 0 (zI 8)) T tn (rdV T tn b) := hV
        have Fq323 : FrY (st Ma33 153 0 (zI 8)) M := FrY.o hFn32
        generalize (st Ma33 153 0 (zI 8)) = Mzq323 at w Yq323 Fq323
        refine k_Vi F w (As := []) (rest := [.int (zI 3), .ref (B + 153)]) (a := 146) (kd_lt (a := 146) (show kd 146 = (12, 0, 0) from rfl) (by decide)) (sh_12 rfl _ _) rfl (t_needsNumber hT (x := (rdV T tn b)) Yq323) rgv_X12_230 rhv_X12_needsNumber ⟨(Nat.le_of_ble_eq_true rfl), (Nat.le_of_ble_eq_true rfl)⟩ hl.1 rfl (Nat.le_of_ble_eq_true rfl) ⟨Nat.zero_le _, Nat.zero_le _⟩ rdX12_readsRule_83 (fun r Ma325 H locs hp w => ?_)
        rcases hp with ⟨vn324, rfl, hFn324, -, hSn324⟩
        have hFn324 : FrY Ma325 M := FrY.tr Fq323 (FrY.w hFn324)
        refine g_iast F w (a := 153) rfl (j := 3) ⟨by decide, by decide⟩ (by omega) rdX12_readsRule_86 (fun H locs w => ?_)
        refine lv_goto (tgt := 119) hx hb rdX12_readsRule_87 (by decide) ?_
        refine lv_iload_n hx hb rdX12_readsRule_119 rfl (lv_at hl 0 rfl) ?_
        refine lv_bipush (v := zI 7) hx hb rdX12_readsRule_120 (by decide) ?_
        refine z_icmp_ne (tgt := 148) hx hb (by omega) (by omega) rdX12_readsRule_122 (by decide) (fun c326 => ?_) (fun c326 => False.elim (by omega))
        refine lv_iload_n hx hb rdX12_readsRule_148 rfl (lv_at hl 0 rfl) ?_
        refine k_Si F w (As := [.int (zI 8)]) (rest := []) (t_hasSide (z := 8) (by omega)) rgs_X12_137 rhs_X12_hasSide ⟨(Nat.le_of_ble_eq_true rfl), (Nat.le_of_ble_eq_true rfl)⟩ hl.1 rfl (Nat.le_of_ble_eq_true rfl) ⟨Nat.zero_le _, Nat.zero_le _⟩ rdX12_readsRule_149 (fun r Ma328 H locs hp w => ?_)
        rcases hp with ⟨⟨hb327, rfl⟩ | ⟨hb327, rfl⟩, hMe⟩
        · exact absurd hb327 (by omega)
        · rw [hMe] at w
          refine z_if_eq (tgt := 169) hx hb (by omega) rdX12_readsRule_152 (by decide) (fun c329 => ?_) (fun c329 => False.elim (by omega))
          refine lv_iload_n hx hb rdX12_readsRule_169 rfl (lv_at hl 0 rfl) ?_
          refine lv_iconst (v := zI 3) hx hb rdX12_readsRule_170 rfl ?_
          refine z_icmp_eq (tgt := 180) hx hb (by omega) (by omega) rdX12_readsRule_171 (by decide) (fun c330 => False.elim (by omega)) (fun c330 => ?_)
          refine lv_iload_n hx hb rdX12_readsRule_174 rfl (lv_at hl 0 rfl) ?_
          refine lv_bipush (v := zI 8) hx hb rdX12_readsRule_175 (by decide) ?_
          refine z_icmp_ne (tgt := 194) hx hb (by omega) (by omega) rdX12_readsRule_177 (by decide) (fun c331 => False.elim (by omega)) (fun c331 => ?_)
          refine lv_aload_n hx hb rdX12_readsRule_180 rfl (lv_at hl 1 rfl) ?_
          refine f_12_17 F w (a := 146) rfl rtb_146 rdX12_readsRule_181 ?_
          refine lv_iconst (v := zI 4) hx hb rdX12_readsRule_184 rfl ?_
          refine lv_aload_n hx hb rdX12_readsRule_185 rfl (lv_at hl 1 rfl) ?_
          refine lv_bipush (v := zI 17) hx hb rdX12_readsRule_186 (by decide) ?_
          refine lv_bipush (v := zI 18) hx hb rdX12_readsRule_188 (by decide) ?_
          have Yq332 : YS (st Ma325 153 3 (zI vn324)) T tn (rdN T tn (rdV T tn b)) := hSn324
          have Fq332 : FrY (st Ma325 153 3 (zI vn324)) M := FrY.o hFn324
          generalize (st Ma325 153 3 (zI vn324)) = Mzq332 at w Yq332 Fq332
          refine k_Vi F w (As := [.int (zI 17), .int (zI 18)]) (rest := [.int (zI 4), .ref (B + 153)]) (a := 146) (kd_lt (a := 146) (show kd 146 = (12, 0, 0) from rfl) (by decide)) (sh_12 rfl _ _) rfl (t_needs hT (x := (rdN T tn (rdV T tn b))) Yq332 (lo := 17) (hi := 18) (by decide) (by decide)) rgv_X12_227 rhv_X12_needs ⟨(Nat.le_of_ble_eq_true rfl), (Nat.le_of_ble_eq_true rfl)⟩ hl.1 rfl (Nat.le_of_ble_eq_true rfl) ⟨Nat.zero_le _, Nat.zero_le _⟩ rdX12_readsRule_190 (fun r Ma334 H locs hp w => ?_)
          rcases hp with ⟨vn333, rfl, hFn333, -, -, -, hSn333, hWn333⟩
          have hFn333 : FrY Ma334 M := FrY.tr Fq332 (FrY.w hFn333)
          refine g_iast F w (a := 153) rfl (j := 4) ⟨by decide, by decide⟩ (by omega) rdX12_readsRule_193 (fun H locs w => ?_)
          refine lv_iload_n hx hb rdX12_readsRule_194 rfl (lv_at hl 0 rfl) ?_
          refine lv_iconst (v := zI 1) hx hb rdX12_readsRule_195 rfl ?_
          refine z_icmp_ne (tgt := 209) hx hb (by omega) (by omega) rdX12_readsRule_196 (by decide) (fun c335 => ?_) (fun c335 => False.elim (by omega))
          have Yq336 : YS (st Ma334 153 4 (zI vn333)) T tn (rdC T tn 17 18 4 (rdN T tn (rdV T tn b))) := hSn333 4
          have Fq336 : FrY (st Ma334 153 4 (zI vn333)) M := FrY.o hFn333
          generalize (st Ma334 153 4 (zI vn333)) = Mzq336 at w Yq336 Fq336
          have hGf := Yq336.1.1
          have eP : rdP T tn ((rdV T tn b).2.2 0) (rdV T tn b) = (rdC T tn 17 18 4 (rdN T tn (rdV T tn b))) := (rdP_8 (by omega))
          refine lv_aload_n hx hb rdX12_readsRule_209 rfl (lv_at hl 1 rfl) ?_
          refine f_12_16 F w (a := 146) rfl rtb_139 rdX12_readsRule_210 ?_
          refine r_val (v := (zI (1 - ((Prod.fst (rdC T tn 17 18 4 (rdN T tn (rdV T tn b))) : Nat) : Int)))) (Yq336.2.2.2.2.1) ?_
          refine z_if_ne (tgt := 236) hx hb (by omega) rdX12_readsRule_213 (by decide) (fun c337 => ?_) (fun c337 => ?_)
          · have hGi := Yq336.1.1
            refine lv_aload_n hx hb rdX12_readsRule_236 rfl (lv_at hl 1 rfl) ?_
            refine f_12_16 F w (a := 146) rfl rtb_139 rdX12_readsRule_237 ?_
            refine r_val (v := (zI (1 - ((Prod.fst (rdC T tn 17 18 4 (rdN T tn (rdV T tn b))) : Nat) : Int)))) (Yq336.2.2.2.2.1) ?_
            refine z_if_eq (tgt := 244) hx hb (by omega) rdX12_readsRule_240 (by decide) (fun c338 => False.elim (by omega)) (fun c338 => ?_)
            exact e_v F w hr hlocks ⟨YS.e Yq336 ((rdR_1 gV (by rw [eP]; omega)).trans eP), Fq336⟩ rdX12_readsRule_243
          · refine lv_iload_n hx hb rdX12_readsRule_216 rfl (lv_at hl 0 rfl) ?_
            refine k_Si F w (As := [.int (zI 8)]) (rest := []) (t_isBySyllables (z := 8) (by omega)) rgs_X12_140 rhs_X12_isBySyllables ⟨(Nat.le_of_ble_eq_true rfl), (Nat.le_of_ble_eq_true rfl)⟩ hl.1 rfl (Nat.le_of_ble_eq_true rfl) ⟨Nat.zero_le _, Nat.zero_le _⟩ rdX12_readsRule_217 (fun r Ma340 H locs hp w => ?_)
            rcases hp with ⟨⟨hb339, rfl⟩ | ⟨hb339, rfl⟩, hMe⟩
            · rw [hMe] at w
              refine z_if_ne (tgt := 236) hx hb (by omega) rdX12_readsRule_220 (by decide) (fun c341 => ?_) (fun c341 => False.elim (by omega))
              have hGi := Yq336.1.1
              refine lv_aload_n hx hb rdX12_readsRule_236 rfl (lv_at hl 1 rfl) ?_
              refine f_12_16 F w (a := 146) rfl rtb_139 rdX12_readsRule_237 ?_
              refine r_val (v := (zI (1 - ((Prod.fst (rdC T tn 17 18 4 (rdN T tn (rdV T tn b))) : Nat) : Int)))) (Yq336.2.2.2.2.1) ?_
              refine z_if_eq (tgt := 244) hx hb (by omega) rdX12_readsRule_240 (by decide) (fun c342 => ?_) (fun c342 => False.elim (by omega))
              refine lv_aload_n hx hb rdX12_readsRule_244 rfl (lv_at hl 1 rfl) ?_
              refine f_12_13 F w (a := 146) rfl rtb_127 rdX12_readsRule_245 ?_
              have htl342 := tok_le T tn (Prod.fst (Prod.snd (rdC T tn 17 18 4 (rdN T tn (rdV T tn b)))))
              refine r_val (v := (zI (((tok T tn (Prod.fst (Prod.snd (rdC T tn 17 18 4 (rdN T tn (rdV T tn b)))))) : Nat) : Int))) (Yq336.2.2.2.1.2.2.2.1) ?_
              refine lv_iconst (v := zI 3) hx hb rdX12_readsRule_248 rfl ?_
              refine z_icmp_ne (tgt := 259) hx hb (by omega) (by omega) rdX12_readsRule_249 (by decide) (fun c343 => ?_) (fun c343 => ?_)
              · refine lv_aload_n hx hb rdX12_readsRule_259 rfl (lv_at hl 1 rfl) ?_
                refine lv_iconst (v := zI 1) hx hb rdX12_readsRule_260 rfl ?_
                refine u_12_16 F w (a := 146) rfl (by decide) (by decide) rtb_139 rdX12_readsRule_261 (fun H locs w => ?_)
                exact e_v F w hr hlocks ⟨YS.e (YS.bad Yq336) (rdR_I gV (by rw [eP]; exact rdI_n (Or.inr (Or.inl (by omega)))) (rdS_n (by omega) (fun q9 => absurd (tok_3.mpr q9) (by omega)))), FrY.t Fq336⟩ rdX12_readsRule_264
              · refine lv_aload_n hx hb rdX12_readsRule_252 rfl (lv_at hl 1 rfl) ?_
                refine k_Vv F w (As := []) (rest := []) (a := 146) (kd_lt (a := 146) (show kd 146 = (12, 0, 0) from rfl) (by decide)) (sh_12 rfl _ _) rfl (t_goesOn hT Yq336.2.1 Yq336.2.2.1 (E := en T tn (Prod.fst (Prod.snd (rdC T tn 17 18 4 (rdN T tn (rdV T tn b)))))) (wa := tok T tn (Prod.fst (Prod.snd (rdC T tn 17 18 4 (rdN T tn (rdV T tn b)))))) (en_le Yq336.2.2.2.1.1).2.1 Yq336.2.2.2.1.2.2.1 Yq336.2.2.2.1.2.2.2.1 (tok_le T tn _) (tok_w Yq336.2.2.2.1.1 (Or.inr (Or.inr (by omega))))) rgv_X12_221 rhv_X12_goesOn ⟨(Nat.le_of_ble_eq_true rfl), (Nat.le_of_ble_eq_true rfl)⟩ hl.1 rfl (Nat.le_of_ble_eq_true rfl) ⟨Nat.zero_le _, Nat.zero_le _⟩ rdX12_readsRule_253 (fun Ma345 H locs hp w => ?_)
                rcases hp with ⟨hRn344, hGn344⟩
                have hYn344 := YS.go Yq336 (by omega) hRn344 hGn344
                have hFn344 : FrY Ma345 M := FrY.tr Fq336 (FrY.w (FrW.g hGn344))
                refine lv_goto (tgt := 264) hx hb rdX12_readsRule_256 (by decide) ?_
                exact e_v F w hr hlocks ⟨YS.e hYn344 (rdR_I gV (by rw [eP]; exact rdI_n (Or.inr (Or.inl (by omega)))) (rdS_y (by omega) (tok_3.mp (by omega)).1 (tok_3.mp (by omega)).2)), hFn344⟩ rdX12_readsRule_264
            · exact absurd hb339 (by omega)
      · subst c9
        refine lv_istore_n (lv' := [(1, .int (zI 9)), (0, .ref (B + 146))]) hx hb rdX12_readsRule_63 rfl hl (by decide) rfl (fun ls hl => ?_)
        refine lv_aload_n hx hb rdX12_readsRule_64 rfl (lv_at hl 1 rfl) ?_
        refine f_12_17 F w (a := 146) rfl rtb_146 rdX12_readsRule_65 ?_
        refine lv_iconst (v := zI 0) hx hb rdX12_readsRule_68 rfl ?_
        refine lv_iload_n hx hb rdX12_readsRule_69 rfl (lv_at hl 0 rfl) ?_
        refine g_iast F w (a := 153) rfl (j := 0) ⟨by decide, by decide⟩ (by omega) rdX12_readsRule_70 (fun H locs w => ?_)
        refine lv_iload_n hx hb rdX12_readsRule_71 rfl (lv_at hl 0 rfl) ?_
        refine lv_bipush (v := zI 8) hx hb rdX12_readsRule_72 (by decide) ?_
        refine z_icmp_ne (tgt := 90) hx hb (by omega) (by omega) rdX12_readsRule_74 (by decide) (fun c346 => ?_) (fun c346 => False.elim (by omega))
        refine lv_iload_n hx hb rdX12_readsRule_90 rfl (lv_at hl 0 rfl) ?_
        refine z_if_eq (tgt := 119) hx hb (by omega) rdX12_readsRule_91 (by decide) (fun c347 => False.elim (by omega)) (fun c347 => ?_)
        refine lv_aload_n hx hb rdX12_readsRule_94 rfl (lv_at hl 1 rfl) ?_
        refine f_12_17 F w (a := 146) rfl rtb_146 rdX12_readsRule_95 ?_
        refine lv_iconst (v := zI 2) hx hb rdX12_readsRule_98 rfl ?_
        refine lv_aload_n hx hb rdX12_readsRule_99 rfl (lv_at hl 1 rfl) ?_
        refine lv_bipush (v := zI 11) hx hb rdX12_readsRule_100 (by decide) ?_
        refine lv_iload_n hx hb rdX12_readsRule_102 rfl (lv_at hl 0 rfl) ?_
        refine lv_bipush (v := zI 9) hx hb rdX12_readsRule_103 (by decide) ?_
        refine z_icmp_ne (tgt := 113) hx hb (by omega) (by omega) rdX12_readsRule_105 (by decide) (fun c348 => False.elim (by omega)) (fun c348 => ?_)
        refine lv_bipush (v := zI 13) hx hb rdX12_readsRule_108 (by decide) ?_
        refine lv_goto (tgt := 115) hx hb rdX12_readsRule_110 (by decide) ?_
        have Yq349 : YS (st Ma33 153 0 (zI 9)) T tn (rdV T tn b) := hV
        have Fq349 : FrY (st Ma33 153 0 (zI 9)) M := FrY.o hFn32
        generalize (st Ma33 153 0 (zI 9)) = Mzq349 at w Yq349 Fq349
        refine k_Vi F w (As := [.int (zI 11), .int (zI 13)]) (rest := [.int (zI 2), .ref (B + 153)]) (a := 146) (kd_lt (a := 146) (show kd 146 = (12, 0, 0) from rfl) (by decide)) (sh_12 rfl _ _) rfl (t_needs hT (x := (rdV T tn b)) Yq349 (lo := 11) (hi := 13) (by decide) (by decide)) rgv_X12_227 rhv_X12_needs ⟨(Nat.le_of_ble_eq_true rfl), (Nat.le_of_ble_eq_true rfl)⟩ hl.1 rfl (Nat.le_of_ble_eq_true rfl) ⟨Nat.zero_le _, Nat.zero_le _⟩ rdX12_readsRule_115 (fun r Ma351 H locs hp w => ?_)
        rcases hp with ⟨vn350, rfl, hFn350, -, -, -, hSn350, hWn350⟩
        have hFn350 : FrY Ma351 M := FrY.tr Fq349 (FrY.w hFn350)
        refine g_iast F w (a := 153) rfl (j := 2) ⟨by decide, by decide⟩ (by omega) rdX12_readsRule_118 (fun H locs w => ?_)
        refine lv_iload_n hx hb rdX12_readsRule_119 rfl (lv_at hl 0 rfl) ?_
        refine lv_bipush (v := zI 7) hx hb rdX12_readsRule_120 (by decide) ?_
        refine z_icmp_ne (tgt := 148) hx hb (by omega) (by omega) rdX12_readsRule_122 (by decide) (fun c352 => ?_) (fun c352 => False.elim (by omega))
        refine lv_iload_n hx hb rdX12_readsRule_148 rfl (lv_at hl 0 rfl) ?_
        refine k_Si F w (As := [.int (zI 9)]) (rest := []) (t_hasSide (z := 9) (by omega)) rgs_X12_137 rhs_X12_hasSide ⟨(Nat.le_of_ble_eq_true rfl), (Nat.le_of_ble_eq_true rfl)⟩ hl.1 rfl (Nat.le_of_ble_eq_true rfl) ⟨Nat.zero_le _, Nat.zero_le _⟩ rdX12_readsRule_149 (fun r Ma354 H locs hp w => ?_)
        rcases hp with ⟨⟨hb353, rfl⟩ | ⟨hb353, rfl⟩, hMe⟩
        · exact absurd hb353 (by omega)
        · rw [hMe] at w
          refine z_if_eq (tgt := 169) hx hb (by omega) rdX12_readsRule_152 (by decide) (fun c355 => ?_) (fun c355 => False.elim (by omega))
          refine lv_iload_n hx hb rdX12_readsRule_169 rfl (lv_at hl 0 rfl) ?_
          refine lv_iconst (v := zI 3) hx hb rdX12_readsRule_170 rfl ?_
          refine z_icmp_eq (tgt := 180) hx hb (by omega) (by omega) rdX12_readsRule_171 (by decide) (fun c356 => False.elim (by omega)) (fun c356 => ?_)
          refine lv_iload_n hx hb rdX12_readsRule_174 rfl (lv_at hl 0 rfl) ?_
          refine lv_bipush (v := zI 8) hx hb rdX12_readsRule_175 (by decide) ?_
          refine z_icmp_ne (tgt := 194) hx hb (by omega) (by omega) rdX12_readsRule_177 (by decide) (fun c357 => ?_) (fun c357 => False.elim (by omega))
          refine lv_iload_n hx hb rdX12_readsRule_194 rfl (lv_at hl 0 rfl) ?_
          refine lv_iconst (v := zI 1) hx hb rdX12_readsRule_195 rfl ?_
          refine z_icmp_ne (tgt := 209) hx hb (by omega) (by omega) rdX12_readsRule_196 (by decide) (fun c358 => ?_) (fun c358 => False.elim (by omega))
          have Yq359 : YS (st Ma351 153 2 (zI vn350)) T tn (rdC T tn 11 13 2 (rdV T tn b)) := hSn350 2
          have Fq359 : FrY (st Ma351 153 2 (zI vn350)) M := FrY.o hFn350
          generalize (st Ma351 153 2 (zI vn350)) = Mzq359 at w Yq359 Fq359
          have hGf := Yq359.1.1
          have eP : rdP T tn ((rdV T tn b).2.2 0) (rdV T tn b) = (rdC T tn 11 13 2 (rdV T tn b)) := ((rdP_o (by omega)).trans (rdK_9 (by omega)))
          refine lv_aload_n hx hb rdX12_readsRule_209 rfl (lv_at hl 1 rfl) ?_
          refine f_12_16 F w (a := 146) rfl rtb_139 rdX12_readsRule_210 ?_
          refine r_val (v := (zI (1 - ((Prod.fst (rdC T tn 11 13 2 (rdV T tn b)) : Nat) : Int)))) (Yq359.2.2.2.2.1) ?_
          refine z_if_ne (tgt := 236) hx hb (by omega) rdX12_readsRule_213 (by decide) (fun c360 => ?_) (fun c360 => ?_)
          · have hGi := Yq359.1.1
            refine lv_aload_n hx hb rdX12_readsRule_236 rfl (lv_at hl 1 rfl) ?_
            refine f_12_16 F w (a := 146) rfl rtb_139 rdX12_readsRule_237 ?_
            refine r_val (v := (zI (1 - ((Prod.fst (rdC T tn 11 13 2 (rdV T tn b)) : Nat) : Int)))) (Yq359.2.2.2.2.1) ?_
            refine z_if_eq (tgt := 244) hx hb (by omega) rdX12_readsRule_240 (by decide) (fun c361 => False.elim (by omega)) (fun c361 => ?_)
            exact e_v F w hr hlocks ⟨YS.e Yq359 ((rdR_1 gV (by rw [eP]; omega)).trans eP), Fq359⟩ rdX12_readsRule_243
          · refine lv_iload_n hx hb rdX12_readsRule_216 rfl (lv_at hl 0 rfl) ?_
            refine k_Si F w (As := [.int (zI 9)]) (rest := []) (t_isBySyllables (z := 9) (by omega)) rgs_X12_140 rhs_X12_isBySyllables ⟨(Nat.le_of_ble_eq_true rfl), (Nat.le_of_ble_eq_true rfl)⟩ hl.1 rfl (Nat.le_of_ble_eq_true rfl) ⟨Nat.zero_le _, Nat.zero_le _⟩ rdX12_readsRule_217 (fun r Ma363 H locs hp w => ?_)
            rcases hp with ⟨⟨hb362, rfl⟩ | ⟨hb362, rfl⟩, hMe⟩
            · rw [hMe] at w
              refine z_if_ne (tgt := 236) hx hb (by omega) rdX12_readsRule_220 (by decide) (fun c364 => ?_) (fun c364 => False.elim (by omega))
              have hGi := Yq359.1.1
              refine lv_aload_n hx hb rdX12_readsRule_236 rfl (lv_at hl 1 rfl) ?_
              refine f_12_16 F w (a := 146) rfl rtb_139 rdX12_readsRule_237 ?_
              refine r_val (v := (zI (1 - ((Prod.fst (rdC T tn 11 13 2 (rdV T tn b)) : Nat) : Int)))) (Yq359.2.2.2.2.1) ?_
              refine z_if_eq (tgt := 244) hx hb (by omega) rdX12_readsRule_240 (by decide) (fun c365 => ?_) (fun c365 => False.elim (by omega))
              refine lv_aload_n hx hb rdX12_readsRule_244 rfl (lv_at hl 1 rfl) ?_
              refine f_12_13 F w (a := 146) rfl rtb_127 rdX12_readsRule_245 ?_
              have htl365 := tok_le T tn (Prod.fst (Prod.snd (rdC T tn 11 13 2 (rdV T tn b))))
              refine r_val (v := (zI (((tok T tn (Prod.fst (Prod.snd (rdC T tn 11 13 2 (rdV T tn b))))) : Nat) : Int))) (Yq359.2.2.2.1.2.2.2.1) ?_
              refine lv_iconst (v := zI 3) hx hb rdX12_readsRule_248 rfl ?_
              refine z_icmp_ne (tgt := 259) hx hb (by omega) (by omega) rdX12_readsRule_249 (by decide) (fun c366 => ?_) (fun c366 => ?_)
              · refine lv_aload_n hx hb rdX12_readsRule_259 rfl (lv_at hl 1 rfl) ?_
                refine lv_iconst (v := zI 1) hx hb rdX12_readsRule_260 rfl ?_
                refine u_12_16 F w (a := 146) rfl (by decide) (by decide) rtb_139 rdX12_readsRule_261 (fun H locs w => ?_)
                exact e_v F w hr hlocks ⟨YS.e (YS.bad Yq359) (rdR_I gV (by rw [eP]; exact rdI_n (Or.inr (Or.inl (by omega)))) (rdS_n (by omega) (fun q9 => absurd (tok_3.mpr q9) (by omega)))), FrY.t Fq359⟩ rdX12_readsRule_264
              · refine lv_aload_n hx hb rdX12_readsRule_252 rfl (lv_at hl 1 rfl) ?_
                refine k_Vv F w (As := []) (rest := []) (a := 146) (kd_lt (a := 146) (show kd 146 = (12, 0, 0) from rfl) (by decide)) (sh_12 rfl _ _) rfl (t_goesOn hT Yq359.2.1 Yq359.2.2.1 (E := en T tn (Prod.fst (Prod.snd (rdC T tn 11 13 2 (rdV T tn b))))) (wa := tok T tn (Prod.fst (Prod.snd (rdC T tn 11 13 2 (rdV T tn b))))) (en_le Yq359.2.2.2.1.1).2.1 Yq359.2.2.2.1.2.2.1 Yq359.2.2.2.1.2.2.2.1 (tok_le T tn _) (tok_w Yq359.2.2.2.1.1 (Or.inr (Or.inr (by omega))))) rgv_X12_221 rhv_X12_goesOn ⟨(Nat.le_of_ble_eq_true rfl), (Nat.le_of_ble_eq_true rfl)⟩ hl.1 rfl (Nat.le_of_ble_eq_true rfl) ⟨Nat.zero_le _, Nat.zero_le _⟩ rdX12_readsRule_253 (fun Ma368 H locs hp w => ?_)
                rcases hp with ⟨hRn367, hGn367⟩
                have hYn367 := YS.go Yq359 (by omega) hRn367 hGn367
                have hFn367 : FrY Ma368 M := FrY.tr Fq359 (FrY.w (FrW.g hGn367))
                refine lv_goto (tgt := 264) hx hb rdX12_readsRule_256 (by decide) ?_
                exact e_v F w hr hlocks ⟨YS.e hYn367 (rdR_I gV (by rw [eP]; exact rdI_n (Or.inr (Or.inl (by omega)))) (rdS_y (by omega) (tok_3.mp (by omega)).1 (tok_3.mp (by omega)).2)), hFn367⟩ rdX12_readsRule_264
            · exact absurd hb362 (by omega)
  · rw [hMe] at w
    refine z_if_eq (tgt := 56) hx hb (by omega) rdX12_readsRule_42 (by decide) (fun c369 => ?_) (fun c369 => False.elim (by omega))
    have eq370 : (rdO T tn 0 1 (1, b, P0)) = (1, b, P0) := rdO_n hb25
    have Yq370 : YS Mz0 T tn (rdO T tn 0 1 (1, b, P0)) := YS.e Y0 eq370
    refine lv_aload_n hx hb rdX12_readsRule_56 rfl (lv_at hl 1 rfl) ?_
    refine lv_iconst (v := zI 1) hx hb rdX12_readsRule_57 rfl ?_
    refine lv_bipush (v := zI 10) hx hb rdX12_readsRule_58 (by decide) ?_
    refine k_Vi F w (As := [.int (zI 1), .int (zI 10)]) (rest := []) (a := 146) (kd_lt (a := 146) (show kd 146 = (12, 0, 0) from rfl) (by decide)) (sh_12 rfl _ _) rfl (t_needs hT (x := (rdO T tn 0 1 (1, b, P0))) Yq370 (lo := 1) (hi := 10) (by decide) (by decide)) rgv_X12_227 rhv_X12_needs ⟨(Nat.le_of_ble_eq_true rfl), (Nat.le_of_ble_eq_true rfl)⟩ hl.1 rfl (Nat.le_of_ble_eq_true rfl) ⟨Nat.zero_le _, Nat.zero_le _⟩ rdX12_readsRule_60 (fun r Ma372 H locs hp w => ?_)
    rcases hp with ⟨vn371, rfl, hFn371, hVn371, hBn371, -, hSn371, hWn371⟩
    have hFn371 : FrY Ma372 M := FrY.tr F0y (FrY.w hFn371)
    have hV : YS (st Ma372 153 0 (zI vn371)) T tn (rdV T tn b) := hSn371 0
    rcases hV.1.1 with gV | gV
    · have hv0 : vn371 = 0 := by have h1 := rdC_f rdO_1 gV; rcases hVn371 with h2 | h2; exact h2; omega
      clear hVn371
      subst hv0
      refine lv_istore_n (lv' := [(1, .int (zI 0)), (0, .ref (B + 146))]) hx hb rdX12_readsRule_63 rfl hl (by decide) rfl (fun ls hl => ?_)
      refine lv_aload_n hx hb rdX12_readsRule_64 rfl (lv_at hl 1 rfl) ?_
      refine f_12_17 F w (a := 146) rfl rtb_146 rdX12_readsRule_65 ?_
      refine lv_iconst (v := zI 0) hx hb rdX12_readsRule_68 rfl ?_
      refine lv_iload_n hx hb rdX12_readsRule_69 rfl (lv_at hl 0 rfl) ?_
      refine g_iast F w (a := 153) rfl (j := 0) ⟨by decide, by decide⟩ (by omega) rdX12_readsRule_70 (fun H locs w => ?_)
      refine lv_iload_n hx hb rdX12_readsRule_71 rfl (lv_at hl 0 rfl) ?_
      refine lv_bipush (v := zI 8) hx hb rdX12_readsRule_72 (by decide) ?_
      refine z_icmp_ne (tgt := 90) hx hb (by omega) (by omega) rdX12_readsRule_74 (by decide) (fun c373 => ?_) (fun c373 => False.elim (by omega))
      refine lv_iload_n hx hb rdX12_readsRule_90 rfl (lv_at hl 0 rfl) ?_
      refine z_if_eq (tgt := 119) hx hb (by omega) rdX12_readsRule_91 (by decide) (fun c374 => ?_) (fun c374 => False.elim (by omega))
      refine lv_iload_n hx hb rdX12_readsRule_119 rfl (lv_at hl 0 rfl) ?_
      refine lv_bipush (v := zI 7) hx hb rdX12_readsRule_120 (by decide) ?_
      refine z_icmp_ne (tgt := 148) hx hb (by omega) (by omega) rdX12_readsRule_122 (by decide) (fun c375 => ?_) (fun c375 => False.elim (by omega))
      refine lv_iload_n hx hb rdX12_readsRule_148 rfl (lv_at hl 0 rfl) ?_
      refine k_Si F w (As := [.int (zI 0)]) (rest := []) (t_hasSide (z := 0) (by omega)) rgs_X12_137 rhs_X12_hasSide ⟨(Nat.le_of_ble_eq_true rfl), (Nat.le_of_ble_eq_true rfl)⟩ hl.1 rfl (Nat.le_of_ble_eq_true rfl) ⟨Nat.zero_le _, Nat.zero_le _⟩ rdX12_readsRule_149 (fun r Ma377 H locs hp w => ?_)
      rcases hp with ⟨⟨hb376, rfl⟩ | ⟨hb376, rfl⟩, hMe⟩
      · rw [hMe] at w
        refine z_if_eq (tgt := 169) hx hb (by omega) rdX12_readsRule_152 (by decide) (fun c378 => False.elim (by omega)) (fun c378 => ?_)
        refine lv_aload_n hx hb rdX12_readsRule_155 rfl (lv_at hl 1 rfl) ?_
        refine f_12_17 F w (a := 146) rfl rtb_146 rdX12_readsRule_156 ?_
        refine lv_iconst (v := zI 4) hx hb rdX12_readsRule_159 rfl ?_
        refine lv_aload_n hx hb rdX12_readsRule_160 rfl (lv_at hl 1 rfl) ?_
        refine lv_bipush (v := zI 15) hx hb rdX12_readsRule_161 (by decide) ?_
        refine lv_bipush (v := zI 16) hx hb rdX12_readsRule_163 (by decide) ?_
        have Yq379 : YS (st Ma372 153 0 (zI 0)) T tn (rdV T tn b) := hV
        have Fq379 : FrY (st Ma372 153 0 (zI 0)) M := FrY.o hFn371
        generalize (st Ma372 153 0 (zI 0)) = Mzq379 at w Yq379 Fq379
        refine k_Vi F w (As := [.int (zI 15), .int (zI 16)]) (rest := [.int (zI 4), .ref (B + 153)]) (a := 146) (kd_lt (a := 146) (show kd 146 = (12, 0, 0) from rfl) (by decide)) (sh_12 rfl _ _) rfl (t_needs hT (x := (rdV T tn b)) Yq379 (lo := 15) (hi := 16) (by decide) (by decide)) rgv_X12_227 rhv_X12_needs ⟨(Nat.le_of_ble_eq_true rfl), (Nat.le_of_ble_eq_true rfl)⟩ hl.1 rfl (Nat.le_of_ble_eq_true rfl) ⟨Nat.zero_le _, Nat.zero_le _⟩ rdX12_readsRule_165 (fun r Ma381 H locs hp w => ?_)
        rcases hp with ⟨vn380, rfl, hFn380, -, -, -, hSn380, hWn380⟩
        have hFn380 : FrY Ma381 M := FrY.tr Fq379 (FrY.w hFn380)
        refine g_iast F w (a := 153) rfl (j := 4) ⟨by decide, by decide⟩ (by omega) rdX12_readsRule_168 (fun H locs w => ?_)
        refine lv_iload_n hx hb rdX12_readsRule_169 rfl (lv_at hl 0 rfl) ?_
        refine lv_iconst (v := zI 3) hx hb rdX12_readsRule_170 rfl ?_
        refine z_icmp_eq (tgt := 180) hx hb (by omega) (by omega) rdX12_readsRule_171 (by decide) (fun c382 => False.elim (by omega)) (fun c382 => ?_)
        refine lv_iload_n hx hb rdX12_readsRule_174 rfl (lv_at hl 0 rfl) ?_
        refine lv_bipush (v := zI 8) hx hb rdX12_readsRule_175 (by decide) ?_
        refine z_icmp_ne (tgt := 194) hx hb (by omega) (by omega) rdX12_readsRule_177 (by decide) (fun c383 => ?_) (fun c383 => False.elim (by omega))
        refine lv_iload_n hx hb rdX12_readsRule_194 rfl (lv_at hl 0 rfl) ?_
        refine lv_iconst (v := zI 1) hx hb rdX12_readsRule_195 rfl ?_
        refine z_icmp_ne (tgt := 209) hx hb (by omega) (by omega) rdX12_readsRule_196 (by decide) (fun c384 => ?_) (fun c384 => False.elim (by omega))
        have Yq385 : YS (st Ma381 153 4 (zI vn380)) T tn (rdC T tn 15 16 4 (rdV T tn b)) := hSn380 4
        have Fq385 : FrY (st Ma381 153 4 (zI vn380)) M := FrY.o hFn380
        generalize (st Ma381 153 4 (zI vn380)) = Mzq385 at w Yq385 Fq385
        have hGf := Yq385.1.1
        have hG0 : Prod.fst (rdC T tn 15 16 4 (rdV T tn b)) = 0 := by rw [rdC_0 gV]; exact gV
        refine lv_aload_n hx hb rdX12_readsRule_209 rfl (lv_at hl 1 rfl) ?_
        refine f_12_16 F w (a := 146) rfl rtb_139 rdX12_readsRule_210 ?_
        refine r_val (v := (zI (1 - ((Prod.fst (rdC T tn 15 16 4 (rdV T tn b)) : Nat) : Int)))) (Yq385.2.2.2.2.1) ?_
        refine z_if_ne (tgt := 236) hx hb (by omega) rdX12_readsRule_213 (by decide) (fun c386 => ?_) (fun c386 => False.elim (by omega))
        have hGi := Yq385.1.1
        refine lv_aload_n hx hb rdX12_readsRule_236 rfl (lv_at hl 1 rfl) ?_
        refine f_12_16 F w (a := 146) rfl rtb_139 rdX12_readsRule_237 ?_
        refine r_val (v := (zI (1 - ((Prod.fst (rdC T tn 15 16 4 (rdV T tn b)) : Nat) : Int)))) (Yq385.2.2.2.2.1) ?_
        refine z_if_eq (tgt := 244) hx hb (by omega) rdX12_readsRule_240 (by decide) (fun c387 => False.elim (by omega)) (fun c387 => ?_)
        exact e_v F w hr hlocks ⟨YS.e Yq385 ((rdR_0 gV).trans (rdC_0 gV).symm), Fq385⟩ rdX12_readsRule_243
      · exact absurd hb376 (by omega)
    · have hvv := rdV_v gV
      have hve : vn371 = (rdV T tn b).2.2 0 := hV.row (by decide) gV (by omega) (by omega)
      clear hVn371
      rcases (show vn371 = 0 ∨ vn371 = 1 ∨ vn371 = 2 ∨ vn371 = 3 ∨ vn371 = 4 ∨ vn371 = 5 ∨ vn371 = 6 ∨ vn371 = 7 ∨ vn371 = 8 ∨ vn371 = 9 by omega) with c9 | c9 | c9 | c9 | c9 | c9 | c9 | c9 | c9 | c9
      · subst c9
        refine lv_istore_n (lv' := [(1, .int (zI 0)), (0, .ref (B + 146))]) hx hb rdX12_readsRule_63 rfl hl (by decide) rfl (fun ls hl => ?_)
        refine lv_aload_n hx hb rdX12_readsRule_64 rfl (lv_at hl 1 rfl) ?_
        refine f_12_17 F w (a := 146) rfl rtb_146 rdX12_readsRule_65 ?_
        refine lv_iconst (v := zI 0) hx hb rdX12_readsRule_68 rfl ?_
        refine lv_iload_n hx hb rdX12_readsRule_69 rfl (lv_at hl 0 rfl) ?_
        refine g_iast F w (a := 153) rfl (j := 0) ⟨by decide, by decide⟩ (by omega) rdX12_readsRule_70 (fun H locs w => ?_)
        refine lv_iload_n hx hb rdX12_readsRule_71 rfl (lv_at hl 0 rfl) ?_
        refine lv_bipush (v := zI 8) hx hb rdX12_readsRule_72 (by decide) ?_
        refine z_icmp_ne (tgt := 90) hx hb (by omega) (by omega) rdX12_readsRule_74 (by decide) (fun c388 => ?_) (fun c388 => False.elim (by omega))
        refine lv_iload_n hx hb rdX12_readsRule_90 rfl (lv_at hl 0 rfl) ?_
        refine z_if_eq (tgt := 119) hx hb (by omega) rdX12_readsRule_91 (by decide) (fun c389 => ?_) (fun c389 => False.elim (by omega))
        refine lv_iload_n hx hb rdX12_readsRule_119 rfl (lv_at hl 0 rfl) ?_
        refine lv_bipush (v := zI 7) hx hb rdX12_readsRule_120 (by decide) ?_
        refine z_icmp_ne (tgt := 148) hx hb (by omega) (by omega) rdX12_readsRule_122 (by decide) (fun c390 => ?_) (fun c390 => False.elim (by omega))
        refine lv_iload_n hx hb rdX12_readsRule_148 rfl (lv_at hl 0 rfl) ?_
        refine k_Si F w (As := [.int (zI 0)]) (rest := []) (t_hasSide (z := 0) (by omega)) rgs_X12_137 rhs_X12_hasSide ⟨(Nat.le_of_ble_eq_true rfl), (Nat.le_of_ble_eq_true rfl)⟩ hl.1 rfl (Nat.le_of_ble_eq_true rfl) ⟨Nat.zero_le _, Nat.zero_le _⟩ rdX12_readsRule_149 (fun r Ma392 H locs hp w => ?_)
        rcases hp with ⟨⟨hb391, rfl⟩ | ⟨hb391, rfl⟩, hMe⟩
        · rw [hMe] at w
          refine z_if_eq (tgt := 169) hx hb (by omega) rdX12_readsRule_152 (by decide) (fun c393 => False.elim (by omega)) (fun c393 => ?_)
          refine lv_aload_n hx hb rdX12_readsRule_155 rfl (lv_at hl 1 rfl) ?_
          refine f_12_17 F w (a := 146) rfl rtb_146 rdX12_readsRule_156 ?_
          refine lv_iconst (v := zI 4) hx hb rdX12_readsRule_159 rfl ?_
          refine lv_aload_n hx hb rdX12_readsRule_160 rfl (lv_at hl 1 rfl) ?_
          refine lv_bipush (v := zI 15) hx hb rdX12_readsRule_161 (by decide) ?_
          refine lv_bipush (v := zI 16) hx hb rdX12_readsRule_163 (by decide) ?_
          have Yq394 : YS (st Ma372 153 0 (zI 0)) T tn (rdV T tn b) := hV
          have Fq394 : FrY (st Ma372 153 0 (zI 0)) M := FrY.o hFn371
          generalize (st Ma372 153 0 (zI 0)) = Mzq394 at w Yq394 Fq394
          refine k_Vi F w (As := [.int (zI 15), .int (zI 16)]) (rest := [.int (zI 4), .ref (B + 153)]) (a := 146) (kd_lt (a := 146) (show kd 146 = (12, 0, 0) from rfl) (by decide)) (sh_12 rfl _ _) rfl (t_needs hT (x := (rdV T tn b)) Yq394 (lo := 15) (hi := 16) (by decide) (by decide)) rgv_X12_227 rhv_X12_needs ⟨(Nat.le_of_ble_eq_true rfl), (Nat.le_of_ble_eq_true rfl)⟩ hl.1 rfl (Nat.le_of_ble_eq_true rfl) ⟨Nat.zero_le _, Nat.zero_le _⟩ rdX12_readsRule_165 (fun r Ma396 H locs hp w => ?_)
          rcases hp with ⟨vn395, rfl, hFn395, -, -, -, hSn395, hWn395⟩
          have hFn395 : FrY Ma396 M := FrY.tr Fq394 (FrY.w hFn395)
          refine g_iast F w (a := 153) rfl (j := 4) ⟨by decide, by decide⟩ (by omega) rdX12_readsRule_168 (fun H locs w => ?_)
          refine lv_iload_n hx hb rdX12_readsRule_169 rfl (lv_at hl 0 rfl) ?_
          refine lv_iconst (v := zI 3) hx hb rdX12_readsRule_170 rfl ?_
          refine z_icmp_eq (tgt := 180) hx hb (by omega) (by omega) rdX12_readsRule_171 (by decide) (fun c397 => False.elim (by omega)) (fun c397 => ?_)
          refine lv_iload_n hx hb rdX12_readsRule_174 rfl (lv_at hl 0 rfl) ?_
          refine lv_bipush (v := zI 8) hx hb rdX12_readsRule_175 (by decide) ?_
          refine z_icmp_ne (tgt := 194) hx hb (by omega) (by omega) rdX12_readsRule_177 (by decide) (fun c398 => ?_) (fun c398 => False.elim (by omega))
          refine lv_iload_n hx hb rdX12_readsRule_194 rfl (lv_at hl 0 rfl) ?_
          refine lv_iconst (v := zI 1) hx hb rdX12_readsRule_195 rfl ?_
          refine z_icmp_ne (tgt := 209) hx hb (by omega) (by omega) rdX12_readsRule_196 (by decide) (fun c399 => ?_) (fun c399 => False.elim (by omega))
          have Yq400 : YS (st Ma396 153 4 (zI vn395)) T tn (rdC T tn 15 16 4 (rdV T tn b)) := hSn395 4
          have Fq400 : FrY (st Ma396 153 4 (zI vn395)) M := FrY.o hFn395
          generalize (st Ma396 153 4 (zI vn395)) = Mzq400 at w Yq400 Fq400
          have hGf := Yq400.1.1
          have eP : rdP T tn ((rdV T tn b).2.2 0) (rdV T tn b) = (rdC T tn 15 16 4 (rdV T tn b)) := ((rdP_0 (by omega)).trans (by rw [rdK_0 (by omega)]))
          refine lv_aload_n hx hb rdX12_readsRule_209 rfl (lv_at hl 1 rfl) ?_
          refine f_12_16 F w (a := 146) rfl rtb_139 rdX12_readsRule_210 ?_
          refine r_val (v := (zI (1 - ((Prod.fst (rdC T tn 15 16 4 (rdV T tn b)) : Nat) : Int)))) (Yq400.2.2.2.2.1) ?_
          refine z_if_ne (tgt := 236) hx hb (by omega) rdX12_readsRule_213 (by decide) (fun c401 => ?_) (fun c401 => ?_)
          · have hGi := Yq400.1.1
            refine lv_aload_n hx hb rdX12_readsRule_236 rfl (lv_at hl 1 rfl) ?_
            refine f_12_16 F w (a := 146) rfl rtb_139 rdX12_readsRule_237 ?_
            refine r_val (v := (zI (1 - ((Prod.fst (rdC T tn 15 16 4 (rdV T tn b)) : Nat) : Int)))) (Yq400.2.2.2.2.1) ?_
            refine z_if_eq (tgt := 244) hx hb (by omega) rdX12_readsRule_240 (by decide) (fun c402 => False.elim (by omega)) (fun c402 => ?_)
            exact e_v F w hr hlocks ⟨YS.e Yq400 ((rdR_1 gV (by rw [eP]; omega)).trans eP), Fq400⟩ rdX12_readsRule_243
          · refine lv_iload_n hx hb rdX12_readsRule_216 rfl (lv_at hl 0 rfl) ?_
            refine k_Si F w (As := [.int (zI 0)]) (rest := []) (t_isBySyllables (z := 0) (by omega)) rgs_X12_140 rhs_X12_isBySyllables ⟨(Nat.le_of_ble_eq_true rfl), (Nat.le_of_ble_eq_true rfl)⟩ hl.1 rfl (Nat.le_of_ble_eq_true rfl) ⟨Nat.zero_le _, Nat.zero_le _⟩ rdX12_readsRule_217 (fun r Ma404 H locs hp w => ?_)
            rcases hp with ⟨⟨hb403, rfl⟩ | ⟨hb403, rfl⟩, hMe⟩
            · rw [hMe] at w
              refine z_if_ne (tgt := 236) hx hb (by omega) rdX12_readsRule_220 (by decide) (fun c405 => ?_) (fun c405 => False.elim (by omega))
              have hGi := Yq400.1.1
              refine lv_aload_n hx hb rdX12_readsRule_236 rfl (lv_at hl 1 rfl) ?_
              refine f_12_16 F w (a := 146) rfl rtb_139 rdX12_readsRule_237 ?_
              refine r_val (v := (zI (1 - ((Prod.fst (rdC T tn 15 16 4 (rdV T tn b)) : Nat) : Int)))) (Yq400.2.2.2.2.1) ?_
              refine z_if_eq (tgt := 244) hx hb (by omega) rdX12_readsRule_240 (by decide) (fun c406 => ?_) (fun c406 => False.elim (by omega))
              refine lv_aload_n hx hb rdX12_readsRule_244 rfl (lv_at hl 1 rfl) ?_
              refine f_12_13 F w (a := 146) rfl rtb_127 rdX12_readsRule_245 ?_
              have htl406 := tok_le T tn (Prod.fst (Prod.snd (rdC T tn 15 16 4 (rdV T tn b))))
              refine r_val (v := (zI (((tok T tn (Prod.fst (Prod.snd (rdC T tn 15 16 4 (rdV T tn b))))) : Nat) : Int))) (Yq400.2.2.2.1.2.2.2.1) ?_
              refine lv_iconst (v := zI 3) hx hb rdX12_readsRule_248 rfl ?_
              refine z_icmp_ne (tgt := 259) hx hb (by omega) (by omega) rdX12_readsRule_249 (by decide) (fun c407 => ?_) (fun c407 => ?_)
              · refine lv_aload_n hx hb rdX12_readsRule_259 rfl (lv_at hl 1 rfl) ?_
                refine lv_iconst (v := zI 1) hx hb rdX12_readsRule_260 rfl ?_
                refine u_12_16 F w (a := 146) rfl (by decide) (by decide) rtb_139 rdX12_readsRule_261 (fun H locs w => ?_)
                exact e_v F w hr hlocks ⟨YS.e (YS.bad Yq400) (rdR_I gV (by rw [eP]; exact rdI_n (Or.inr (Or.inl (by omega)))) (rdS_n (by omega) (fun q9 => absurd (tok_3.mpr q9) (by omega)))), FrY.t Fq400⟩ rdX12_readsRule_264
              · refine lv_aload_n hx hb rdX12_readsRule_252 rfl (lv_at hl 1 rfl) ?_
                refine k_Vv F w (As := []) (rest := []) (a := 146) (kd_lt (a := 146) (show kd 146 = (12, 0, 0) from rfl) (by decide)) (sh_12 rfl _ _) rfl (t_goesOn hT Yq400.2.1 Yq400.2.2.1 (E := en T tn (Prod.fst (Prod.snd (rdC T tn 15 16 4 (rdV T tn b))))) (wa := tok T tn (Prod.fst (Prod.snd (rdC T tn 15 16 4 (rdV T tn b))))) (en_le Yq400.2.2.2.1.1).2.1 Yq400.2.2.2.1.2.2.1 Yq400.2.2.2.1.2.2.2.1 (tok_le T tn _) (tok_w Yq400.2.2.2.1.1 (Or.inr (Or.inr (by omega))))) rgv_X12_221 rhv_X12_goesOn ⟨(Nat.le_of_ble_eq_true rfl), (Nat.le_of_ble_eq_true rfl)⟩ hl.1 rfl (Nat.le_of_ble_eq_true rfl) ⟨Nat.zero_le _, Nat.zero_le _⟩ rdX12_readsRule_253 (fun Ma409 H locs hp w => ?_)
                rcases hp with ⟨hRn408, hGn408⟩
                have hYn408 := YS.go Yq400 (by omega) hRn408 hGn408
                have hFn408 : FrY Ma409 M := FrY.tr Fq400 (FrY.w (FrW.g hGn408))
                refine lv_goto (tgt := 264) hx hb rdX12_readsRule_256 (by decide) ?_
                exact e_v F w hr hlocks ⟨YS.e hYn408 (rdR_I gV (by rw [eP]; exact rdI_n (Or.inr (Or.inl (by omega)))) (rdS_y (by omega) (tok_3.mp (by omega)).1 (tok_3.mp (by omega)).2)), hFn408⟩ rdX12_readsRule_264
            · exact absurd hb403 (by omega)
        · exact absurd hb391 (by omega)
      · subst c9
        refine lv_istore_n (lv' := [(1, .int (zI 1)), (0, .ref (B + 146))]) hx hb rdX12_readsRule_63 rfl hl (by decide) rfl (fun ls hl => ?_)
        refine lv_aload_n hx hb rdX12_readsRule_64 rfl (lv_at hl 1 rfl) ?_
        refine f_12_17 F w (a := 146) rfl rtb_146 rdX12_readsRule_65 ?_
        refine lv_iconst (v := zI 0) hx hb rdX12_readsRule_68 rfl ?_
        refine lv_iload_n hx hb rdX12_readsRule_69 rfl (lv_at hl 0 rfl) ?_
        refine g_iast F w (a := 153) rfl (j := 0) ⟨by decide, by decide⟩ (by omega) rdX12_readsRule_70 (fun H locs w => ?_)
        refine lv_iload_n hx hb rdX12_readsRule_71 rfl (lv_at hl 0 rfl) ?_
        refine lv_bipush (v := zI 8) hx hb rdX12_readsRule_72 (by decide) ?_
        refine z_icmp_ne (tgt := 90) hx hb (by omega) (by omega) rdX12_readsRule_74 (by decide) (fun c410 => ?_) (fun c410 => False.elim (by omega))
        refine lv_iload_n hx hb rdX12_readsRule_90 rfl (lv_at hl 0 rfl) ?_
        refine z_if_eq (tgt := 119) hx hb (by omega) rdX12_readsRule_91 (by decide) (fun c411 => False.elim (by omega)) (fun c411 => ?_)
        refine lv_aload_n hx hb rdX12_readsRule_94 rfl (lv_at hl 1 rfl) ?_
        refine f_12_17 F w (a := 146) rfl rtb_146 rdX12_readsRule_95 ?_
        refine lv_iconst (v := zI 2) hx hb rdX12_readsRule_98 rfl ?_
        refine lv_aload_n hx hb rdX12_readsRule_99 rfl (lv_at hl 1 rfl) ?_
        refine lv_bipush (v := zI 11) hx hb rdX12_readsRule_100 (by decide) ?_
        refine lv_iload_n hx hb rdX12_readsRule_102 rfl (lv_at hl 0 rfl) ?_
        refine lv_bipush (v := zI 9) hx hb rdX12_readsRule_103 (by decide) ?_
        refine z_icmp_ne (tgt := 113) hx hb (by omega) (by omega) rdX12_readsRule_105 (by decide) (fun c412 => ?_) (fun c412 => False.elim (by omega))
        refine lv_bipush (v := zI 14) hx hb rdX12_readsRule_113 (by decide) ?_
        have Yq413 : YS (st Ma372 153 0 (zI 1)) T tn (rdV T tn b) := hV
        have Fq413 : FrY (st Ma372 153 0 (zI 1)) M := FrY.o hFn371
        generalize (st Ma372 153 0 (zI 1)) = Mzq413 at w Yq413 Fq413
        refine k_Vi F w (As := [.int (zI 11), .int (zI 14)]) (rest := [.int (zI 2), .ref (B + 153)]) (a := 146) (kd_lt (a := 146) (show kd 146 = (12, 0, 0) from rfl) (by decide)) (sh_12 rfl _ _) rfl (t_needs hT (x := (rdV T tn b)) Yq413 (lo := 11) (hi := 14) (by decide) (by decide)) rgv_X12_227 rhv_X12_needs ⟨(Nat.le_of_ble_eq_true rfl), (Nat.le_of_ble_eq_true rfl)⟩ hl.1 rfl (Nat.le_of_ble_eq_true rfl) ⟨Nat.zero_le _, Nat.zero_le _⟩ rdX12_readsRule_115 (fun r Ma415 H locs hp w => ?_)
        rcases hp with ⟨vn414, rfl, hFn414, -, -, -, hSn414, hWn414⟩
        have hFn414 : FrY Ma415 M := FrY.tr Fq413 (FrY.w hFn414)
        refine g_iast F w (a := 153) rfl (j := 2) ⟨by decide, by decide⟩ (by omega) rdX12_readsRule_118 (fun H locs w => ?_)
        refine lv_iload_n hx hb rdX12_readsRule_119 rfl (lv_at hl 0 rfl) ?_
        refine lv_bipush (v := zI 7) hx hb rdX12_readsRule_120 (by decide) ?_
        refine z_icmp_ne (tgt := 148) hx hb (by omega) (by omega) rdX12_readsRule_122 (by decide) (fun c416 => ?_) (fun c416 => False.elim (by omega))
        refine lv_iload_n hx hb rdX12_readsRule_148 rfl (lv_at hl 0 rfl) ?_
        refine k_Si F w (As := [.int (zI 1)]) (rest := []) (t_hasSide (z := 1) (by omega)) rgs_X12_137 rhs_X12_hasSide ⟨(Nat.le_of_ble_eq_true rfl), (Nat.le_of_ble_eq_true rfl)⟩ hl.1 rfl (Nat.le_of_ble_eq_true rfl) ⟨Nat.zero_le _, Nat.zero_le _⟩ rdX12_readsRule_149 (fun r Ma418 H locs hp w => ?_)
        rcases hp with ⟨⟨hb417, rfl⟩ | ⟨hb417, rfl⟩, hMe⟩
        · rw [hMe] at w
          refine z_if_eq (tgt := 169) hx hb (by omega) rdX12_readsRule_152 (by decide) (fun c419 => False.elim (by omega)) (fun c419 => ?_)
          refine lv_aload_n hx hb rdX12_readsRule_155 rfl (lv_at hl 1 rfl) ?_
          refine f_12_17 F w (a := 146) rfl rtb_146 rdX12_readsRule_156 ?_
          refine lv_iconst (v := zI 4) hx hb rdX12_readsRule_159 rfl ?_
          refine lv_aload_n hx hb rdX12_readsRule_160 rfl (lv_at hl 1 rfl) ?_
          refine lv_bipush (v := zI 15) hx hb rdX12_readsRule_161 (by decide) ?_
          refine lv_bipush (v := zI 16) hx hb rdX12_readsRule_163 (by decide) ?_
          have Yq420 : YS (st Ma415 153 2 (zI vn414)) T tn (rdC T tn 11 14 2 (rdV T tn b)) := hSn414 2
          have Fq420 : FrY (st Ma415 153 2 (zI vn414)) M := FrY.o hFn414
          generalize (st Ma415 153 2 (zI vn414)) = Mzq420 at w Yq420 Fq420
          refine k_Vi F w (As := [.int (zI 15), .int (zI 16)]) (rest := [.int (zI 4), .ref (B + 153)]) (a := 146) (kd_lt (a := 146) (show kd 146 = (12, 0, 0) from rfl) (by decide)) (sh_12 rfl _ _) rfl (t_needs hT (x := (rdC T tn 11 14 2 (rdV T tn b))) Yq420 (lo := 15) (hi := 16) (by decide) (by decide)) rgv_X12_227 rhv_X12_needs ⟨(Nat.le_of_ble_eq_true rfl), (Nat.le_of_ble_eq_true rfl)⟩ hl.1 rfl (Nat.le_of_ble_eq_true rfl) ⟨Nat.zero_le _, Nat.zero_le _⟩ rdX12_readsRule_165 (fun r Ma422 H locs hp w => ?_)
          rcases hp with ⟨vn421, rfl, hFn421, -, -, -, hSn421, hWn421⟩
          have hFn421 : FrY Ma422 M := FrY.tr Fq420 (FrY.w hFn421)
          refine g_iast F w (a := 153) rfl (j := 4) ⟨by decide, by decide⟩ (by omega) rdX12_readsRule_168 (fun H locs w => ?_)
          refine lv_iload_n hx hb rdX12_readsRule_169 rfl (lv_at hl 0 rfl) ?_
          refine lv_iconst (v := zI 3) hx hb rdX12_readsRule_170 rfl ?_
          refine z_icmp_eq (tgt := 180) hx hb (by omega) (by omega) rdX12_readsRule_171 (by decide) (fun c423 => False.elim (by omega)) (fun c423 => ?_)
          refine lv_iload_n hx hb rdX12_readsRule_174 rfl (lv_at hl 0 rfl) ?_
          refine lv_bipush (v := zI 8) hx hb rdX12_readsRule_175 (by decide) ?_
          refine z_icmp_ne (tgt := 194) hx hb (by omega) (by omega) rdX12_readsRule_177 (by decide) (fun c424 => ?_) (fun c424 => False.elim (by omega))
          refine lv_iload_n hx hb rdX12_readsRule_194 rfl (lv_at hl 0 rfl) ?_
          refine lv_iconst (v := zI 1) hx hb rdX12_readsRule_195 rfl ?_
          refine z_icmp_ne (tgt := 209) hx hb (by omega) (by omega) rdX12_readsRule_196 (by decide) (fun c425 => False.elim (by omega)) (fun c425 => ?_)
          refine lv_aload_n hx hb rdX12_readsRule_199 rfl (lv_at hl 1 rfl) ?_
          refine f_12_17 F w (a := 146) rfl rtb_146 rdX12_readsRule_200 ?_
          refine lv_iconst (v := zI 3) hx hb rdX12_readsRule_203 rfl ?_
          refine lv_aload_n hx hb rdX12_readsRule_204 rfl (lv_at hl 1 rfl) ?_
          have Yq426 : YS (st Ma422 153 4 (zI vn421)) T tn (rdC T tn 15 16 4 (rdC T tn 11 14 2 (rdV T tn b))) := hSn421 4
          have Fq426 : FrY (st Ma422 153 4 (zI vn421)) M := FrY.o hFn421
          generalize (st Ma422 153 4 (zI vn421)) = Mzq426 at w Yq426 Fq426
          refine k_Vi F w (As := []) (rest := [.int (zI 3), .ref (B + 153)]) (a := 146) (kd_lt (a := 146) (show kd 146 = (12, 0, 0) from rfl) (by decide)) (sh_12 rfl _ _) rfl (t_needsNumber hT (x := (rdC T tn 15 16 4 (rdC T tn 11 14 2 (rdV T tn b)))) Yq426) rgv_X12_230 rhv_X12_needsNumber ⟨(Nat.le_of_ble_eq_true rfl), (Nat.le_of_ble_eq_true rfl)⟩ hl.1 rfl (Nat.le_of_ble_eq_true rfl) ⟨Nat.zero_le _, Nat.zero_le _⟩ rdX12_readsRule_205 (fun r Ma428 H locs hp w => ?_)
          rcases hp with ⟨vn427, rfl, hFn427, -, hSn427⟩
          have hFn427 : FrY Ma428 M := FrY.tr Fq426 (FrY.w hFn427)
          refine g_iast F w (a := 153) rfl (j := 3) ⟨by decide, by decide⟩ (by omega) rdX12_readsRule_208 (fun H locs w => ?_)
          have Yq429 : YS (st Ma428 153 3 (zI vn427)) T tn (rdN T tn (rdC T tn 15 16 4 (rdC T tn 11 14 2 (rdV T tn b)))) := hSn427
          have Fq429 : FrY (st Ma428 153 3 (zI vn427)) M := FrY.o hFn427
          generalize (st Ma428 153 3 (zI vn427)) = Mzq429 at w Yq429 Fq429
          have hGf := Yq429.1.1
          have eP : rdP T tn ((rdV T tn b).2.2 0) (rdV T tn b) = (rdN T tn (rdC T tn 15 16 4 (rdC T tn 11 14 2 (rdV T tn b)))) := ((rdP_1 (by omega)).trans (by rw [rdK_o (by omega) (by omega)]))
          refine lv_aload_n hx hb rdX12_readsRule_209 rfl (lv_at hl 1 rfl) ?_
          refine f_12_16 F w (a := 146) rfl rtb_139 rdX12_readsRule_210 ?_
          refine r_val (v := (zI (1 - ((Prod.fst (rdN T tn (rdC T tn 15 16 4 (rdC T tn 11 14 2 (rdV T tn b)))) : Nat) : Int)))) (Yq429.2.2.2.2.1) ?_
          refine z_if_ne (tgt := 236) hx hb (by omega) rdX12_readsRule_213 (by decide) (fun c430 => ?_) (fun c430 => ?_)
          · have hGi := Yq429.1.1
            refine lv_aload_n hx hb rdX12_readsRule_236 rfl (lv_at hl 1 rfl) ?_
            refine f_12_16 F w (a := 146) rfl rtb_139 rdX12_readsRule_237 ?_
            refine r_val (v := (zI (1 - ((Prod.fst (rdN T tn (rdC T tn 15 16 4 (rdC T tn 11 14 2 (rdV T tn b)))) : Nat) : Int)))) (Yq429.2.2.2.2.1) ?_
            refine z_if_eq (tgt := 244) hx hb (by omega) rdX12_readsRule_240 (by decide) (fun c431 => False.elim (by omega)) (fun c431 => ?_)
            exact e_v F w hr hlocks ⟨YS.e Yq429 ((rdR_1 gV (by rw [eP]; omega)).trans eP), Fq429⟩ rdX12_readsRule_243
          · refine lv_iload_n hx hb rdX12_readsRule_216 rfl (lv_at hl 0 rfl) ?_
            refine k_Si F w (As := [.int (zI 1)]) (rest := []) (t_isBySyllables (z := 1) (by omega)) rgs_X12_140 rhs_X12_isBySyllables ⟨(Nat.le_of_ble_eq_true rfl), (Nat.le_of_ble_eq_true rfl)⟩ hl.1 rfl (Nat.le_of_ble_eq_true rfl) ⟨Nat.zero_le _, Nat.zero_le _⟩ rdX12_readsRule_217 (fun r Ma433 H locs hp w => ?_)
            rcases hp with ⟨⟨hb432, rfl⟩ | ⟨hb432, rfl⟩, hMe⟩
            · exact absurd hb432 (by omega)
            · rw [hMe] at w
              refine z_if_ne (tgt := 236) hx hb (by omega) rdX12_readsRule_220 (by decide) (fun c434 => False.elim (by omega)) (fun c434 => ?_)
              refine lv_aload_n hx hb rdX12_readsRule_223 rfl (lv_at hl 1 rfl) ?_
              refine lv_bipush (v := zI 20) hx hb rdX12_readsRule_224 (by decide) ?_
              refine k_Vi F w (As := [.int (zI 20)]) (rest := []) (a := 146) (kd_lt (a := 146) (show kd 146 = (12, 0, 0) from rfl) (by decide)) (sh_12 rfl _ _) rfl (t_isWord hT (x := (rdN T tn (rdC T tn 15 16 4 (rdC T tn 11 14 2 (rdV T tn b))))) Yq429 (lo := 20) (by decide)) rgv_X12_224 rhv_X12_isWord ⟨(Nat.le_of_ble_eq_true rfl), (Nat.le_of_ble_eq_true rfl)⟩ hl.1 rfl (Nat.le_of_ble_eq_true rfl) ⟨Nat.zero_le _, Nat.zero_le _⟩ rdX12_readsRule_226 (fun r Ma436 H locs hp w => ?_)
              rcases hp with ⟨⟨hb435, rfl⟩ | ⟨hb435, rfl⟩, hMe⟩
              · rw [hMe] at w
                refine z_if_eq (tgt := 236) hx hb (by omega) rdX12_readsRule_229 (by decide) (fun c437 => False.elim (by omega)) (fun c437 => ?_)
                refine lv_aload_n hx hb rdX12_readsRule_232 rfl (lv_at hl 1 rfl) ?_
                refine k_Vv F w (As := []) (rest := []) (a := 146) (kd_lt (a := 146) (show kd 146 = (12, 0, 0) from rfl) (by decide)) (sh_12 rfl _ _) rfl (t_readsTest hT (x := (rdN T tn (rdC T tn 15 16 4 (rdC T tn 11 14 2 (rdV T tn b))))) Yq429 (by omega) (Or.inl (tk_w0 (T := T) (N := tn) Yq429.2.2.2.1.1 hb435))) rgv_X12_233 rhv_X12_readsTest ⟨(Nat.le_of_ble_eq_true rfl), (Nat.le_of_ble_eq_true rfl)⟩ hl.1 rfl (Nat.le_of_ble_eq_true rfl) ⟨Nat.zero_le _, Nat.zero_le _⟩ rdX12_readsRule_233 (fun Ma439 H locs hp w => ?_)
                rcases hp with ⟨hYn438, hFn438⟩
                have hFn438 : FrY Ma439 M := FrY.tr Fq429 hFn438
                have hGi := hYn438.1.1
                refine lv_aload_n hx hb rdX12_readsRule_236 rfl (lv_at hl 1 rfl) ?_
                refine f_12_16 F w (a := 146) rfl rtb_139 rdX12_readsRule_237 ?_
                refine r_val (v := (zI (1 - ((Prod.fst (rdT T tn (1, en T tn (Prod.fst (Prod.snd (rdN T tn (rdC T tn 15 16 4 (rdC T tn 11 14 2 (rdV T tn b)))))), Prod.snd (Prod.snd (rdN T tn (rdC T tn 15 16 4 (rdC T tn 11 14 2 (rdV T tn b))))))) : Nat) : Int)))) (hYn438.2.2.2.2.1) ?_
                refine z_if_eq (tgt := 244) hx hb (by omega) rdX12_readsRule_240 (by decide) (fun c440 => ?_) (fun c440 => ?_)
                · refine lv_aload_n hx hb rdX12_readsRule_244 rfl (lv_at hl 1 rfl) ?_
                  refine f_12_13 F w (a := 146) rfl rtb_127 rdX12_readsRule_245 ?_
                  have htl440 := tok_le T tn (Prod.fst (Prod.snd (rdT T tn (1, en T tn (Prod.fst (Prod.snd (rdN T tn (rdC T tn 15 16 4 (rdC T tn 11 14 2 (rdV T tn b)))))), Prod.snd (Prod.snd (rdN T tn (rdC T tn 15 16 4 (rdC T tn 11 14 2 (rdV T tn b)))))))))
                  refine r_val (v := (zI (((tok T tn (Prod.fst (Prod.snd (rdT T tn (1, en T tn (Prod.fst (Prod.snd (rdN T tn (rdC T tn 15 16 4 (rdC T tn 11 14 2 (rdV T tn b)))))), Prod.snd (Prod.snd (rdN T tn (rdC T tn 15 16 4 (rdC T tn 11 14 2 (rdV T tn b)))))))))) : Nat) : Int))) (hYn438.2.2.2.1.2.2.2.1) ?_
                  refine lv_iconst (v := zI 3) hx hb rdX12_readsRule_248 rfl ?_
                  refine z_icmp_ne (tgt := 259) hx hb (by omega) (by omega) rdX12_readsRule_249 (by decide) (fun c441 => ?_) (fun c441 => ?_)
                  · refine lv_aload_n hx hb rdX12_readsRule_259 rfl (lv_at hl 1 rfl) ?_
                    refine lv_iconst (v := zI 1) hx hb rdX12_readsRule_260 rfl ?_
                    refine u_12_16 F w (a := 146) rfl (by decide) (by decide) rtb_139 rdX12_readsRule_261 (fun H locs w => ?_)
                    exact e_v F w hr hlocks ⟨YS.e (YS.bad hYn438) (rdR_I gV (by rw [eP]; exact rdI_y (by omega) (by omega) hb435) (rdS_n (by omega) (fun q9 => absurd (tok_3.mpr q9) (by omega)))), FrY.t hFn438⟩ rdX12_readsRule_264
                  · refine lv_aload_n hx hb rdX12_readsRule_252 rfl (lv_at hl 1 rfl) ?_
                    refine k_Vv F w (As := []) (rest := []) (a := 146) (kd_lt (a := 146) (show kd 146 = (12, 0, 0) from rfl) (by decide)) (sh_12 rfl _ _) rfl (t_goesOn hT hYn438.2.1 hYn438.2.2.1 (E := en T tn (Prod.fst (Prod.snd (rdT T tn (1, en T tn (Prod.fst (Prod.snd (rdN T tn (rdC T tn 15 16 4 (rdC T tn 11 14 2 (rdV T tn b)))))), Prod.snd (Prod.snd (rdN T tn (rdC T tn 15 16 4 (rdC T tn 11 14 2 (rdV T tn b)))))))))) (wa := tok T tn (Prod.fst (Prod.snd (rdT T tn (1, en T tn (Prod.fst (Prod.snd (rdN T tn (rdC T tn 15 16 4 (rdC T tn 11 14 2 (rdV T tn b)))))), Prod.snd (Prod.snd (rdN T tn (rdC T tn 15 16 4 (rdC T tn 11 14 2 (rdV T tn b)))))))))) (en_le hYn438.2.2.2.1.1).2.1 hYn438.2.2.2.1.2.2.1 hYn438.2.2.2.1.2.2.2.1 (tok_le T tn _) (tok_w hYn438.2.2.2.1.1 (Or.inr (Or.inr (by omega))))) rgv_X12_221 rhv_X12_goesOn ⟨(Nat.le_of_ble_eq_true rfl), (Nat.le_of_ble_eq_true rfl)⟩ hl.1 rfl (Nat.le_of_ble_eq_true rfl) ⟨Nat.zero_le _, Nat.zero_le _⟩ rdX12_readsRule_253 (fun Ma443 H locs hp w => ?_)
                    rcases hp with ⟨hRn442, hGn442⟩
                    have hYn442 := YS.go hYn438 (by omega) hRn442 hGn442
                    have hFn442 : FrY Ma443 M := FrY.tr hFn438 (FrY.w (FrW.g hGn442))
                    refine lv_goto (tgt := 264) hx hb rdX12_readsRule_256 (by decide) ?_
                    exact e_v F w hr hlocks ⟨YS.e hYn442 (rdR_I gV (by rw [eP]; exact rdI_y (by omega) (by omega) hb435) (rdS_y (by omega) (tok_3.mp (by omega)).1 (tok_3.mp (by omega)).2)), hFn442⟩ rdX12_readsRule_264
                · exact e_v F w hr hlocks ⟨YS.e hYn438 (rdR_2 gV (by rw [eP]; exact rdI_y (by omega) (by omega) hb435) (by omega)), hFn438⟩ rdX12_readsRule_243
              · rw [hMe] at w
                refine z_if_eq (tgt := 236) hx hb (by omega) rdX12_readsRule_229 (by decide) (fun c444 => ?_) (fun c444 => False.elim (by omega))
                have hGi := Yq429.1.1
                refine lv_aload_n hx hb rdX12_readsRule_236 rfl (lv_at hl 1 rfl) ?_
                refine f_12_16 F w (a := 146) rfl rtb_139 rdX12_readsRule_237 ?_
                refine r_val (v := (zI (1 - ((Prod.fst (rdN T tn (rdC T tn 15 16 4 (rdC T tn 11 14 2 (rdV T tn b)))) : Nat) : Int)))) (Yq429.2.2.2.2.1) ?_
                refine z_if_eq (tgt := 244) hx hb (by omega) rdX12_readsRule_240 (by decide) (fun c445 => ?_) (fun c445 => False.elim (by omega))
                refine lv_aload_n hx hb rdX12_readsRule_244 rfl (lv_at hl 1 rfl) ?_
                refine f_12_13 F w (a := 146) rfl rtb_127 rdX12_readsRule_245 ?_
                have htl445 := tok_le T tn (Prod.fst (Prod.snd (rdN T tn (rdC T tn 15 16 4 (rdC T tn 11 14 2 (rdV T tn b))))))
                refine r_val (v := (zI (((tok T tn (Prod.fst (Prod.snd (rdN T tn (rdC T tn 15 16 4 (rdC T tn 11 14 2 (rdV T tn b))))))) : Nat) : Int))) (Yq429.2.2.2.1.2.2.2.1) ?_
                refine lv_iconst (v := zI 3) hx hb rdX12_readsRule_248 rfl ?_
                refine z_icmp_ne (tgt := 259) hx hb (by omega) (by omega) rdX12_readsRule_249 (by decide) (fun c446 => ?_) (fun c446 => ?_)
                · refine lv_aload_n hx hb rdX12_readsRule_259 rfl (lv_at hl 1 rfl) ?_
                  refine lv_iconst (v := zI 1) hx hb rdX12_readsRule_260 rfl ?_
                  refine u_12_16 F w (a := 146) rfl (by decide) (by decide) rtb_139 rdX12_readsRule_261 (fun H locs w => ?_)
                  exact e_v F w hr hlocks ⟨YS.e (YS.bad Yq429) (rdR_I gV (by rw [eP]; exact rdI_n (Or.inr (Or.inr hb435))) (rdS_n (by omega) (fun q9 => absurd (tok_3.mpr q9) (by omega)))), FrY.t Fq429⟩ rdX12_readsRule_264
                · refine lv_aload_n hx hb rdX12_readsRule_252 rfl (lv_at hl 1 rfl) ?_
                  refine k_Vv F w (As := []) (rest := []) (a := 146) (kd_lt (a := 146) (show kd 146 = (12, 0, 0) from rfl) (by decide)) (sh_12 rfl _ _) rfl (t_goesOn hT Yq429.2.1 Yq429.2.2.1 (E := en T tn (Prod.fst (Prod.snd (rdN T tn (rdC T tn 15 16 4 (rdC T tn 11 14 2 (rdV T tn b))))))) (wa := tok T tn (Prod.fst (Prod.snd (rdN T tn (rdC T tn 15 16 4 (rdC T tn 11 14 2 (rdV T tn b))))))) (en_le Yq429.2.2.2.1.1).2.1 Yq429.2.2.2.1.2.2.1 Yq429.2.2.2.1.2.2.2.1 (tok_le T tn _) (tok_w Yq429.2.2.2.1.1 (Or.inr (Or.inr (by omega))))) rgv_X12_221 rhv_X12_goesOn ⟨(Nat.le_of_ble_eq_true rfl), (Nat.le_of_ble_eq_true rfl)⟩ hl.1 rfl (Nat.le_of_ble_eq_true rfl) ⟨Nat.zero_le _, Nat.zero_le _⟩ rdX12_readsRule_253 (fun Ma448 H locs hp w => ?_)
                  rcases hp with ⟨hRn447, hGn447⟩
                  have hYn447 := YS.go Yq429 (by omega) hRn447 hGn447
                  have hFn447 : FrY Ma448 M := FrY.tr Fq429 (FrY.w (FrW.g hGn447))
                  refine lv_goto (tgt := 264) hx hb rdX12_readsRule_256 (by decide) ?_
                  exact e_v F w hr hlocks ⟨YS.e hYn447 (rdR_I gV (by rw [eP]; exact rdI_n (Or.inr (Or.inr hb435))) (rdS_y (by omega) (tok_3.mp (by omega)).1 (tok_3.mp (by omega)).2)), hFn447⟩ rdX12_readsRule_264
        · exact absurd hb417 (by omega)
      · subst c9
        refine lv_istore_n (lv' := [(1, .int (zI 2)), (0, .ref (B + 146))]) hx hb rdX12_readsRule_63 rfl hl (by decide) rfl (fun ls hl => ?_)
        refine lv_aload_n hx hb rdX12_readsRule_64 rfl (lv_at hl 1 rfl) ?_
        refine f_12_17 F w (a := 146) rfl rtb_146 rdX12_readsRule_65 ?_
        refine lv_iconst (v := zI 0) hx hb rdX12_readsRule_68 rfl ?_
        refine lv_iload_n hx hb rdX12_readsRule_69 rfl (lv_at hl 0 rfl) ?_
        refine g_iast F w (a := 153) rfl (j := 0) ⟨by decide, by decide⟩ (by omega) rdX12_readsRule_70 (fun H locs w => ?_)
        refine lv_iload_n hx hb rdX12_readsRule_71 rfl (lv_at hl 0 rfl) ?_
        refine lv_bipush (v := zI 8) hx hb rdX12_readsRule_72 (by decide) ?_
        refine z_icmp_ne (tgt := 90) hx hb (by omega) (by omega) rdX12_readsRule_74 (by decide) (fun c449 => ?_) (fun c449 => False.elim (by omega))
        refine lv_iload_n hx hb rdX12_readsRule_90 rfl (lv_at hl 0 rfl) ?_
        refine z_if_eq (tgt := 119) hx hb (by omega) rdX12_readsRule_91 (by decide) (fun c450 => False.elim (by omega)) (fun c450 => ?_)
        refine lv_aload_n hx hb rdX12_readsRule_94 rfl (lv_at hl 1 rfl) ?_
        refine f_12_17 F w (a := 146) rfl rtb_146 rdX12_readsRule_95 ?_
        refine lv_iconst (v := zI 2) hx hb rdX12_readsRule_98 rfl ?_
        refine lv_aload_n hx hb rdX12_readsRule_99 rfl (lv_at hl 1 rfl) ?_
        refine lv_bipush (v := zI 11) hx hb rdX12_readsRule_100 (by decide) ?_
        refine lv_iload_n hx hb rdX12_readsRule_102 rfl (lv_at hl 0 rfl) ?_
        refine lv_bipush (v := zI 9) hx hb rdX12_readsRule_103 (by decide) ?_
        refine z_icmp_ne (tgt := 113) hx hb (by omega) (by omega) rdX12_readsRule_105 (by decide) (fun c451 => ?_) (fun c451 => False.elim (by omega))
        refine lv_bipush (v := zI 14) hx hb rdX12_readsRule_113 (by decide) ?_
        have Yq452 : YS (st Ma372 153 0 (zI 2)) T tn (rdV T tn b) := hV
        have Fq452 : FrY (st Ma372 153 0 (zI 2)) M := FrY.o hFn371
        generalize (st Ma372 153 0 (zI 2)) = Mzq452 at w Yq452 Fq452
        refine k_Vi F w (As := [.int (zI 11), .int (zI 14)]) (rest := [.int (zI 2), .ref (B + 153)]) (a := 146) (kd_lt (a := 146) (show kd 146 = (12, 0, 0) from rfl) (by decide)) (sh_12 rfl _ _) rfl (t_needs hT (x := (rdV T tn b)) Yq452 (lo := 11) (hi := 14) (by decide) (by decide)) rgv_X12_227 rhv_X12_needs ⟨(Nat.le_of_ble_eq_true rfl), (Nat.le_of_ble_eq_true rfl)⟩ hl.1 rfl (Nat.le_of_ble_eq_true rfl) ⟨Nat.zero_le _, Nat.zero_le _⟩ rdX12_readsRule_115 (fun r Ma454 H locs hp w => ?_)
        rcases hp with ⟨vn453, rfl, hFn453, -, -, -, hSn453, hWn453⟩
        have hFn453 : FrY Ma454 M := FrY.tr Fq452 (FrY.w hFn453)
        refine g_iast F w (a := 153) rfl (j := 2) ⟨by decide, by decide⟩ (by omega) rdX12_readsRule_118 (fun H locs w => ?_)
        refine lv_iload_n hx hb rdX12_readsRule_119 rfl (lv_at hl 0 rfl) ?_
        refine lv_bipush (v := zI 7) hx hb rdX12_readsRule_120 (by decide) ?_
        refine z_icmp_ne (tgt := 148) hx hb (by omega) (by omega) rdX12_readsRule_122 (by decide) (fun c455 => ?_) (fun c455 => False.elim (by omega))
        refine lv_iload_n hx hb rdX12_readsRule_148 rfl (lv_at hl 0 rfl) ?_
        refine k_Si F w (As := [.int (zI 2)]) (rest := []) (t_hasSide (z := 2) (by omega)) rgs_X12_137 rhs_X12_hasSide ⟨(Nat.le_of_ble_eq_true rfl), (Nat.le_of_ble_eq_true rfl)⟩ hl.1 rfl (Nat.le_of_ble_eq_true rfl) ⟨Nat.zero_le _, Nat.zero_le _⟩ rdX12_readsRule_149 (fun r Ma457 H locs hp w => ?_)
        rcases hp with ⟨⟨hb456, rfl⟩ | ⟨hb456, rfl⟩, hMe⟩
        · rw [hMe] at w
          refine z_if_eq (tgt := 169) hx hb (by omega) rdX12_readsRule_152 (by decide) (fun c458 => False.elim (by omega)) (fun c458 => ?_)
          refine lv_aload_n hx hb rdX12_readsRule_155 rfl (lv_at hl 1 rfl) ?_
          refine f_12_17 F w (a := 146) rfl rtb_146 rdX12_readsRule_156 ?_
          refine lv_iconst (v := zI 4) hx hb rdX12_readsRule_159 rfl ?_
          refine lv_aload_n hx hb rdX12_readsRule_160 rfl (lv_at hl 1 rfl) ?_
          refine lv_bipush (v := zI 15) hx hb rdX12_readsRule_161 (by decide) ?_
          refine lv_bipush (v := zI 16) hx hb rdX12_readsRule_163 (by decide) ?_
          have Yq459 : YS (st Ma454 153 2 (zI vn453)) T tn (rdC T tn 11 14 2 (rdV T tn b)) := hSn453 2
          have Fq459 : FrY (st Ma454 153 2 (zI vn453)) M := FrY.o hFn453
          generalize (st Ma454 153 2 (zI vn453)) = Mzq459 at w Yq459 Fq459
          refine k_Vi F w (As := [.int (zI 15), .int (zI 16)]) (rest := [.int (zI 4), .ref (B + 153)]) (a := 146) (kd_lt (a := 146) (show kd 146 = (12, 0, 0) from rfl) (by decide)) (sh_12 rfl _ _) rfl (t_needs hT (x := (rdC T tn 11 14 2 (rdV T tn b))) Yq459 (lo := 15) (hi := 16) (by decide) (by decide)) rgv_X12_227 rhv_X12_needs ⟨(Nat.le_of_ble_eq_true rfl), (Nat.le_of_ble_eq_true rfl)⟩ hl.1 rfl (Nat.le_of_ble_eq_true rfl) ⟨Nat.zero_le _, Nat.zero_le _⟩ rdX12_readsRule_165 (fun r Ma461 H locs hp w => ?_)
          rcases hp with ⟨vn460, rfl, hFn460, -, -, -, hSn460, hWn460⟩
          have hFn460 : FrY Ma461 M := FrY.tr Fq459 (FrY.w hFn460)
          refine g_iast F w (a := 153) rfl (j := 4) ⟨by decide, by decide⟩ (by omega) rdX12_readsRule_168 (fun H locs w => ?_)
          refine lv_iload_n hx hb rdX12_readsRule_169 rfl (lv_at hl 0 rfl) ?_
          refine lv_iconst (v := zI 3) hx hb rdX12_readsRule_170 rfl ?_
          refine z_icmp_eq (tgt := 180) hx hb (by omega) (by omega) rdX12_readsRule_171 (by decide) (fun c462 => False.elim (by omega)) (fun c462 => ?_)
          refine lv_iload_n hx hb rdX12_readsRule_174 rfl (lv_at hl 0 rfl) ?_
          refine lv_bipush (v := zI 8) hx hb rdX12_readsRule_175 (by decide) ?_
          refine z_icmp_ne (tgt := 194) hx hb (by omega) (by omega) rdX12_readsRule_177 (by decide) (fun c463 => ?_) (fun c463 => False.elim (by omega))
          refine lv_iload_n hx hb rdX12_readsRule_194 rfl (lv_at hl 0 rfl) ?_
          refine lv_iconst (v := zI 1) hx hb rdX12_readsRule_195 rfl ?_
          refine z_icmp_ne (tgt := 209) hx hb (by omega) (by omega) rdX12_readsRule_196 (by decide) (fun c464 => ?_) (fun c464 => False.elim (by omega))
          have Yq465 : YS (st Ma461 153 4 (zI vn460)) T tn (rdC T tn 15 16 4 (rdC T tn 11 14 2 (rdV T tn b))) := hSn460 4
          have Fq465 : FrY (st Ma461 153 4 (zI vn460)) M := FrY.o hFn460
          generalize (st Ma461 153 4 (zI vn460)) = Mzq465 at w Yq465 Fq465
          have hGf := Yq465.1.1
          have eP : rdP T tn ((rdV T tn b).2.2 0) (rdV T tn b) = (rdC T tn 15 16 4 (rdC T tn 11 14 2 (rdV T tn b))) := ((rdP_0 (by omega)).trans (by rw [rdK_o (by omega) (by omega)]))
          refine lv_aload_n hx hb rdX12_readsRule_209 rfl (lv_at hl 1 rfl) ?_
          refine f_12_16 F w (a := 146) rfl rtb_139 rdX12_readsRule_210 ?_
          refine r_val (v := (zI (1 - ((Prod.fst (rdC T tn 15 16 4 (rdC T tn 11 14 2 (rdV T tn b))) : Nat) : Int)))) (Yq465.2.2.2.2.1) ?_
          refine z_if_ne (tgt := 236) hx hb (by omega) rdX12_readsRule_213 (by decide) (fun c466 => ?_) (fun c466 => ?_)
          · have hGi := Yq465.1.1
            refine lv_aload_n hx hb rdX12_readsRule_236 rfl (lv_at hl 1 rfl) ?_
            refine f_12_16 F w (a := 146) rfl rtb_139 rdX12_readsRule_237 ?_
            refine r_val (v := (zI (1 - ((Prod.fst (rdC T tn 15 16 4 (rdC T tn 11 14 2 (rdV T tn b))) : Nat) : Int)))) (Yq465.2.2.2.2.1) ?_
            refine z_if_eq (tgt := 244) hx hb (by omega) rdX12_readsRule_240 (by decide) (fun c467 => False.elim (by omega)) (fun c467 => ?_)
            exact e_v F w hr hlocks ⟨YS.e Yq465 ((rdR_1 gV (by rw [eP]; omega)).trans eP), Fq465⟩ rdX12_readsRule_243
          · refine lv_iload_n hx hb rdX12_readsRule_216 rfl (lv_at hl 0 rfl) ?_
            refine k_Si F w (As := [.int (zI 2)]) (rest := []) (t_isBySyllables (z := 2) (by omega)) rgs_X12_140 rhs_X12_isBySyllables ⟨(Nat.le_of_ble_eq_true rfl), (Nat.le_of_ble_eq_true rfl)⟩ hl.1 rfl (Nat.le_of_ble_eq_true rfl) ⟨Nat.zero_le _, Nat.zero_le _⟩ rdX12_readsRule_217 (fun r Ma469 H locs hp w => ?_)
            rcases hp with ⟨⟨hb468, rfl⟩ | ⟨hb468, rfl⟩, hMe⟩
            · exact absurd hb468 (by omega)
            · rw [hMe] at w
              refine z_if_ne (tgt := 236) hx hb (by omega) rdX12_readsRule_220 (by decide) (fun c470 => False.elim (by omega)) (fun c470 => ?_)
              refine lv_aload_n hx hb rdX12_readsRule_223 rfl (lv_at hl 1 rfl) ?_
              refine lv_bipush (v := zI 20) hx hb rdX12_readsRule_224 (by decide) ?_
              refine k_Vi F w (As := [.int (zI 20)]) (rest := []) (a := 146) (kd_lt (a := 146) (show kd 146 = (12, 0, 0) from rfl) (by decide)) (sh_12 rfl _ _) rfl (t_isWord hT (x := (rdC T tn 15 16 4 (rdC T tn 11 14 2 (rdV T tn b)))) Yq465 (lo := 20) (by decide)) rgv_X12_224 rhv_X12_isWord ⟨(Nat.le_of_ble_eq_true rfl), (Nat.le_of_ble_eq_true rfl)⟩ hl.1 rfl (Nat.le_of_ble_eq_true rfl) ⟨Nat.zero_le _, Nat.zero_le _⟩ rdX12_readsRule_226 (fun r Ma472 H locs hp w => ?_)
              rcases hp with ⟨⟨hb471, rfl⟩ | ⟨hb471, rfl⟩, hMe⟩
              · rw [hMe] at w
                refine z_if_eq (tgt := 236) hx hb (by omega) rdX12_readsRule_229 (by decide) (fun c473 => False.elim (by omega)) (fun c473 => ?_)
                refine lv_aload_n hx hb rdX12_readsRule_232 rfl (lv_at hl 1 rfl) ?_
                refine k_Vv F w (As := []) (rest := []) (a := 146) (kd_lt (a := 146) (show kd 146 = (12, 0, 0) from rfl) (by decide)) (sh_12 rfl _ _) rfl (t_readsTest hT (x := (rdC T tn 15 16 4 (rdC T tn 11 14 2 (rdV T tn b)))) Yq465 (by omega) (Or.inl (tk_w0 (T := T) (N := tn) Yq465.2.2.2.1.1 hb471))) rgv_X12_233 rhv_X12_readsTest ⟨(Nat.le_of_ble_eq_true rfl), (Nat.le_of_ble_eq_true rfl)⟩ hl.1 rfl (Nat.le_of_ble_eq_true rfl) ⟨Nat.zero_le _, Nat.zero_le _⟩ rdX12_readsRule_233 (fun Ma475 H locs hp w => ?_)
                rcases hp with ⟨hYn474, hFn474⟩
                have hFn474 : FrY Ma475 M := FrY.tr Fq465 hFn474
                have hGi := hYn474.1.1
                refine lv_aload_n hx hb rdX12_readsRule_236 rfl (lv_at hl 1 rfl) ?_
                refine f_12_16 F w (a := 146) rfl rtb_139 rdX12_readsRule_237 ?_
                refine r_val (v := (zI (1 - ((Prod.fst (rdT T tn (1, en T tn (Prod.fst (Prod.snd (rdC T tn 15 16 4 (rdC T tn 11 14 2 (rdV T tn b))))), Prod.snd (Prod.snd (rdC T tn 15 16 4 (rdC T tn 11 14 2 (rdV T tn b)))))) : Nat) : Int)))) (hYn474.2.2.2.2.1) ?_
                refine z_if_eq (tgt := 244) hx hb (by omega) rdX12_readsRule_240 (by decide) (fun c476 => ?_) (fun c476 => ?_)
                · refine lv_aload_n hx hb rdX12_readsRule_244 rfl (lv_at hl 1 rfl) ?_
                  refine f_12_13 F w (a := 146) rfl rtb_127 rdX12_readsRule_245 ?_
                  have htl476 := tok_le T tn (Prod.fst (Prod.snd (rdT T tn (1, en T tn (Prod.fst (Prod.snd (rdC T tn 15 16 4 (rdC T tn 11 14 2 (rdV T tn b))))), Prod.snd (Prod.snd (rdC T tn 15 16 4 (rdC T tn 11 14 2 (rdV T tn b))))))))
                  refine r_val (v := (zI (((tok T tn (Prod.fst (Prod.snd (rdT T tn (1, en T tn (Prod.fst (Prod.snd (rdC T tn 15 16 4 (rdC T tn 11 14 2 (rdV T tn b))))), Prod.snd (Prod.snd (rdC T tn 15 16 4 (rdC T tn 11 14 2 (rdV T tn b))))))))) : Nat) : Int))) (hYn474.2.2.2.1.2.2.2.1) ?_
                  refine lv_iconst (v := zI 3) hx hb rdX12_readsRule_248 rfl ?_
                  refine z_icmp_ne (tgt := 259) hx hb (by omega) (by omega) rdX12_readsRule_249 (by decide) (fun c477 => ?_) (fun c477 => ?_)
                  · refine lv_aload_n hx hb rdX12_readsRule_259 rfl (lv_at hl 1 rfl) ?_
                    refine lv_iconst (v := zI 1) hx hb rdX12_readsRule_260 rfl ?_
                    refine u_12_16 F w (a := 146) rfl (by decide) (by decide) rtb_139 rdX12_readsRule_261 (fun H locs w => ?_)
                    exact e_v F w hr hlocks ⟨YS.e (YS.bad hYn474) (rdR_I gV (by rw [eP]; exact rdI_y (by omega) (by omega) hb471) (rdS_n (by omega) (fun q9 => absurd (tok_3.mpr q9) (by omega)))), FrY.t hFn474⟩ rdX12_readsRule_264
                  · refine lv_aload_n hx hb rdX12_readsRule_252 rfl (lv_at hl 1 rfl) ?_
                    refine k_Vv F w (As := []) (rest := []) (a := 146) (kd_lt (a := 146) (show kd 146 = (12, 0, 0) from rfl) (by decide)) (sh_12 rfl _ _) rfl (t_goesOn hT hYn474.2.1 hYn474.2.2.1 (E := en T tn (Prod.fst (Prod.snd (rdT T tn (1, en T tn (Prod.fst (Prod.snd (rdC T tn 15 16 4 (rdC T tn 11 14 2 (rdV T tn b))))), Prod.snd (Prod.snd (rdC T tn 15 16 4 (rdC T tn 11 14 2 (rdV T tn b))))))))) (wa := tok T tn (Prod.fst (Prod.snd (rdT T tn (1, en T tn (Prod.fst (Prod.snd (rdC T tn 15 16 4 (rdC T tn 11 14 2 (rdV T tn b))))), Prod.snd (Prod.snd (rdC T tn 15 16 4 (rdC T tn 11 14 2 (rdV T tn b))))))))) (en_le hYn474.2.2.2.1.1).2.1 hYn474.2.2.2.1.2.2.1 hYn474.2.2.2.1.2.2.2.1 (tok_le T tn _) (tok_w hYn474.2.2.2.1.1 (Or.inr (Or.inr (by omega))))) rgv_X12_221 rhv_X12_goesOn ⟨(Nat.le_of_ble_eq_true rfl), (Nat.le_of_ble_eq_true rfl)⟩ hl.1 rfl (Nat.le_of_ble_eq_true rfl) ⟨Nat.zero_le _, Nat.zero_le _⟩ rdX12_readsRule_253 (fun Ma479 H locs hp w => ?_)
                    rcases hp with ⟨hRn478, hGn478⟩
                    have hYn478 := YS.go hYn474 (by omega) hRn478 hGn478
                    have hFn478 : FrY Ma479 M := FrY.tr hFn474 (FrY.w (FrW.g hGn478))
                    refine lv_goto (tgt := 264) hx hb rdX12_readsRule_256 (by decide) ?_
                    exact e_v F w hr hlocks ⟨YS.e hYn478 (rdR_I gV (by rw [eP]; exact rdI_y (by omega) (by omega) hb471) (rdS_y (by omega) (tok_3.mp (by omega)).1 (tok_3.mp (by omega)).2)), hFn478⟩ rdX12_readsRule_264
                · exact e_v F w hr hlocks ⟨YS.e hYn474 (rdR_2 gV (by rw [eP]; exact rdI_y (by omega) (by omega) hb471) (by omega)), hFn474⟩ rdX12_readsRule_243
              · rw [hMe] at w
                refine z_if_eq (tgt := 236) hx hb (by omega) rdX12_readsRule_229 (by decide) (fun c480 => ?_) (fun c480 => False.elim (by omega))
                have hGi := Yq465.1.1
                refine lv_aload_n hx hb rdX12_readsRule_236 rfl (lv_at hl 1 rfl) ?_
                refine f_12_16 F w (a := 146) rfl rtb_139 rdX12_readsRule_237 ?_
                refine r_val (v := (zI (1 - ((Prod.fst (rdC T tn 15 16 4 (rdC T tn 11 14 2 (rdV T tn b))) : Nat) : Int)))) (Yq465.2.2.2.2.1) ?_
                refine z_if_eq (tgt := 244) hx hb (by omega) rdX12_readsRule_240 (by decide) (fun c481 => ?_) (fun c481 => False.elim (by omega))
                refine lv_aload_n hx hb rdX12_readsRule_244 rfl (lv_at hl 1 rfl) ?_
                refine f_12_13 F w (a := 146) rfl rtb_127 rdX12_readsRule_245 ?_
                have htl481 := tok_le T tn (Prod.fst (Prod.snd (rdC T tn 15 16 4 (rdC T tn 11 14 2 (rdV T tn b)))))
                refine r_val (v := (zI (((tok T tn (Prod.fst (Prod.snd (rdC T tn 15 16 4 (rdC T tn 11 14 2 (rdV T tn b)))))) : Nat) : Int))) (Yq465.2.2.2.1.2.2.2.1) ?_
                refine lv_iconst (v := zI 3) hx hb rdX12_readsRule_248 rfl ?_
                refine z_icmp_ne (tgt := 259) hx hb (by omega) (by omega) rdX12_readsRule_249 (by decide) (fun c482 => ?_) (fun c482 => ?_)
                · refine lv_aload_n hx hb rdX12_readsRule_259 rfl (lv_at hl 1 rfl) ?_
                  refine lv_iconst (v := zI 1) hx hb rdX12_readsRule_260 rfl ?_
                  refine u_12_16 F w (a := 146) rfl (by decide) (by decide) rtb_139 rdX12_readsRule_261 (fun H locs w => ?_)
                  exact e_v F w hr hlocks ⟨YS.e (YS.bad Yq465) (rdR_I gV (by rw [eP]; exact rdI_n (Or.inr (Or.inr hb471))) (rdS_n (by omega) (fun q9 => absurd (tok_3.mpr q9) (by omega)))), FrY.t Fq465⟩ rdX12_readsRule_264
                · refine lv_aload_n hx hb rdX12_readsRule_252 rfl (lv_at hl 1 rfl) ?_
                  refine k_Vv F w (As := []) (rest := []) (a := 146) (kd_lt (a := 146) (show kd 146 = (12, 0, 0) from rfl) (by decide)) (sh_12 rfl _ _) rfl (t_goesOn hT Yq465.2.1 Yq465.2.2.1 (E := en T tn (Prod.fst (Prod.snd (rdC T tn 15 16 4 (rdC T tn 11 14 2 (rdV T tn b)))))) (wa := tok T tn (Prod.fst (Prod.snd (rdC T tn 15 16 4 (rdC T tn 11 14 2 (rdV T tn b)))))) (en_le Yq465.2.2.2.1.1).2.1 Yq465.2.2.2.1.2.2.1 Yq465.2.2.2.1.2.2.2.1 (tok_le T tn _) (tok_w Yq465.2.2.2.1.1 (Or.inr (Or.inr (by omega))))) rgv_X12_221 rhv_X12_goesOn ⟨(Nat.le_of_ble_eq_true rfl), (Nat.le_of_ble_eq_true rfl)⟩ hl.1 rfl (Nat.le_of_ble_eq_true rfl) ⟨Nat.zero_le _, Nat.zero_le _⟩ rdX12_readsRule_253 (fun Ma484 H locs hp w => ?_)
                  rcases hp with ⟨hRn483, hGn483⟩
                  have hYn483 := YS.go Yq465 (by omega) hRn483 hGn483
                  have hFn483 : FrY Ma484 M := FrY.tr Fq465 (FrY.w (FrW.g hGn483))
                  refine lv_goto (tgt := 264) hx hb rdX12_readsRule_256 (by decide) ?_
                  exact e_v F w hr hlocks ⟨YS.e hYn483 (rdR_I gV (by rw [eP]; exact rdI_n (Or.inr (Or.inr hb471))) (rdS_y (by omega) (tok_3.mp (by omega)).1 (tok_3.mp (by omega)).2)), hFn483⟩ rdX12_readsRule_264
        · exact absurd hb456 (by omega)
      · subst c9
        refine lv_istore_n (lv' := [(1, .int (zI 3)), (0, .ref (B + 146))]) hx hb rdX12_readsRule_63 rfl hl (by decide) rfl (fun ls hl => ?_)
        refine lv_aload_n hx hb rdX12_readsRule_64 rfl (lv_at hl 1 rfl) ?_
        refine f_12_17 F w (a := 146) rfl rtb_146 rdX12_readsRule_65 ?_
        refine lv_iconst (v := zI 0) hx hb rdX12_readsRule_68 rfl ?_
        refine lv_iload_n hx hb rdX12_readsRule_69 rfl (lv_at hl 0 rfl) ?_
        refine g_iast F w (a := 153) rfl (j := 0) ⟨by decide, by decide⟩ (by omega) rdX12_readsRule_70 (fun H locs w => ?_)
        refine lv_iload_n hx hb rdX12_readsRule_71 rfl (lv_at hl 0 rfl) ?_
        refine lv_bipush (v := zI 8) hx hb rdX12_readsRule_72 (by decide) ?_
        refine z_icmp_ne (tgt := 90) hx hb (by omega) (by omega) rdX12_readsRule_74 (by decide) (fun c485 => ?_) (fun c485 => False.elim (by omega))
        refine lv_iload_n hx hb rdX12_readsRule_90 rfl (lv_at hl 0 rfl) ?_
        refine z_if_eq (tgt := 119) hx hb (by omega) rdX12_readsRule_91 (by decide) (fun c486 => False.elim (by omega)) (fun c486 => ?_)
        refine lv_aload_n hx hb rdX12_readsRule_94 rfl (lv_at hl 1 rfl) ?_
        refine f_12_17 F w (a := 146) rfl rtb_146 rdX12_readsRule_95 ?_
        refine lv_iconst (v := zI 2) hx hb rdX12_readsRule_98 rfl ?_
        refine lv_aload_n hx hb rdX12_readsRule_99 rfl (lv_at hl 1 rfl) ?_
        refine lv_bipush (v := zI 11) hx hb rdX12_readsRule_100 (by decide) ?_
        refine lv_iload_n hx hb rdX12_readsRule_102 rfl (lv_at hl 0 rfl) ?_
        refine lv_bipush (v := zI 9) hx hb rdX12_readsRule_103 (by decide) ?_
        refine z_icmp_ne (tgt := 113) hx hb (by omega) (by omega) rdX12_readsRule_105 (by decide) (fun c487 => ?_) (fun c487 => False.elim (by omega))
        refine lv_bipush (v := zI 14) hx hb rdX12_readsRule_113 (by decide) ?_
        have Yq488 : YS (st Ma372 153 0 (zI 3)) T tn (rdV T tn b) := hV
        have Fq488 : FrY (st Ma372 153 0 (zI 3)) M := FrY.o hFn371
        generalize (st Ma372 153 0 (zI 3)) = Mzq488 at w Yq488 Fq488
        refine k_Vi F w (As := [.int (zI 11), .int (zI 14)]) (rest := [.int (zI 2), .ref (B + 153)]) (a := 146) (kd_lt (a := 146) (show kd 146 = (12, 0, 0) from rfl) (by decide)) (sh_12 rfl _ _) rfl (t_needs hT (x := (rdV T tn b)) Yq488 (lo := 11) (hi := 14) (by decide) (by decide)) rgv_X12_227 rhv_X12_needs ⟨(Nat.le_of_ble_eq_true rfl), (Nat.le_of_ble_eq_true rfl)⟩ hl.1 rfl (Nat.le_of_ble_eq_true rfl) ⟨Nat.zero_le _, Nat.zero_le _⟩ rdX12_readsRule_115 (fun r Ma490 H locs hp w => ?_)
        rcases hp with ⟨vn489, rfl, hFn489, -, -, -, hSn489, hWn489⟩
        have hFn489 : FrY Ma490 M := FrY.tr Fq488 (FrY.w hFn489)
        refine g_iast F w (a := 153) rfl (j := 2) ⟨by decide, by decide⟩ (by omega) rdX12_readsRule_118 (fun H locs w => ?_)
        refine lv_iload_n hx hb rdX12_readsRule_119 rfl (lv_at hl 0 rfl) ?_
        refine lv_bipush (v := zI 7) hx hb rdX12_readsRule_120 (by decide) ?_
        refine z_icmp_ne (tgt := 148) hx hb (by omega) (by omega) rdX12_readsRule_122 (by decide) (fun c491 => ?_) (fun c491 => False.elim (by omega))
        refine lv_iload_n hx hb rdX12_readsRule_148 rfl (lv_at hl 0 rfl) ?_
        refine k_Si F w (As := [.int (zI 3)]) (rest := []) (t_hasSide (z := 3) (by omega)) rgs_X12_137 rhs_X12_hasSide ⟨(Nat.le_of_ble_eq_true rfl), (Nat.le_of_ble_eq_true rfl)⟩ hl.1 rfl (Nat.le_of_ble_eq_true rfl) ⟨Nat.zero_le _, Nat.zero_le _⟩ rdX12_readsRule_149 (fun r Ma493 H locs hp w => ?_)
        rcases hp with ⟨⟨hb492, rfl⟩ | ⟨hb492, rfl⟩, hMe⟩
        · exact absurd hb492 (by omega)
        · rw [hMe] at w
          refine z_if_eq (tgt := 169) hx hb (by omega) rdX12_readsRule_152 (by decide) (fun c494 => ?_) (fun c494 => False.elim (by omega))
          refine lv_iload_n hx hb rdX12_readsRule_169 rfl (lv_at hl 0 rfl) ?_
          refine lv_iconst (v := zI 3) hx hb rdX12_readsRule_170 rfl ?_
          refine z_icmp_eq (tgt := 180) hx hb (by omega) (by omega) rdX12_readsRule_171 (by decide) (fun c495 => ?_) (fun c495 => False.elim (by omega))
          refine lv_aload_n hx hb rdX12_readsRule_180 rfl (lv_at hl 1 rfl) ?_
          refine f_12_17 F w (a := 146) rfl rtb_146 rdX12_readsRule_181 ?_
          refine lv_iconst (v := zI 4) hx hb rdX12_readsRule_184 rfl ?_
          refine lv_aload_n hx hb rdX12_readsRule_185 rfl (lv_at hl 1 rfl) ?_
          refine lv_bipush (v := zI 17) hx hb rdX12_readsRule_186 (by decide) ?_
          refine lv_bipush (v := zI 18) hx hb rdX12_readsRule_188 (by decide) ?_
          have Yq496 : YS (st Ma490 153 2 (zI vn489)) T tn (rdC T tn 11 14 2 (rdV T tn b)) := hSn489 2
          have Fq496 : FrY (st Ma490 153 2 (zI vn489)) M := FrY.o hFn489
          generalize (st Ma490 153 2 (zI vn489)) = Mzq496 at w Yq496 Fq496
          refine k_Vi F w (As := [.int (zI 17), .int (zI 18)]) (rest := [.int (zI 4), .ref (B + 153)]) (a := 146) (kd_lt (a := 146) (show kd 146 = (12, 0, 0) from rfl) (by decide)) (sh_12 rfl _ _) rfl (t_needs hT (x := (rdC T tn 11 14 2 (rdV T tn b))) Yq496 (lo := 17) (hi := 18) (by decide) (by decide)) rgv_X12_227 rhv_X12_needs ⟨(Nat.le_of_ble_eq_true rfl), (Nat.le_of_ble_eq_true rfl)⟩ hl.1 rfl (Nat.le_of_ble_eq_true rfl) ⟨Nat.zero_le _, Nat.zero_le _⟩ rdX12_readsRule_190 (fun r Ma498 H locs hp w => ?_)
          rcases hp with ⟨vn497, rfl, hFn497, -, -, -, hSn497, hWn497⟩
          have hFn497 : FrY Ma498 M := FrY.tr Fq496 (FrY.w hFn497)
          refine g_iast F w (a := 153) rfl (j := 4) ⟨by decide, by decide⟩ (by omega) rdX12_readsRule_193 (fun H locs w => ?_)
          refine lv_iload_n hx hb rdX12_readsRule_194 rfl (lv_at hl 0 rfl) ?_
          refine lv_iconst (v := zI 1) hx hb rdX12_readsRule_195 rfl ?_
          refine z_icmp_ne (tgt := 209) hx hb (by omega) (by omega) rdX12_readsRule_196 (by decide) (fun c499 => ?_) (fun c499 => False.elim (by omega))
          have Yq500 : YS (st Ma498 153 4 (zI vn497)) T tn (rdC T tn 17 18 4 (rdC T tn 11 14 2 (rdV T tn b))) := hSn497 4
          have Fq500 : FrY (st Ma498 153 4 (zI vn497)) M := FrY.o hFn497
          generalize (st Ma498 153 4 (zI vn497)) = Mzq500 at w Yq500 Fq500
          have hGf := Yq500.1.1
          have eP : rdP T tn ((rdV T tn b).2.2 0) (rdV T tn b) = (rdC T tn 17 18 4 (rdC T tn 11 14 2 (rdV T tn b))) := ((rdP_3 (by omega)).trans (by rw [rdK_o (by omega) (by omega)]))
          refine lv_aload_n hx hb rdX12_readsRule_209 rfl (lv_at hl 1 rfl) ?_
          refine f_12_16 F w (a := 146) rfl rtb_139 rdX12_readsRule_210 ?_
          refine r_val (v := (zI (1 - ((Prod.fst (rdC T tn 17 18 4 (rdC T tn 11 14 2 (rdV T tn b))) : Nat) : Int)))) (Yq500.2.2.2.2.1) ?_
          refine z_if_ne (tgt := 236) hx hb (by omega) rdX12_readsRule_213 (by decide) (fun c501 => ?_) (fun c501 => ?_)
          · have hGi := Yq500.1.1
            refine lv_aload_n hx hb rdX12_readsRule_236 rfl (lv_at hl 1 rfl) ?_
            refine f_12_16 F w (a := 146) rfl rtb_139 rdX12_readsRule_237 ?_
            refine r_val (v := (zI (1 - ((Prod.fst (rdC T tn 17 18 4 (rdC T tn 11 14 2 (rdV T tn b))) : Nat) : Int)))) (Yq500.2.2.2.2.1) ?_
            refine z_if_eq (tgt := 244) hx hb (by omega) rdX12_readsRule_240 (by decide) (fun c502 => False.elim (by omega)) (fun c502 => ?_)
            exact e_v F w hr hlocks ⟨YS.e Yq500 ((rdR_1 gV (by rw [eP]; omega)).trans eP), Fq500⟩ rdX12_readsRule_243
          · refine lv_iload_n hx hb rdX12_readsRule_216 rfl (lv_at hl 0 rfl) ?_
            refine k_Si F w (As := [.int (zI 3)]) (rest := []) (t_isBySyllables (z := 3) (by omega)) rgs_X12_140 rhs_X12_isBySyllables ⟨(Nat.le_of_ble_eq_true rfl), (Nat.le_of_ble_eq_true rfl)⟩ hl.1 rfl (Nat.le_of_ble_eq_true rfl) ⟨Nat.zero_le _, Nat.zero_le _⟩ rdX12_readsRule_217 (fun r Ma504 H locs hp w => ?_)
            rcases hp with ⟨⟨hb503, rfl⟩ | ⟨hb503, rfl⟩, hMe⟩
            · exact absurd hb503 (by omega)
            · rw [hMe] at w
              refine z_if_ne (tgt := 236) hx hb (by omega) rdX12_readsRule_220 (by decide) (fun c505 => False.elim (by omega)) (fun c505 => ?_)
              refine lv_aload_n hx hb rdX12_readsRule_223 rfl (lv_at hl 1 rfl) ?_
              refine lv_bipush (v := zI 20) hx hb rdX12_readsRule_224 (by decide) ?_
              refine k_Vi F w (As := [.int (zI 20)]) (rest := []) (a := 146) (kd_lt (a := 146) (show kd 146 = (12, 0, 0) from rfl) (by decide)) (sh_12 rfl _ _) rfl (t_isWord hT (x := (rdC T tn 17 18 4 (rdC T tn 11 14 2 (rdV T tn b)))) Yq500 (lo := 20) (by decide)) rgv_X12_224 rhv_X12_isWord ⟨(Nat.le_of_ble_eq_true rfl), (Nat.le_of_ble_eq_true rfl)⟩ hl.1 rfl (Nat.le_of_ble_eq_true rfl) ⟨Nat.zero_le _, Nat.zero_le _⟩ rdX12_readsRule_226 (fun r Ma507 H locs hp w => ?_)
              rcases hp with ⟨⟨hb506, rfl⟩ | ⟨hb506, rfl⟩, hMe⟩
              · rw [hMe] at w
                refine z_if_eq (tgt := 236) hx hb (by omega) rdX12_readsRule_229 (by decide) (fun c508 => False.elim (by omega)) (fun c508 => ?_)
                refine lv_aload_n hx hb rdX12_readsRule_232 rfl (lv_at hl 1 rfl) ?_
                refine k_Vv F w (As := []) (rest := []) (a := 146) (kd_lt (a := 146) (show kd 146 = (12, 0, 0) from rfl) (by decide)) (sh_12 rfl _ _) rfl (t_readsTest hT (x := (rdC T tn 17 18 4 (rdC T tn 11 14 2 (rdV T tn b)))) Yq500 (by omega) (Or.inl (tk_w0 (T := T) (N := tn) Yq500.2.2.2.1.1 hb506))) rgv_X12_233 rhv_X12_readsTest ⟨(Nat.le_of_ble_eq_true rfl), (Nat.le_of_ble_eq_true rfl)⟩ hl.1 rfl (Nat.le_of_ble_eq_true rfl) ⟨Nat.zero_le _, Nat.zero_le _⟩ rdX12_readsRule_233 (fun Ma510 H locs hp w => ?_)
                rcases hp with ⟨hYn509, hFn509⟩
                have hFn509 : FrY Ma510 M := FrY.tr Fq500 hFn509
                have hGi := hYn509.1.1
                refine lv_aload_n hx hb rdX12_readsRule_236 rfl (lv_at hl 1 rfl) ?_
                refine f_12_16 F w (a := 146) rfl rtb_139 rdX12_readsRule_237 ?_
                refine r_val (v := (zI (1 - ((Prod.fst (rdT T tn (1, en T tn (Prod.fst (Prod.snd (rdC T tn 17 18 4 (rdC T tn 11 14 2 (rdV T tn b))))), Prod.snd (Prod.snd (rdC T tn 17 18 4 (rdC T tn 11 14 2 (rdV T tn b)))))) : Nat) : Int)))) (hYn509.2.2.2.2.1) ?_
                refine z_if_eq (tgt := 244) hx hb (by omega) rdX12_readsRule_240 (by decide) (fun c511 => ?_) (fun c511 => ?_)
                · refine lv_aload_n hx hb rdX12_readsRule_244 rfl (lv_at hl 1 rfl) ?_
                  refine f_12_13 F w (a := 146) rfl rtb_127 rdX12_readsRule_245 ?_
                  have htl511 := tok_le T tn (Prod.fst (Prod.snd (rdT T tn (1, en T tn (Prod.fst (Prod.snd (rdC T tn 17 18 4 (rdC T tn 11 14 2 (rdV T tn b))))), Prod.snd (Prod.snd (rdC T tn 17 18 4 (rdC T tn 11 14 2 (rdV T tn b))))))))
                  refine r_val (v := (zI (((tok T tn (Prod.fst (Prod.snd (rdT T tn (1, en T tn (Prod.fst (Prod.snd (rdC T tn 17 18 4 (rdC T tn 11 14 2 (rdV T tn b))))), Prod.snd (Prod.snd (rdC T tn 17 18 4 (rdC T tn 11 14 2 (rdV T tn b))))))))) : Nat) : Int))) (hYn509.2.2.2.1.2.2.2.1) ?_
                  refine lv_iconst (v := zI 3) hx hb rdX12_readsRule_248 rfl ?_
                  refine z_icmp_ne (tgt := 259) hx hb (by omega) (by omega) rdX12_readsRule_249 (by decide) (fun c512 => ?_) (fun c512 => ?_)
                  · refine lv_aload_n hx hb rdX12_readsRule_259 rfl (lv_at hl 1 rfl) ?_
                    refine lv_iconst (v := zI 1) hx hb rdX12_readsRule_260 rfl ?_
                    refine u_12_16 F w (a := 146) rfl (by decide) (by decide) rtb_139 rdX12_readsRule_261 (fun H locs w => ?_)
                    exact e_v F w hr hlocks ⟨YS.e (YS.bad hYn509) (rdR_I gV (by rw [eP]; exact rdI_y (by omega) (by omega) hb506) (rdS_n (by omega) (fun q9 => absurd (tok_3.mpr q9) (by omega)))), FrY.t hFn509⟩ rdX12_readsRule_264
                  · refine lv_aload_n hx hb rdX12_readsRule_252 rfl (lv_at hl 1 rfl) ?_
                    refine k_Vv F w (As := []) (rest := []) (a := 146) (kd_lt (a := 146) (show kd 146 = (12, 0, 0) from rfl) (by decide)) (sh_12 rfl _ _) rfl (t_goesOn hT hYn509.2.1 hYn509.2.2.1 (E := en T tn (Prod.fst (Prod.snd (rdT T tn (1, en T tn (Prod.fst (Prod.snd (rdC T tn 17 18 4 (rdC T tn 11 14 2 (rdV T tn b))))), Prod.snd (Prod.snd (rdC T tn 17 18 4 (rdC T tn 11 14 2 (rdV T tn b))))))))) (wa := tok T tn (Prod.fst (Prod.snd (rdT T tn (1, en T tn (Prod.fst (Prod.snd (rdC T tn 17 18 4 (rdC T tn 11 14 2 (rdV T tn b))))), Prod.snd (Prod.snd (rdC T tn 17 18 4 (rdC T tn 11 14 2 (rdV T tn b))))))))) (en_le hYn509.2.2.2.1.1).2.1 hYn509.2.2.2.1.2.2.1 hYn509.2.2.2.1.2.2.2.1 (tok_le T tn _) (tok_w hYn509.2.2.2.1.1 (Or.inr (Or.inr (by omega))))) rgv_X12_221 rhv_X12_goesOn ⟨(Nat.le_of_ble_eq_true rfl), (Nat.le_of_ble_eq_true rfl)⟩ hl.1 rfl (Nat.le_of_ble_eq_true rfl) ⟨Nat.zero_le _, Nat.zero_le _⟩ rdX12_readsRule_253 (fun Ma514 H locs hp w => ?_)
                    rcases hp with ⟨hRn513, hGn513⟩
                    have hYn513 := YS.go hYn509 (by omega) hRn513 hGn513
                    have hFn513 : FrY Ma514 M := FrY.tr hFn509 (FrY.w (FrW.g hGn513))
                    refine lv_goto (tgt := 264) hx hb rdX12_readsRule_256 (by decide) ?_
                    exact e_v F w hr hlocks ⟨YS.e hYn513 (rdR_I gV (by rw [eP]; exact rdI_y (by omega) (by omega) hb506) (rdS_y (by omega) (tok_3.mp (by omega)).1 (tok_3.mp (by omega)).2)), hFn513⟩ rdX12_readsRule_264
                · exact e_v F w hr hlocks ⟨YS.e hYn509 (rdR_2 gV (by rw [eP]; exact rdI_y (by omega) (by omega) hb506) (by omega)), hFn509⟩ rdX12_readsRule_243
              · rw [hMe] at w
                refine z_if_eq (tgt := 236) hx hb (by omega) rdX12_readsRule_229 (by decide) (fun c515 => ?_) (fun c515 => False.elim (by omega))
                have hGi := Yq500.1.1
                refine lv_aload_n hx hb rdX12_readsRule_236 rfl (lv_at hl 1 rfl) ?_
                refine f_12_16 F w (a := 146) rfl rtb_139 rdX12_readsRule_237 ?_
                refine r_val (v := (zI (1 - ((Prod.fst (rdC T tn 17 18 4 (rdC T tn 11 14 2 (rdV T tn b))) : Nat) : Int)))) (Yq500.2.2.2.2.1) ?_
                refine z_if_eq (tgt := 244) hx hb (by omega) rdX12_readsRule_240 (by decide) (fun c516 => ?_) (fun c516 => False.elim (by omega))
                refine lv_aload_n hx hb rdX12_readsRule_244 rfl (lv_at hl 1 rfl) ?_
                refine f_12_13 F w (a := 146) rfl rtb_127 rdX12_readsRule_245 ?_
                have htl516 := tok_le T tn (Prod.fst (Prod.snd (rdC T tn 17 18 4 (rdC T tn 11 14 2 (rdV T tn b)))))
                refine r_val (v := (zI (((tok T tn (Prod.fst (Prod.snd (rdC T tn 17 18 4 (rdC T tn 11 14 2 (rdV T tn b)))))) : Nat) : Int))) (Yq500.2.2.2.1.2.2.2.1) ?_
                refine lv_iconst (v := zI 3) hx hb rdX12_readsRule_248 rfl ?_
                refine z_icmp_ne (tgt := 259) hx hb (by omega) (by omega) rdX12_readsRule_249 (by decide) (fun c517 => ?_) (fun c517 => ?_)
                · refine lv_aload_n hx hb rdX12_readsRule_259 rfl (lv_at hl 1 rfl) ?_
                  refine lv_iconst (v := zI 1) hx hb rdX12_readsRule_260 rfl ?_
                  refine u_12_16 F w (a := 146) rfl (by decide) (by decide) rtb_139 rdX12_readsRule_261 (fun H locs w => ?_)
                  exact e_v F w hr hlocks ⟨YS.e (YS.bad Yq500) (rdR_I gV (by rw [eP]; exact rdI_n (Or.inr (Or.inr hb506))) (rdS_n (by omega) (fun q9 => absurd (tok_3.mpr q9) (by omega)))), FrY.t Fq500⟩ rdX12_readsRule_264
                · refine lv_aload_n hx hb rdX12_readsRule_252 rfl (lv_at hl 1 rfl) ?_
                  refine k_Vv F w (As := []) (rest := []) (a := 146) (kd_lt (a := 146) (show kd 146 = (12, 0, 0) from rfl) (by decide)) (sh_12 rfl _ _) rfl (t_goesOn hT Yq500.2.1 Yq500.2.2.1 (E := en T tn (Prod.fst (Prod.snd (rdC T tn 17 18 4 (rdC T tn 11 14 2 (rdV T tn b)))))) (wa := tok T tn (Prod.fst (Prod.snd (rdC T tn 17 18 4 (rdC T tn 11 14 2 (rdV T tn b)))))) (en_le Yq500.2.2.2.1.1).2.1 Yq500.2.2.2.1.2.2.1 Yq500.2.2.2.1.2.2.2.1 (tok_le T tn _) (tok_w Yq500.2.2.2.1.1 (Or.inr (Or.inr (by omega))))) rgv_X12_221 rhv_X12_goesOn ⟨(Nat.le_of_ble_eq_true rfl), (Nat.le_of_ble_eq_true rfl)⟩ hl.1 rfl (Nat.le_of_ble_eq_true rfl) ⟨Nat.zero_le _, Nat.zero_le _⟩ rdX12_readsRule_253 (fun Ma519 H locs hp w => ?_)
                  rcases hp with ⟨hRn518, hGn518⟩
                  have hYn518 := YS.go Yq500 (by omega) hRn518 hGn518
                  have hFn518 : FrY Ma519 M := FrY.tr Fq500 (FrY.w (FrW.g hGn518))
                  refine lv_goto (tgt := 264) hx hb rdX12_readsRule_256 (by decide) ?_
                  exact e_v F w hr hlocks ⟨YS.e hYn518 (rdR_I gV (by rw [eP]; exact rdI_n (Or.inr (Or.inr hb506))) (rdS_y (by omega) (tok_3.mp (by omega)).1 (tok_3.mp (by omega)).2)), hFn518⟩ rdX12_readsRule_264
      · subst c9
        refine lv_istore_n (lv' := [(1, .int (zI 4)), (0, .ref (B + 146))]) hx hb rdX12_readsRule_63 rfl hl (by decide) rfl (fun ls hl => ?_)
        refine lv_aload_n hx hb rdX12_readsRule_64 rfl (lv_at hl 1 rfl) ?_
        refine f_12_17 F w (a := 146) rfl rtb_146 rdX12_readsRule_65 ?_
        refine lv_iconst (v := zI 0) hx hb rdX12_readsRule_68 rfl ?_
        refine lv_iload_n hx hb rdX12_readsRule_69 rfl (lv_at hl 0 rfl) ?_
        refine g_iast F w (a := 153) rfl (j := 0) ⟨by decide, by decide⟩ (by omega) rdX12_readsRule_70 (fun H locs w => ?_)
        refine lv_iload_n hx hb rdX12_readsRule_71 rfl (lv_at hl 0 rfl) ?_
        refine lv_bipush (v := zI 8) hx hb rdX12_readsRule_72 (by decide) ?_
        refine z_icmp_ne (tgt := 90) hx hb (by omega) (by omega) rdX12_readsRule_74 (by decide) (fun c520 => ?_) (fun c520 => False.elim (by omega))
        refine lv_iload_n hx hb rdX12_readsRule_90 rfl (lv_at hl 0 rfl) ?_
        refine z_if_eq (tgt := 119) hx hb (by omega) rdX12_readsRule_91 (by decide) (fun c521 => False.elim (by omega)) (fun c521 => ?_)
        refine lv_aload_n hx hb rdX12_readsRule_94 rfl (lv_at hl 1 rfl) ?_
        refine f_12_17 F w (a := 146) rfl rtb_146 rdX12_readsRule_95 ?_
        refine lv_iconst (v := zI 2) hx hb rdX12_readsRule_98 rfl ?_
        refine lv_aload_n hx hb rdX12_readsRule_99 rfl (lv_at hl 1 rfl) ?_
        refine lv_bipush (v := zI 11) hx hb rdX12_readsRule_100 (by decide) ?_
        refine lv_iload_n hx hb rdX12_readsRule_102 rfl (lv_at hl 0 rfl) ?_
        refine lv_bipush (v := zI 9) hx hb rdX12_readsRule_103 (by decide) ?_
        refine z_icmp_ne (tgt := 113) hx hb (by omega) (by omega) rdX12_readsRule_105 (by decide) (fun c522 => ?_) (fun c522 => False.elim (by omega))
        refine lv_bipush (v := zI 14) hx hb rdX12_readsRule_113 (by decide) ?_
        have Yq523 : YS (st Ma372 153 0 (zI 4)) T tn (rdV T tn b) := hV
        have Fq523 : FrY (st Ma372 153 0 (zI 4)) M := FrY.o hFn371
        generalize (st Ma372 153 0 (zI 4)) = Mzq523 at w Yq523 Fq523
        refine k_Vi F w (As := [.int (zI 11), .int (zI 14)]) (rest := [.int (zI 2), .ref (B + 153)]) (a := 146) (kd_lt (a := 146) (show kd 146 = (12, 0, 0) from rfl) (by decide)) (sh_12 rfl _ _) rfl (t_needs hT (x := (rdV T tn b)) Yq523 (lo := 11) (hi := 14) (by decide) (by decide)) rgv_X12_227 rhv_X12_needs ⟨(Nat.le_of_ble_eq_true rfl), (Nat.le_of_ble_eq_true rfl)⟩ hl.1 rfl (Nat.le_of_ble_eq_true rfl) ⟨Nat.zero_le _, Nat.zero_le _⟩ rdX12_readsRule_115 (fun r Ma525 H locs hp w => ?_)
        rcases hp with ⟨vn524, rfl, hFn524, -, -, -, hSn524, hWn524⟩
        have hFn524 : FrY Ma525 M := FrY.tr Fq523 (FrY.w hFn524)
        refine g_iast F w (a := 153) rfl (j := 2) ⟨by decide, by decide⟩ (by omega) rdX12_readsRule_118 (fun H locs w => ?_)
        refine lv_iload_n hx hb rdX12_readsRule_119 rfl (lv_at hl 0 rfl) ?_
        refine lv_bipush (v := zI 7) hx hb rdX12_readsRule_120 (by decide) ?_
        refine z_icmp_ne (tgt := 148) hx hb (by omega) (by omega) rdX12_readsRule_122 (by decide) (fun c526 => ?_) (fun c526 => False.elim (by omega))
        refine lv_iload_n hx hb rdX12_readsRule_148 rfl (lv_at hl 0 rfl) ?_
        refine k_Si F w (As := [.int (zI 4)]) (rest := []) (t_hasSide (z := 4) (by omega)) rgs_X12_137 rhs_X12_hasSide ⟨(Nat.le_of_ble_eq_true rfl), (Nat.le_of_ble_eq_true rfl)⟩ hl.1 rfl (Nat.le_of_ble_eq_true rfl) ⟨Nat.zero_le _, Nat.zero_le _⟩ rdX12_readsRule_149 (fun r Ma528 H locs hp w => ?_)
        rcases hp with ⟨⟨hb527, rfl⟩ | ⟨hb527, rfl⟩, hMe⟩
        · rw [hMe] at w
          refine z_if_eq (tgt := 169) hx hb (by omega) rdX12_readsRule_152 (by decide) (fun c529 => False.elim (by omega)) (fun c529 => ?_)
          refine lv_aload_n hx hb rdX12_readsRule_155 rfl (lv_at hl 1 rfl) ?_
          refine f_12_17 F w (a := 146) rfl rtb_146 rdX12_readsRule_156 ?_
          refine lv_iconst (v := zI 4) hx hb rdX12_readsRule_159 rfl ?_
          refine lv_aload_n hx hb rdX12_readsRule_160 rfl (lv_at hl 1 rfl) ?_
          refine lv_bipush (v := zI 15) hx hb rdX12_readsRule_161 (by decide) ?_
          refine lv_bipush (v := zI 16) hx hb rdX12_readsRule_163 (by decide) ?_
          have Yq530 : YS (st Ma525 153 2 (zI vn524)) T tn (rdC T tn 11 14 2 (rdV T tn b)) := hSn524 2
          have Fq530 : FrY (st Ma525 153 2 (zI vn524)) M := FrY.o hFn524
          generalize (st Ma525 153 2 (zI vn524)) = Mzq530 at w Yq530 Fq530
          refine k_Vi F w (As := [.int (zI 15), .int (zI 16)]) (rest := [.int (zI 4), .ref (B + 153)]) (a := 146) (kd_lt (a := 146) (show kd 146 = (12, 0, 0) from rfl) (by decide)) (sh_12 rfl _ _) rfl (t_needs hT (x := (rdC T tn 11 14 2 (rdV T tn b))) Yq530 (lo := 15) (hi := 16) (by decide) (by decide)) rgv_X12_227 rhv_X12_needs ⟨(Nat.le_of_ble_eq_true rfl), (Nat.le_of_ble_eq_true rfl)⟩ hl.1 rfl (Nat.le_of_ble_eq_true rfl) ⟨Nat.zero_le _, Nat.zero_le _⟩ rdX12_readsRule_165 (fun r Ma532 H locs hp w => ?_)
          rcases hp with ⟨vn531, rfl, hFn531, -, -, -, hSn531, hWn531⟩
          have hFn531 : FrY Ma532 M := FrY.tr Fq530 (FrY.w hFn531)
          refine g_iast F w (a := 153) rfl (j := 4) ⟨by decide, by decide⟩ (by omega) rdX12_readsRule_168 (fun H locs w => ?_)
          refine lv_iload_n hx hb rdX12_readsRule_169 rfl (lv_at hl 0 rfl) ?_
          refine lv_iconst (v := zI 3) hx hb rdX12_readsRule_170 rfl ?_
          refine z_icmp_eq (tgt := 180) hx hb (by omega) (by omega) rdX12_readsRule_171 (by decide) (fun c533 => False.elim (by omega)) (fun c533 => ?_)
          refine lv_iload_n hx hb rdX12_readsRule_174 rfl (lv_at hl 0 rfl) ?_
          refine lv_bipush (v := zI 8) hx hb rdX12_readsRule_175 (by decide) ?_
          refine z_icmp_ne (tgt := 194) hx hb (by omega) (by omega) rdX12_readsRule_177 (by decide) (fun c534 => ?_) (fun c534 => False.elim (by omega))
          refine lv_iload_n hx hb rdX12_readsRule_194 rfl (lv_at hl 0 rfl) ?_
          refine lv_iconst (v := zI 1) hx hb rdX12_readsRule_195 rfl ?_
          refine z_icmp_ne (tgt := 209) hx hb (by omega) (by omega) rdX12_readsRule_196 (by decide) (fun c535 => ?_) (fun c535 => False.elim (by omega))
          have Yq536 : YS (st Ma532 153 4 (zI vn531)) T tn (rdC T tn 15 16 4 (rdC T tn 11 14 2 (rdV T tn b))) := hSn531 4
          have Fq536 : FrY (st Ma532 153 4 (zI vn531)) M := FrY.o hFn531
          generalize (st Ma532 153 4 (zI vn531)) = Mzq536 at w Yq536 Fq536
          have hGf := Yq536.1.1
          have eP : rdP T tn ((rdV T tn b).2.2 0) (rdV T tn b) = (rdC T tn 15 16 4 (rdC T tn 11 14 2 (rdV T tn b))) := ((rdP_0 (by omega)).trans (by rw [rdK_o (by omega) (by omega)]))
          refine lv_aload_n hx hb rdX12_readsRule_209 rfl (lv_at hl 1 rfl) ?_
          refine f_12_16 F w (a := 146) rfl rtb_139 rdX12_readsRule_210 ?_
          refine r_val (v := (zI (1 - ((Prod.fst (rdC T tn 15 16 4 (rdC T tn 11 14 2 (rdV T tn b))) : Nat) : Int)))) (Yq536.2.2.2.2.1) ?_
          refine z_if_ne (tgt := 236) hx hb (by omega) rdX12_readsRule_213 (by decide) (fun c537 => ?_) (fun c537 => ?_)
          · have hGi := Yq536.1.1
            refine lv_aload_n hx hb rdX12_readsRule_236 rfl (lv_at hl 1 rfl) ?_
            refine f_12_16 F w (a := 146) rfl rtb_139 rdX12_readsRule_237 ?_
            refine r_val (v := (zI (1 - ((Prod.fst (rdC T tn 15 16 4 (rdC T tn 11 14 2 (rdV T tn b))) : Nat) : Int)))) (Yq536.2.2.2.2.1) ?_
            refine z_if_eq (tgt := 244) hx hb (by omega) rdX12_readsRule_240 (by decide) (fun c538 => False.elim (by omega)) (fun c538 => ?_)
            exact e_v F w hr hlocks ⟨YS.e Yq536 ((rdR_1 gV (by rw [eP]; omega)).trans eP), Fq536⟩ rdX12_readsRule_243
          · refine lv_iload_n hx hb rdX12_readsRule_216 rfl (lv_at hl 0 rfl) ?_
            refine k_Si F w (As := [.int (zI 4)]) (rest := []) (t_isBySyllables (z := 4) (by omega)) rgs_X12_140 rhs_X12_isBySyllables ⟨(Nat.le_of_ble_eq_true rfl), (Nat.le_of_ble_eq_true rfl)⟩ hl.1 rfl (Nat.le_of_ble_eq_true rfl) ⟨Nat.zero_le _, Nat.zero_le _⟩ rdX12_readsRule_217 (fun r Ma540 H locs hp w => ?_)
            rcases hp with ⟨⟨hb539, rfl⟩ | ⟨hb539, rfl⟩, hMe⟩
            · exact absurd hb539 (by omega)
            · rw [hMe] at w
              refine z_if_ne (tgt := 236) hx hb (by omega) rdX12_readsRule_220 (by decide) (fun c541 => False.elim (by omega)) (fun c541 => ?_)
              refine lv_aload_n hx hb rdX12_readsRule_223 rfl (lv_at hl 1 rfl) ?_
              refine lv_bipush (v := zI 20) hx hb rdX12_readsRule_224 (by decide) ?_
              refine k_Vi F w (As := [.int (zI 20)]) (rest := []) (a := 146) (kd_lt (a := 146) (show kd 146 = (12, 0, 0) from rfl) (by decide)) (sh_12 rfl _ _) rfl (t_isWord hT (x := (rdC T tn 15 16 4 (rdC T tn 11 14 2 (rdV T tn b)))) Yq536 (lo := 20) (by decide)) rgv_X12_224 rhv_X12_isWord ⟨(Nat.le_of_ble_eq_true rfl), (Nat.le_of_ble_eq_true rfl)⟩ hl.1 rfl (Nat.le_of_ble_eq_true rfl) ⟨Nat.zero_le _, Nat.zero_le _⟩ rdX12_readsRule_226 (fun r Ma543 H locs hp w => ?_)
              rcases hp with ⟨⟨hb542, rfl⟩ | ⟨hb542, rfl⟩, hMe⟩
              · rw [hMe] at w
                refine z_if_eq (tgt := 236) hx hb (by omega) rdX12_readsRule_229 (by decide) (fun c544 => False.elim (by omega)) (fun c544 => ?_)
                refine lv_aload_n hx hb rdX12_readsRule_232 rfl (lv_at hl 1 rfl) ?_
                refine k_Vv F w (As := []) (rest := []) (a := 146) (kd_lt (a := 146) (show kd 146 = (12, 0, 0) from rfl) (by decide)) (sh_12 rfl _ _) rfl (t_readsTest hT (x := (rdC T tn 15 16 4 (rdC T tn 11 14 2 (rdV T tn b)))) Yq536 (by omega) (Or.inl (tk_w0 (T := T) (N := tn) Yq536.2.2.2.1.1 hb542))) rgv_X12_233 rhv_X12_readsTest ⟨(Nat.le_of_ble_eq_true rfl), (Nat.le_of_ble_eq_true rfl)⟩ hl.1 rfl (Nat.le_of_ble_eq_true rfl) ⟨Nat.zero_le _, Nat.zero_le _⟩ rdX12_readsRule_233 (fun Ma546 H locs hp w => ?_)
                rcases hp with ⟨hYn545, hFn545⟩
                have hFn545 : FrY Ma546 M := FrY.tr Fq536 hFn545
                have hGi := hYn545.1.1
                refine lv_aload_n hx hb rdX12_readsRule_236 rfl (lv_at hl 1 rfl) ?_
                refine f_12_16 F w (a := 146) rfl rtb_139 rdX12_readsRule_237 ?_
                refine r_val (v := (zI (1 - ((Prod.fst (rdT T tn (1, en T tn (Prod.fst (Prod.snd (rdC T tn 15 16 4 (rdC T tn 11 14 2 (rdV T tn b))))), Prod.snd (Prod.snd (rdC T tn 15 16 4 (rdC T tn 11 14 2 (rdV T tn b)))))) : Nat) : Int)))) (hYn545.2.2.2.2.1) ?_
                refine z_if_eq (tgt := 244) hx hb (by omega) rdX12_readsRule_240 (by decide) (fun c547 => ?_) (fun c547 => ?_)
                · refine lv_aload_n hx hb rdX12_readsRule_244 rfl (lv_at hl 1 rfl) ?_
                  refine f_12_13 F w (a := 146) rfl rtb_127 rdX12_readsRule_245 ?_
                  have htl547 := tok_le T tn (Prod.fst (Prod.snd (rdT T tn (1, en T tn (Prod.fst (Prod.snd (rdC T tn 15 16 4 (rdC T tn 11 14 2 (rdV T tn b))))), Prod.snd (Prod.snd (rdC T tn 15 16 4 (rdC T tn 11 14 2 (rdV T tn b))))))))
                  refine r_val (v := (zI (((tok T tn (Prod.fst (Prod.snd (rdT T tn (1, en T tn (Prod.fst (Prod.snd (rdC T tn 15 16 4 (rdC T tn 11 14 2 (rdV T tn b))))), Prod.snd (Prod.snd (rdC T tn 15 16 4 (rdC T tn 11 14 2 (rdV T tn b))))))))) : Nat) : Int))) (hYn545.2.2.2.1.2.2.2.1) ?_
                  refine lv_iconst (v := zI 3) hx hb rdX12_readsRule_248 rfl ?_
                  refine z_icmp_ne (tgt := 259) hx hb (by omega) (by omega) rdX12_readsRule_249 (by decide) (fun c548 => ?_) (fun c548 => ?_)
                  · refine lv_aload_n hx hb rdX12_readsRule_259 rfl (lv_at hl 1 rfl) ?_
                    refine lv_iconst (v := zI 1) hx hb rdX12_readsRule_260 rfl ?_
                    refine u_12_16 F w (a := 146) rfl (by decide) (by decide) rtb_139 rdX12_readsRule_261 (fun H locs w => ?_)
                    exact e_v F w hr hlocks ⟨YS.e (YS.bad hYn545) (rdR_I gV (by rw [eP]; exact rdI_y (by omega) (by omega) hb542) (rdS_n (by omega) (fun q9 => absurd (tok_3.mpr q9) (by omega)))), FrY.t hFn545⟩ rdX12_readsRule_264
                  · refine lv_aload_n hx hb rdX12_readsRule_252 rfl (lv_at hl 1 rfl) ?_
                    refine k_Vv F w (As := []) (rest := []) (a := 146) (kd_lt (a := 146) (show kd 146 = (12, 0, 0) from rfl) (by decide)) (sh_12 rfl _ _) rfl (t_goesOn hT hYn545.2.1 hYn545.2.2.1 (E := en T tn (Prod.fst (Prod.snd (rdT T tn (1, en T tn (Prod.fst (Prod.snd (rdC T tn 15 16 4 (rdC T tn 11 14 2 (rdV T tn b))))), Prod.snd (Prod.snd (rdC T tn 15 16 4 (rdC T tn 11 14 2 (rdV T tn b))))))))) (wa := tok T tn (Prod.fst (Prod.snd (rdT T tn (1, en T tn (Prod.fst (Prod.snd (rdC T tn 15 16 4 (rdC T tn 11 14 2 (rdV T tn b))))), Prod.snd (Prod.snd (rdC T tn 15 16 4 (rdC T tn 11 14 2 (rdV T tn b))))))))) (en_le hYn545.2.2.2.1.1).2.1 hYn545.2.2.2.1.2.2.1 hYn545.2.2.2.1.2.2.2.1 (tok_le T tn _) (tok_w hYn545.2.2.2.1.1 (Or.inr (Or.inr (by omega))))) rgv_X12_221 rhv_X12_goesOn ⟨(Nat.le_of_ble_eq_true rfl), (Nat.le_of_ble_eq_true rfl)⟩ hl.1 rfl (Nat.le_of_ble_eq_true rfl) ⟨Nat.zero_le _, Nat.zero_le _⟩ rdX12_readsRule_253 (fun Ma550 H locs hp w => ?_)
                    rcases hp with ⟨hRn549, hGn549⟩
                    have hYn549 := YS.go hYn545 (by omega) hRn549 hGn549
                    have hFn549 : FrY Ma550 M := FrY.tr hFn545 (FrY.w (FrW.g hGn549))
                    refine lv_goto (tgt := 264) hx hb rdX12_readsRule_256 (by decide) ?_
                    exact e_v F w hr hlocks ⟨YS.e hYn549 (rdR_I gV (by rw [eP]; exact rdI_y (by omega) (by omega) hb542) (rdS_y (by omega) (tok_3.mp (by omega)).1 (tok_3.mp (by omega)).2)), hFn549⟩ rdX12_readsRule_264
                · exact e_v F w hr hlocks ⟨YS.e hYn545 (rdR_2 gV (by rw [eP]; exact rdI_y (by omega) (by omega) hb542) (by omega)), hFn545⟩ rdX12_readsRule_243
              · rw [hMe] at w
                refine z_if_eq (tgt := 236) hx hb (by omega) rdX12_readsRule_229 (by decide) (fun c551 => ?_) (fun c551 => False.elim (by omega))
                have hGi := Yq536.1.1
                refine lv_aload_n hx hb rdX12_readsRule_236 rfl (lv_at hl 1 rfl) ?_
                refine f_12_16 F w (a := 146) rfl rtb_139 rdX12_readsRule_237 ?_
                refine r_val (v := (zI (1 - ((Prod.fst (rdC T tn 15 16 4 (rdC T tn 11 14 2 (rdV T tn b))) : Nat) : Int)))) (Yq536.2.2.2.2.1) ?_
                refine z_if_eq (tgt := 244) hx hb (by omega) rdX12_readsRule_240 (by decide) (fun c552 => ?_) (fun c552 => False.elim (by omega))
                refine lv_aload_n hx hb rdX12_readsRule_244 rfl (lv_at hl 1 rfl) ?_
                refine f_12_13 F w (a := 146) rfl rtb_127 rdX12_readsRule_245 ?_
                have htl552 := tok_le T tn (Prod.fst (Prod.snd (rdC T tn 15 16 4 (rdC T tn 11 14 2 (rdV T tn b)))))
                refine r_val (v := (zI (((tok T tn (Prod.fst (Prod.snd (rdC T tn 15 16 4 (rdC T tn 11 14 2 (rdV T tn b)))))) : Nat) : Int))) (Yq536.2.2.2.1.2.2.2.1) ?_
                refine lv_iconst (v := zI 3) hx hb rdX12_readsRule_248 rfl ?_
                refine z_icmp_ne (tgt := 259) hx hb (by omega) (by omega) rdX12_readsRule_249 (by decide) (fun c553 => ?_) (fun c553 => ?_)
                · refine lv_aload_n hx hb rdX12_readsRule_259 rfl (lv_at hl 1 rfl) ?_
                  refine lv_iconst (v := zI 1) hx hb rdX12_readsRule_260 rfl ?_
                  refine u_12_16 F w (a := 146) rfl (by decide) (by decide) rtb_139 rdX12_readsRule_261 (fun H locs w => ?_)
                  exact e_v F w hr hlocks ⟨YS.e (YS.bad Yq536) (rdR_I gV (by rw [eP]; exact rdI_n (Or.inr (Or.inr hb542))) (rdS_n (by omega) (fun q9 => absurd (tok_3.mpr q9) (by omega)))), FrY.t Fq536⟩ rdX12_readsRule_264
                · refine lv_aload_n hx hb rdX12_readsRule_252 rfl (lv_at hl 1 rfl) ?_
                  refine k_Vv F w (As := []) (rest := []) (a := 146) (kd_lt (a := 146) (show kd 146 = (12, 0, 0) from rfl) (by decide)) (sh_12 rfl _ _) rfl (t_goesOn hT Yq536.2.1 Yq536.2.2.1 (E := en T tn (Prod.fst (Prod.snd (rdC T tn 15 16 4 (rdC T tn 11 14 2 (rdV T tn b)))))) (wa := tok T tn (Prod.fst (Prod.snd (rdC T tn 15 16 4 (rdC T tn 11 14 2 (rdV T tn b)))))) (en_le Yq536.2.2.2.1.1).2.1 Yq536.2.2.2.1.2.2.1 Yq536.2.2.2.1.2.2.2.1 (tok_le T tn _) (tok_w Yq536.2.2.2.1.1 (Or.inr (Or.inr (by omega))))) rgv_X12_221 rhv_X12_goesOn ⟨(Nat.le_of_ble_eq_true rfl), (Nat.le_of_ble_eq_true rfl)⟩ hl.1 rfl (Nat.le_of_ble_eq_true rfl) ⟨Nat.zero_le _, Nat.zero_le _⟩ rdX12_readsRule_253 (fun Ma555 H locs hp w => ?_)
                  rcases hp with ⟨hRn554, hGn554⟩
                  have hYn554 := YS.go Yq536 (by omega) hRn554 hGn554
                  have hFn554 : FrY Ma555 M := FrY.tr Fq536 (FrY.w (FrW.g hGn554))
                  refine lv_goto (tgt := 264) hx hb rdX12_readsRule_256 (by decide) ?_
                  exact e_v F w hr hlocks ⟨YS.e hYn554 (rdR_I gV (by rw [eP]; exact rdI_n (Or.inr (Or.inr hb542))) (rdS_y (by omega) (tok_3.mp (by omega)).1 (tok_3.mp (by omega)).2)), hFn554⟩ rdX12_readsRule_264
        · exact absurd hb527 (by omega)
      · subst c9
        refine lv_istore_n (lv' := [(1, .int (zI 5)), (0, .ref (B + 146))]) hx hb rdX12_readsRule_63 rfl hl (by decide) rfl (fun ls hl => ?_)
        refine lv_aload_n hx hb rdX12_readsRule_64 rfl (lv_at hl 1 rfl) ?_
        refine f_12_17 F w (a := 146) rfl rtb_146 rdX12_readsRule_65 ?_
        refine lv_iconst (v := zI 0) hx hb rdX12_readsRule_68 rfl ?_
        refine lv_iload_n hx hb rdX12_readsRule_69 rfl (lv_at hl 0 rfl) ?_
        refine g_iast F w (a := 153) rfl (j := 0) ⟨by decide, by decide⟩ (by omega) rdX12_readsRule_70 (fun H locs w => ?_)
        refine lv_iload_n hx hb rdX12_readsRule_71 rfl (lv_at hl 0 rfl) ?_
        refine lv_bipush (v := zI 8) hx hb rdX12_readsRule_72 (by decide) ?_
        refine z_icmp_ne (tgt := 90) hx hb (by omega) (by omega) rdX12_readsRule_74 (by decide) (fun c556 => ?_) (fun c556 => False.elim (by omega))
        refine lv_iload_n hx hb rdX12_readsRule_90 rfl (lv_at hl 0 rfl) ?_
        refine z_if_eq (tgt := 119) hx hb (by omega) rdX12_readsRule_91 (by decide) (fun c557 => False.elim (by omega)) (fun c557 => ?_)
        refine lv_aload_n hx hb rdX12_readsRule_94 rfl (lv_at hl 1 rfl) ?_
        refine f_12_17 F w (a := 146) rfl rtb_146 rdX12_readsRule_95 ?_
        refine lv_iconst (v := zI 2) hx hb rdX12_readsRule_98 rfl ?_
        refine lv_aload_n hx hb rdX12_readsRule_99 rfl (lv_at hl 1 rfl) ?_
        refine lv_bipush (v := zI 11) hx hb rdX12_readsRule_100 (by decide) ?_
        refine lv_iload_n hx hb rdX12_readsRule_102 rfl (lv_at hl 0 rfl) ?_
        refine lv_bipush (v := zI 9) hx hb rdX12_readsRule_103 (by decide) ?_
        refine z_icmp_ne (tgt := 113) hx hb (by omega) (by omega) rdX12_readsRule_105 (by decide) (fun c558 => ?_) (fun c558 => False.elim (by omega))
        refine lv_bipush (v := zI 14) hx hb rdX12_readsRule_113 (by decide) ?_
        have Yq559 : YS (st Ma372 153 0 (zI 5)) T tn (rdV T tn b) := hV
        have Fq559 : FrY (st Ma372 153 0 (zI 5)) M := FrY.o hFn371
        generalize (st Ma372 153 0 (zI 5)) = Mzq559 at w Yq559 Fq559
        refine k_Vi F w (As := [.int (zI 11), .int (zI 14)]) (rest := [.int (zI 2), .ref (B + 153)]) (a := 146) (kd_lt (a := 146) (show kd 146 = (12, 0, 0) from rfl) (by decide)) (sh_12 rfl _ _) rfl (t_needs hT (x := (rdV T tn b)) Yq559 (lo := 11) (hi := 14) (by decide) (by decide)) rgv_X12_227 rhv_X12_needs ⟨(Nat.le_of_ble_eq_true rfl), (Nat.le_of_ble_eq_true rfl)⟩ hl.1 rfl (Nat.le_of_ble_eq_true rfl) ⟨Nat.zero_le _, Nat.zero_le _⟩ rdX12_readsRule_115 (fun r Ma561 H locs hp w => ?_)
        rcases hp with ⟨vn560, rfl, hFn560, -, -, -, hSn560, hWn560⟩
        have hFn560 : FrY Ma561 M := FrY.tr Fq559 (FrY.w hFn560)
        refine g_iast F w (a := 153) rfl (j := 2) ⟨by decide, by decide⟩ (by omega) rdX12_readsRule_118 (fun H locs w => ?_)
        refine lv_iload_n hx hb rdX12_readsRule_119 rfl (lv_at hl 0 rfl) ?_
        refine lv_bipush (v := zI 7) hx hb rdX12_readsRule_120 (by decide) ?_
        refine z_icmp_ne (tgt := 148) hx hb (by omega) (by omega) rdX12_readsRule_122 (by decide) (fun c562 => ?_) (fun c562 => False.elim (by omega))
        refine lv_iload_n hx hb rdX12_readsRule_148 rfl (lv_at hl 0 rfl) ?_
        refine k_Si F w (As := [.int (zI 5)]) (rest := []) (t_hasSide (z := 5) (by omega)) rgs_X12_137 rhs_X12_hasSide ⟨(Nat.le_of_ble_eq_true rfl), (Nat.le_of_ble_eq_true rfl)⟩ hl.1 rfl (Nat.le_of_ble_eq_true rfl) ⟨Nat.zero_le _, Nat.zero_le _⟩ rdX12_readsRule_149 (fun r Ma564 H locs hp w => ?_)
        rcases hp with ⟨⟨hb563, rfl⟩ | ⟨hb563, rfl⟩, hMe⟩
        · exact absurd hb563 (by omega)
        · rw [hMe] at w
          refine z_if_eq (tgt := 169) hx hb (by omega) rdX12_readsRule_152 (by decide) (fun c565 => ?_) (fun c565 => False.elim (by omega))
          refine lv_iload_n hx hb rdX12_readsRule_169 rfl (lv_at hl 0 rfl) ?_
          refine lv_iconst (v := zI 3) hx hb rdX12_readsRule_170 rfl ?_
          refine z_icmp_eq (tgt := 180) hx hb (by omega) (by omega) rdX12_readsRule_171 (by decide) (fun c566 => False.elim (by omega)) (fun c566 => ?_)
          refine lv_iload_n hx hb rdX12_readsRule_174 rfl (lv_at hl 0 rfl) ?_
          refine lv_bipush (v := zI 8) hx hb rdX12_readsRule_175 (by decide) ?_
          refine z_icmp_ne (tgt := 194) hx hb (by omega) (by omega) rdX12_readsRule_177 (by decide) (fun c567 => ?_) (fun c567 => False.elim (by omega))
          refine lv_iload_n hx hb rdX12_readsRule_194 rfl (lv_at hl 0 rfl) ?_
          refine lv_iconst (v := zI 1) hx hb rdX12_readsRule_195 rfl ?_
          refine z_icmp_ne (tgt := 209) hx hb (by omega) (by omega) rdX12_readsRule_196 (by decide) (fun c568 => ?_) (fun c568 => False.elim (by omega))
          have Yq569 : YS (st Ma561 153 2 (zI vn560)) T tn (rdC T tn 11 14 2 (rdV T tn b)) := hSn560 2
          have Fq569 : FrY (st Ma561 153 2 (zI vn560)) M := FrY.o hFn560
          generalize (st Ma561 153 2 (zI vn560)) = Mzq569 at w Yq569 Fq569
          have hGf := Yq569.1.1
          have eP : rdP T tn ((rdV T tn b).2.2 0) (rdV T tn b) = (rdC T tn 11 14 2 (rdV T tn b)) := ((rdP_o (by omega)).trans (rdK_o (by omega) (by omega)))
          refine lv_aload_n hx hb rdX12_readsRule_209 rfl (lv_at hl 1 rfl) ?_
          refine f_12_16 F w (a := 146) rfl rtb_139 rdX12_readsRule_210 ?_
          refine r_val (v := (zI (1 - ((Prod.fst (rdC T tn 11 14 2 (rdV T tn b)) : Nat) : Int)))) (Yq569.2.2.2.2.1) ?_
          refine z_if_ne (tgt := 236) hx hb (by omega) rdX12_readsRule_213 (by decide) (fun c570 => ?_) (fun c570 => ?_)
          · have hGi := Yq569.1.1
            refine lv_aload_n hx hb rdX12_readsRule_236 rfl (lv_at hl 1 rfl) ?_
            refine f_12_16 F w (a := 146) rfl rtb_139 rdX12_readsRule_237 ?_
            refine r_val (v := (zI (1 - ((Prod.fst (rdC T tn 11 14 2 (rdV T tn b)) : Nat) : Int)))) (Yq569.2.2.2.2.1) ?_
            refine z_if_eq (tgt := 244) hx hb (by omega) rdX12_readsRule_240 (by decide) (fun c571 => False.elim (by omega)) (fun c571 => ?_)
            exact e_v F w hr hlocks ⟨YS.e Yq569 ((rdR_1 gV (by rw [eP]; omega)).trans eP), Fq569⟩ rdX12_readsRule_243
          · refine lv_iload_n hx hb rdX12_readsRule_216 rfl (lv_at hl 0 rfl) ?_
            refine k_Si F w (As := [.int (zI 5)]) (rest := []) (t_isBySyllables (z := 5) (by omega)) rgs_X12_140 rhs_X12_isBySyllables ⟨(Nat.le_of_ble_eq_true rfl), (Nat.le_of_ble_eq_true rfl)⟩ hl.1 rfl (Nat.le_of_ble_eq_true rfl) ⟨Nat.zero_le _, Nat.zero_le _⟩ rdX12_readsRule_217 (fun r Ma573 H locs hp w => ?_)
            rcases hp with ⟨⟨hb572, rfl⟩ | ⟨hb572, rfl⟩, hMe⟩
            · exact absurd hb572 (by omega)
            · rw [hMe] at w
              refine z_if_ne (tgt := 236) hx hb (by omega) rdX12_readsRule_220 (by decide) (fun c574 => False.elim (by omega)) (fun c574 => ?_)
              refine lv_aload_n hx hb rdX12_readsRule_223 rfl (lv_at hl 1 rfl) ?_
              refine lv_bipush (v := zI 20) hx hb rdX12_readsRule_224 (by decide) ?_
              refine k_Vi F w (As := [.int (zI 20)]) (rest := []) (a := 146) (kd_lt (a := 146) (show kd 146 = (12, 0, 0) from rfl) (by decide)) (sh_12 rfl _ _) rfl (t_isWord hT (x := (rdC T tn 11 14 2 (rdV T tn b))) Yq569 (lo := 20) (by decide)) rgv_X12_224 rhv_X12_isWord ⟨(Nat.le_of_ble_eq_true rfl), (Nat.le_of_ble_eq_true rfl)⟩ hl.1 rfl (Nat.le_of_ble_eq_true rfl) ⟨Nat.zero_le _, Nat.zero_le _⟩ rdX12_readsRule_226 (fun r Ma576 H locs hp w => ?_)
              rcases hp with ⟨⟨hb575, rfl⟩ | ⟨hb575, rfl⟩, hMe⟩
              · rw [hMe] at w
                refine z_if_eq (tgt := 236) hx hb (by omega) rdX12_readsRule_229 (by decide) (fun c577 => False.elim (by omega)) (fun c577 => ?_)
                refine lv_aload_n hx hb rdX12_readsRule_232 rfl (lv_at hl 1 rfl) ?_
                refine k_Vv F w (As := []) (rest := []) (a := 146) (kd_lt (a := 146) (show kd 146 = (12, 0, 0) from rfl) (by decide)) (sh_12 rfl _ _) rfl (t_readsTest hT (x := (rdC T tn 11 14 2 (rdV T tn b))) Yq569 (by omega) (Or.inl (tk_w0 (T := T) (N := tn) Yq569.2.2.2.1.1 hb575))) rgv_X12_233 rhv_X12_readsTest ⟨(Nat.le_of_ble_eq_true rfl), (Nat.le_of_ble_eq_true rfl)⟩ hl.1 rfl (Nat.le_of_ble_eq_true rfl) ⟨Nat.zero_le _, Nat.zero_le _⟩ rdX12_readsRule_233 (fun Ma579 H locs hp w => ?_)
                rcases hp with ⟨hYn578, hFn578⟩
                have hFn578 : FrY Ma579 M := FrY.tr Fq569 hFn578
                have hGi := hYn578.1.1
                refine lv_aload_n hx hb rdX12_readsRule_236 rfl (lv_at hl 1 rfl) ?_
                refine f_12_16 F w (a := 146) rfl rtb_139 rdX12_readsRule_237 ?_
                refine r_val (v := (zI (1 - ((Prod.fst (rdT T tn (1, en T tn (Prod.fst (Prod.snd (rdC T tn 11 14 2 (rdV T tn b)))), Prod.snd (Prod.snd (rdC T tn 11 14 2 (rdV T tn b))))) : Nat) : Int)))) (hYn578.2.2.2.2.1) ?_
                refine z_if_eq (tgt := 244) hx hb (by omega) rdX12_readsRule_240 (by decide) (fun c580 => ?_) (fun c580 => ?_)
                · refine lv_aload_n hx hb rdX12_readsRule_244 rfl (lv_at hl 1 rfl) ?_
                  refine f_12_13 F w (a := 146) rfl rtb_127 rdX12_readsRule_245 ?_
                  have htl580 := tok_le T tn (Prod.fst (Prod.snd (rdT T tn (1, en T tn (Prod.fst (Prod.snd (rdC T tn 11 14 2 (rdV T tn b)))), Prod.snd (Prod.snd (rdC T tn 11 14 2 (rdV T tn b)))))))
                  refine r_val (v := (zI (((tok T tn (Prod.fst (Prod.snd (rdT T tn (1, en T tn (Prod.fst (Prod.snd (rdC T tn 11 14 2 (rdV T tn b)))), Prod.snd (Prod.snd (rdC T tn 11 14 2 (rdV T tn b)))))))) : Nat) : Int))) (hYn578.2.2.2.1.2.2.2.1) ?_
                  refine lv_iconst (v := zI 3) hx hb rdX12_readsRule_248 rfl ?_
                  refine z_icmp_ne (tgt := 259) hx hb (by omega) (by omega) rdX12_readsRule_249 (by decide) (fun c581 => ?_) (fun c581 => ?_)
                  · refine lv_aload_n hx hb rdX12_readsRule_259 rfl (lv_at hl 1 rfl) ?_
                    refine lv_iconst (v := zI 1) hx hb rdX12_readsRule_260 rfl ?_
                    refine u_12_16 F w (a := 146) rfl (by decide) (by decide) rtb_139 rdX12_readsRule_261 (fun H locs w => ?_)
                    exact e_v F w hr hlocks ⟨YS.e (YS.bad hYn578) (rdR_I gV (by rw [eP]; exact rdI_y (by omega) (by omega) hb575) (rdS_n (by omega) (fun q9 => absurd (tok_3.mpr q9) (by omega)))), FrY.t hFn578⟩ rdX12_readsRule_264
                  · refine lv_aload_n hx hb rdX12_readsRule_252 rfl (lv_at hl 1 rfl) ?_
                    refine k_Vv F w (As := []) (rest := []) (a := 146) (kd_lt (a := 146) (show kd 146 = (12, 0, 0) from rfl) (by decide)) (sh_12 rfl _ _) rfl (t_goesOn hT hYn578.2.1 hYn578.2.2.1 (E := en T tn (Prod.fst (Prod.snd (rdT T tn (1, en T tn (Prod.fst (Prod.snd (rdC T tn 11 14 2 (rdV T tn b)))), Prod.snd (Prod.snd (rdC T tn 11 14 2 (rdV T tn b)))))))) (wa := tok T tn (Prod.fst (Prod.snd (rdT T tn (1, en T tn (Prod.fst (Prod.snd (rdC T tn 11 14 2 (rdV T tn b)))), Prod.snd (Prod.snd (rdC T tn 11 14 2 (rdV T tn b)))))))) (en_le hYn578.2.2.2.1.1).2.1 hYn578.2.2.2.1.2.2.1 hYn578.2.2.2.1.2.2.2.1 (tok_le T tn _) (tok_w hYn578.2.2.2.1.1 (Or.inr (Or.inr (by omega))))) rgv_X12_221 rhv_X12_goesOn ⟨(Nat.le_of_ble_eq_true rfl), (Nat.le_of_ble_eq_true rfl)⟩ hl.1 rfl (Nat.le_of_ble_eq_true rfl) ⟨Nat.zero_le _, Nat.zero_le _⟩ rdX12_readsRule_253 (fun Ma583 H locs hp w => ?_)
                    rcases hp with ⟨hRn582, hGn582⟩
                    have hYn582 := YS.go hYn578 (by omega) hRn582 hGn582
                    have hFn582 : FrY Ma583 M := FrY.tr hFn578 (FrY.w (FrW.g hGn582))
                    refine lv_goto (tgt := 264) hx hb rdX12_readsRule_256 (by decide) ?_
                    exact e_v F w hr hlocks ⟨YS.e hYn582 (rdR_I gV (by rw [eP]; exact rdI_y (by omega) (by omega) hb575) (rdS_y (by omega) (tok_3.mp (by omega)).1 (tok_3.mp (by omega)).2)), hFn582⟩ rdX12_readsRule_264
                · exact e_v F w hr hlocks ⟨YS.e hYn578 (rdR_2 gV (by rw [eP]; exact rdI_y (by omega) (by omega) hb575) (by omega)), hFn578⟩ rdX12_readsRule_243
              · rw [hMe] at w
                refine z_if_eq (tgt := 236) hx hb (by omega) rdX12_readsRule_229 (by decide) (fun c584 => ?_) (fun c584 => False.elim (by omega))
                have hGi := Yq569.1.1
                refine lv_aload_n hx hb rdX12_readsRule_236 rfl (lv_at hl 1 rfl) ?_
                refine f_12_16 F w (a := 146) rfl rtb_139 rdX12_readsRule_237 ?_
                refine r_val (v := (zI (1 - ((Prod.fst (rdC T tn 11 14 2 (rdV T tn b)) : Nat) : Int)))) (Yq569.2.2.2.2.1) ?_
                refine z_if_eq (tgt := 244) hx hb (by omega) rdX12_readsRule_240 (by decide) (fun c585 => ?_) (fun c585 => False.elim (by omega))
                refine lv_aload_n hx hb rdX12_readsRule_244 rfl (lv_at hl 1 rfl) ?_
                refine f_12_13 F w (a := 146) rfl rtb_127 rdX12_readsRule_245 ?_
                have htl585 := tok_le T tn (Prod.fst (Prod.snd (rdC T tn 11 14 2 (rdV T tn b))))
                refine r_val (v := (zI (((tok T tn (Prod.fst (Prod.snd (rdC T tn 11 14 2 (rdV T tn b))))) : Nat) : Int))) (Yq569.2.2.2.1.2.2.2.1) ?_
                refine lv_iconst (v := zI 3) hx hb rdX12_readsRule_248 rfl ?_
                refine z_icmp_ne (tgt := 259) hx hb (by omega) (by omega) rdX12_readsRule_249 (by decide) (fun c586 => ?_) (fun c586 => ?_)
                · refine lv_aload_n hx hb rdX12_readsRule_259 rfl (lv_at hl 1 rfl) ?_
                  refine lv_iconst (v := zI 1) hx hb rdX12_readsRule_260 rfl ?_
                  refine u_12_16 F w (a := 146) rfl (by decide) (by decide) rtb_139 rdX12_readsRule_261 (fun H locs w => ?_)
                  exact e_v F w hr hlocks ⟨YS.e (YS.bad Yq569) (rdR_I gV (by rw [eP]; exact rdI_n (Or.inr (Or.inr hb575))) (rdS_n (by omega) (fun q9 => absurd (tok_3.mpr q9) (by omega)))), FrY.t Fq569⟩ rdX12_readsRule_264
                · refine lv_aload_n hx hb rdX12_readsRule_252 rfl (lv_at hl 1 rfl) ?_
                  refine k_Vv F w (As := []) (rest := []) (a := 146) (kd_lt (a := 146) (show kd 146 = (12, 0, 0) from rfl) (by decide)) (sh_12 rfl _ _) rfl (t_goesOn hT Yq569.2.1 Yq569.2.2.1 (E := en T tn (Prod.fst (Prod.snd (rdC T tn 11 14 2 (rdV T tn b))))) (wa := tok T tn (Prod.fst (Prod.snd (rdC T tn 11 14 2 (rdV T tn b))))) (en_le Yq569.2.2.2.1.1).2.1 Yq569.2.2.2.1.2.2.1 Yq569.2.2.2.1.2.2.2.1 (tok_le T tn _) (tok_w Yq569.2.2.2.1.1 (Or.inr (Or.inr (by omega))))) rgv_X12_221 rhv_X12_goesOn ⟨(Nat.le_of_ble_eq_true rfl), (Nat.le_of_ble_eq_true rfl)⟩ hl.1 rfl (Nat.le_of_ble_eq_true rfl) ⟨Nat.zero_le _, Nat.zero_le _⟩ rdX12_readsRule_253 (fun Ma588 H locs hp w => ?_)
                  rcases hp with ⟨hRn587, hGn587⟩
                  have hYn587 := YS.go Yq569 (by omega) hRn587 hGn587
                  have hFn587 : FrY Ma588 M := FrY.tr Fq569 (FrY.w (FrW.g hGn587))
                  refine lv_goto (tgt := 264) hx hb rdX12_readsRule_256 (by decide) ?_
                  exact e_v F w hr hlocks ⟨YS.e hYn587 (rdR_I gV (by rw [eP]; exact rdI_n (Or.inr (Or.inr hb575))) (rdS_y (by omega) (tok_3.mp (by omega)).1 (tok_3.mp (by omega)).2)), hFn587⟩ rdX12_readsRule_264
      · subst c9
        refine lv_istore_n (lv' := [(1, .int (zI 6)), (0, .ref (B + 146))]) hx hb rdX12_readsRule_63 rfl hl (by decide) rfl (fun ls hl => ?_)
        refine lv_aload_n hx hb rdX12_readsRule_64 rfl (lv_at hl 1 rfl) ?_
        refine f_12_17 F w (a := 146) rfl rtb_146 rdX12_readsRule_65 ?_
        refine lv_iconst (v := zI 0) hx hb rdX12_readsRule_68 rfl ?_
        refine lv_iload_n hx hb rdX12_readsRule_69 rfl (lv_at hl 0 rfl) ?_
        refine g_iast F w (a := 153) rfl (j := 0) ⟨by decide, by decide⟩ (by omega) rdX12_readsRule_70 (fun H locs w => ?_)
        refine lv_iload_n hx hb rdX12_readsRule_71 rfl (lv_at hl 0 rfl) ?_
        refine lv_bipush (v := zI 8) hx hb rdX12_readsRule_72 (by decide) ?_
        refine z_icmp_ne (tgt := 90) hx hb (by omega) (by omega) rdX12_readsRule_74 (by decide) (fun c589 => ?_) (fun c589 => False.elim (by omega))
        refine lv_iload_n hx hb rdX12_readsRule_90 rfl (lv_at hl 0 rfl) ?_
        refine z_if_eq (tgt := 119) hx hb (by omega) rdX12_readsRule_91 (by decide) (fun c590 => False.elim (by omega)) (fun c590 => ?_)
        refine lv_aload_n hx hb rdX12_readsRule_94 rfl (lv_at hl 1 rfl) ?_
        refine f_12_17 F w (a := 146) rfl rtb_146 rdX12_readsRule_95 ?_
        refine lv_iconst (v := zI 2) hx hb rdX12_readsRule_98 rfl ?_
        refine lv_aload_n hx hb rdX12_readsRule_99 rfl (lv_at hl 1 rfl) ?_
        refine lv_bipush (v := zI 11) hx hb rdX12_readsRule_100 (by decide) ?_
        refine lv_iload_n hx hb rdX12_readsRule_102 rfl (lv_at hl 0 rfl) ?_
        refine lv_bipush (v := zI 9) hx hb rdX12_readsRule_103 (by decide) ?_
        refine z_icmp_ne (tgt := 113) hx hb (by omega) (by omega) rdX12_readsRule_105 (by decide) (fun c591 => ?_) (fun c591 => False.elim (by omega))
        refine lv_bipush (v := zI 14) hx hb rdX12_readsRule_113 (by decide) ?_
        have Yq592 : YS (st Ma372 153 0 (zI 6)) T tn (rdV T tn b) := hV
        have Fq592 : FrY (st Ma372 153 0 (zI 6)) M := FrY.o hFn371
        generalize (st Ma372 153 0 (zI 6)) = Mzq592 at w Yq592 Fq592
        refine k_Vi F w (As := [.int (zI 11), .int (zI 14)]) (rest := [.int (zI 2), .ref (B + 153)]) (a := 146) (kd_lt (a := 146) (show kd 146 = (12, 0, 0) from rfl) (by decide)) (sh_12 rfl _ _) rfl (t_needs hT (x := (rdV T tn b)) Yq592 (lo := 11) (hi := 14) (by decide) (by decide)) rgv_X12_227 rhv_X12_needs ⟨(Nat.le_of_ble_eq_true rfl), (Nat.le_of_ble_eq_true rfl)⟩ hl.1 rfl (Nat.le_of_ble_eq_true rfl) ⟨Nat.zero_le _, Nat.zero_le _⟩ rdX12_readsRule_115 (fun r Ma594 H locs hp w => ?_)
        rcases hp with ⟨vn593, rfl, hFn593, -, -, -, hSn593, hWn593⟩
        have hFn593 : FrY Ma594 M := FrY.tr Fq592 (FrY.w hFn593)
        refine g_iast F w (a := 153) rfl (j := 2) ⟨by decide, by decide⟩ (by omega) rdX12_readsRule_118 (fun H locs w => ?_)
        refine lv_iload_n hx hb rdX12_readsRule_119 rfl (lv_at hl 0 rfl) ?_
        refine lv_bipush (v := zI 7) hx hb rdX12_readsRule_120 (by decide) ?_
        refine z_icmp_ne (tgt := 148) hx hb (by omega) (by omega) rdX12_readsRule_122 (by decide) (fun c595 => ?_) (fun c595 => False.elim (by omega))
        refine lv_iload_n hx hb rdX12_readsRule_148 rfl (lv_at hl 0 rfl) ?_
        refine k_Si F w (As := [.int (zI 6)]) (rest := []) (t_hasSide (z := 6) (by omega)) rgs_X12_137 rhs_X12_hasSide ⟨(Nat.le_of_ble_eq_true rfl), (Nat.le_of_ble_eq_true rfl)⟩ hl.1 rfl (Nat.le_of_ble_eq_true rfl) ⟨Nat.zero_le _, Nat.zero_le _⟩ rdX12_readsRule_149 (fun r Ma597 H locs hp w => ?_)
        rcases hp with ⟨⟨hb596, rfl⟩ | ⟨hb596, rfl⟩, hMe⟩
        · exact absurd hb596 (by omega)
        · rw [hMe] at w
          refine z_if_eq (tgt := 169) hx hb (by omega) rdX12_readsRule_152 (by decide) (fun c598 => ?_) (fun c598 => False.elim (by omega))
          refine lv_iload_n hx hb rdX12_readsRule_169 rfl (lv_at hl 0 rfl) ?_
          refine lv_iconst (v := zI 3) hx hb rdX12_readsRule_170 rfl ?_
          refine z_icmp_eq (tgt := 180) hx hb (by omega) (by omega) rdX12_readsRule_171 (by decide) (fun c599 => False.elim (by omega)) (fun c599 => ?_)
          refine lv_iload_n hx hb rdX12_readsRule_174 rfl (lv_at hl 0 rfl) ?_
          refine lv_bipush (v := zI 8) hx hb rdX12_readsRule_175 (by decide) ?_
          refine z_icmp_ne (tgt := 194) hx hb (by omega) (by omega) rdX12_readsRule_177 (by decide) (fun c600 => ?_) (fun c600 => False.elim (by omega))
          refine lv_iload_n hx hb rdX12_readsRule_194 rfl (lv_at hl 0 rfl) ?_
          refine lv_iconst (v := zI 1) hx hb rdX12_readsRule_195 rfl ?_
          refine z_icmp_ne (tgt := 209) hx hb (by omega) (by omega) rdX12_readsRule_196 (by decide) (fun c601 => ?_) (fun c601 => False.elim (by omega))
          have Yq602 : YS (st Ma594 153 2 (zI vn593)) T tn (rdC T tn 11 14 2 (rdV T tn b)) := hSn593 2
          have Fq602 : FrY (st Ma594 153 2 (zI vn593)) M := FrY.o hFn593
          generalize (st Ma594 153 2 (zI vn593)) = Mzq602 at w Yq602 Fq602
          have hGf := Yq602.1.1
          have eP : rdP T tn ((rdV T tn b).2.2 0) (rdV T tn b) = (rdC T tn 11 14 2 (rdV T tn b)) := ((rdP_o (by omega)).trans (rdK_o (by omega) (by omega)))
          refine lv_aload_n hx hb rdX12_readsRule_209 rfl (lv_at hl 1 rfl) ?_
          refine f_12_16 F w (a := 146) rfl rtb_139 rdX12_readsRule_210 ?_
          refine r_val (v := (zI (1 - ((Prod.fst (rdC T tn 11 14 2 (rdV T tn b)) : Nat) : Int)))) (Yq602.2.2.2.2.1) ?_
          refine z_if_ne (tgt := 236) hx hb (by omega) rdX12_readsRule_213 (by decide) (fun c603 => ?_) (fun c603 => ?_)
          · have hGi := Yq602.1.1
            refine lv_aload_n hx hb rdX12_readsRule_236 rfl (lv_at hl 1 rfl) ?_
            refine f_12_16 F w (a := 146) rfl rtb_139 rdX12_readsRule_237 ?_
            refine r_val (v := (zI (1 - ((Prod.fst (rdC T tn 11 14 2 (rdV T tn b)) : Nat) : Int)))) (Yq602.2.2.2.2.1) ?_
            refine z_if_eq (tgt := 244) hx hb (by omega) rdX12_readsRule_240 (by decide) (fun c604 => False.elim (by omega)) (fun c604 => ?_)
            exact e_v F w hr hlocks ⟨YS.e Yq602 ((rdR_1 gV (by rw [eP]; omega)).trans eP), Fq602⟩ rdX12_readsRule_243
          · refine lv_iload_n hx hb rdX12_readsRule_216 rfl (lv_at hl 0 rfl) ?_
            refine k_Si F w (As := [.int (zI 6)]) (rest := []) (t_isBySyllables (z := 6) (by omega)) rgs_X12_140 rhs_X12_isBySyllables ⟨(Nat.le_of_ble_eq_true rfl), (Nat.le_of_ble_eq_true rfl)⟩ hl.1 rfl (Nat.le_of_ble_eq_true rfl) ⟨Nat.zero_le _, Nat.zero_le _⟩ rdX12_readsRule_217 (fun r Ma606 H locs hp w => ?_)
            rcases hp with ⟨⟨hb605, rfl⟩ | ⟨hb605, rfl⟩, hMe⟩
            · exact absurd hb605 (by omega)
            · rw [hMe] at w
              refine z_if_ne (tgt := 236) hx hb (by omega) rdX12_readsRule_220 (by decide) (fun c607 => False.elim (by omega)) (fun c607 => ?_)
              refine lv_aload_n hx hb rdX12_readsRule_223 rfl (lv_at hl 1 rfl) ?_
              refine lv_bipush (v := zI 20) hx hb rdX12_readsRule_224 (by decide) ?_
              refine k_Vi F w (As := [.int (zI 20)]) (rest := []) (a := 146) (kd_lt (a := 146) (show kd 146 = (12, 0, 0) from rfl) (by decide)) (sh_12 rfl _ _) rfl (t_isWord hT (x := (rdC T tn 11 14 2 (rdV T tn b))) Yq602 (lo := 20) (by decide)) rgv_X12_224 rhv_X12_isWord ⟨(Nat.le_of_ble_eq_true rfl), (Nat.le_of_ble_eq_true rfl)⟩ hl.1 rfl (Nat.le_of_ble_eq_true rfl) ⟨Nat.zero_le _, Nat.zero_le _⟩ rdX12_readsRule_226 (fun r Ma609 H locs hp w => ?_)
              rcases hp with ⟨⟨hb608, rfl⟩ | ⟨hb608, rfl⟩, hMe⟩
              · rw [hMe] at w
                refine z_if_eq (tgt := 236) hx hb (by omega) rdX12_readsRule_229 (by decide) (fun c610 => False.elim (by omega)) (fun c610 => ?_)
                refine lv_aload_n hx hb rdX12_readsRule_232 rfl (lv_at hl 1 rfl) ?_
                refine k_Vv F w (As := []) (rest := []) (a := 146) (kd_lt (a := 146) (show kd 146 = (12, 0, 0) from rfl) (by decide)) (sh_12 rfl _ _) rfl (t_readsTest hT (x := (rdC T tn 11 14 2 (rdV T tn b))) Yq602 (by omega) (Or.inl (tk_w0 (T := T) (N := tn) Yq602.2.2.2.1.1 hb608))) rgv_X12_233 rhv_X12_readsTest ⟨(Nat.le_of_ble_eq_true rfl), (Nat.le_of_ble_eq_true rfl)⟩ hl.1 rfl (Nat.le_of_ble_eq_true rfl) ⟨Nat.zero_le _, Nat.zero_le _⟩ rdX12_readsRule_233 (fun Ma612 H locs hp w => ?_)
                rcases hp with ⟨hYn611, hFn611⟩
                have hFn611 : FrY Ma612 M := FrY.tr Fq602 hFn611
                have hGi := hYn611.1.1
                refine lv_aload_n hx hb rdX12_readsRule_236 rfl (lv_at hl 1 rfl) ?_
                refine f_12_16 F w (a := 146) rfl rtb_139 rdX12_readsRule_237 ?_
                refine r_val (v := (zI (1 - ((Prod.fst (rdT T tn (1, en T tn (Prod.fst (Prod.snd (rdC T tn 11 14 2 (rdV T tn b)))), Prod.snd (Prod.snd (rdC T tn 11 14 2 (rdV T tn b))))) : Nat) : Int)))) (hYn611.2.2.2.2.1) ?_
                refine z_if_eq (tgt := 244) hx hb (by omega) rdX12_readsRule_240 (by decide) (fun c613 => ?_) (fun c613 => ?_)
                · refine lv_aload_n hx hb rdX12_readsRule_244 rfl (lv_at hl 1 rfl) ?_
                  refine f_12_13 F w (a := 146) rfl rtb_127 rdX12_readsRule_245 ?_
                  have htl613 := tok_le T tn (Prod.fst (Prod.snd (rdT T tn (1, en T tn (Prod.fst (Prod.snd (rdC T tn 11 14 2 (rdV T tn b)))), Prod.snd (Prod.snd (rdC T tn 11 14 2 (rdV T tn b)))))))
                  refine r_val (v := (zI (((tok T tn (Prod.fst (Prod.snd (rdT T tn (1, en T tn (Prod.fst (Prod.snd (rdC T tn 11 14 2 (rdV T tn b)))), Prod.snd (Prod.snd (rdC T tn 11 14 2 (rdV T tn b)))))))) : Nat) : Int))) (hYn611.2.2.2.1.2.2.2.1) ?_
                  refine lv_iconst (v := zI 3) hx hb rdX12_readsRule_248 rfl ?_
                  refine z_icmp_ne (tgt := 259) hx hb (by omega) (by omega) rdX12_readsRule_249 (by decide) (fun c614 => ?_) (fun c614 => ?_)
                  · refine lv_aload_n hx hb rdX12_readsRule_259 rfl (lv_at hl 1 rfl) ?_
                    refine lv_iconst (v := zI 1) hx hb rdX12_readsRule_260 rfl ?_
                    refine u_12_16 F w (a := 146) rfl (by decide) (by decide) rtb_139 rdX12_readsRule_261 (fun H locs w => ?_)
                    exact e_v F w hr hlocks ⟨YS.e (YS.bad hYn611) (rdR_I gV (by rw [eP]; exact rdI_y (by omega) (by omega) hb608) (rdS_n (by omega) (fun q9 => absurd (tok_3.mpr q9) (by omega)))), FrY.t hFn611⟩ rdX12_readsRule_264
                  · refine lv_aload_n hx hb rdX12_readsRule_252 rfl (lv_at hl 1 rfl) ?_
                    refine k_Vv F w (As := []) (rest := []) (a := 146) (kd_lt (a := 146) (show kd 146 = (12, 0, 0) from rfl) (by decide)) (sh_12 rfl _ _) rfl (t_goesOn hT hYn611.2.1 hYn611.2.2.1 (E := en T tn (Prod.fst (Prod.snd (rdT T tn (1, en T tn (Prod.fst (Prod.snd (rdC T tn 11 14 2 (rdV T tn b)))), Prod.snd (Prod.snd (rdC T tn 11 14 2 (rdV T tn b)))))))) (wa := tok T tn (Prod.fst (Prod.snd (rdT T tn (1, en T tn (Prod.fst (Prod.snd (rdC T tn 11 14 2 (rdV T tn b)))), Prod.snd (Prod.snd (rdC T tn 11 14 2 (rdV T tn b)))))))) (en_le hYn611.2.2.2.1.1).2.1 hYn611.2.2.2.1.2.2.1 hYn611.2.2.2.1.2.2.2.1 (tok_le T tn _) (tok_w hYn611.2.2.2.1.1 (Or.inr (Or.inr (by omega))))) rgv_X12_221 rhv_X12_goesOn ⟨(Nat.le_of_ble_eq_true rfl), (Nat.le_of_ble_eq_true rfl)⟩ hl.1 rfl (Nat.le_of_ble_eq_true rfl) ⟨Nat.zero_le _, Nat.zero_le _⟩ rdX12_readsRule_253 (fun Ma616 H locs hp w => ?_)
                    rcases hp with ⟨hRn615, hGn615⟩
                    have hYn615 := YS.go hYn611 (by omega) hRn615 hGn615
                    have hFn615 : FrY Ma616 M := FrY.tr hFn611 (FrY.w (FrW.g hGn615))
                    refine lv_goto (tgt := 264) hx hb rdX12_readsRule_256 (by decide) ?_
                    exact e_v F w hr hlocks ⟨YS.e hYn615 (rdR_I gV (by rw [eP]; exact rdI_y (by omega) (by omega) hb608) (rdS_y (by omega) (tok_3.mp (by omega)).1 (tok_3.mp (by omega)).2)), hFn615⟩ rdX12_readsRule_264
                · exact e_v F w hr hlocks ⟨YS.e hYn611 (rdR_2 gV (by rw [eP]; exact rdI_y (by omega) (by omega) hb608) (by omega)), hFn611⟩ rdX12_readsRule_243
              · rw [hMe] at w
                refine z_if_eq (tgt := 236) hx hb (by omega) rdX12_readsRule_229 (by decide) (fun c617 => ?_) (fun c617 => False.elim (by omega))
                have hGi := Yq602.1.1
                refine lv_aload_n hx hb rdX12_readsRule_236 rfl (lv_at hl 1 rfl) ?_
                refine f_12_16 F w (a := 146) rfl rtb_139 rdX12_readsRule_237 ?_
                refine r_val (v := (zI (1 - ((Prod.fst (rdC T tn 11 14 2 (rdV T tn b)) : Nat) : Int)))) (Yq602.2.2.2.2.1) ?_
                refine z_if_eq (tgt := 244) hx hb (by omega) rdX12_readsRule_240 (by decide) (fun c618 => ?_) (fun c618 => False.elim (by omega))
                refine lv_aload_n hx hb rdX12_readsRule_244 rfl (lv_at hl 1 rfl) ?_
                refine f_12_13 F w (a := 146) rfl rtb_127 rdX12_readsRule_245 ?_
                have htl618 := tok_le T tn (Prod.fst (Prod.snd (rdC T tn 11 14 2 (rdV T tn b))))
                refine r_val (v := (zI (((tok T tn (Prod.fst (Prod.snd (rdC T tn 11 14 2 (rdV T tn b))))) : Nat) : Int))) (Yq602.2.2.2.1.2.2.2.1) ?_
                refine lv_iconst (v := zI 3) hx hb rdX12_readsRule_248 rfl ?_
                refine z_icmp_ne (tgt := 259) hx hb (by omega) (by omega) rdX12_readsRule_249 (by decide) (fun c619 => ?_) (fun c619 => ?_)
                · refine lv_aload_n hx hb rdX12_readsRule_259 rfl (lv_at hl 1 rfl) ?_
                  refine lv_iconst (v := zI 1) hx hb rdX12_readsRule_260 rfl ?_
                  refine u_12_16 F w (a := 146) rfl (by decide) (by decide) rtb_139 rdX12_readsRule_261 (fun H locs w => ?_)
                  exact e_v F w hr hlocks ⟨YS.e (YS.bad Yq602) (rdR_I gV (by rw [eP]; exact rdI_n (Or.inr (Or.inr hb608))) (rdS_n (by omega) (fun q9 => absurd (tok_3.mpr q9) (by omega)))), FrY.t Fq602⟩ rdX12_readsRule_264
                · refine lv_aload_n hx hb rdX12_readsRule_252 rfl (lv_at hl 1 rfl) ?_
                  refine k_Vv F w (As := []) (rest := []) (a := 146) (kd_lt (a := 146) (show kd 146 = (12, 0, 0) from rfl) (by decide)) (sh_12 rfl _ _) rfl (t_goesOn hT Yq602.2.1 Yq602.2.2.1 (E := en T tn (Prod.fst (Prod.snd (rdC T tn 11 14 2 (rdV T tn b))))) (wa := tok T tn (Prod.fst (Prod.snd (rdC T tn 11 14 2 (rdV T tn b))))) (en_le Yq602.2.2.2.1.1).2.1 Yq602.2.2.2.1.2.2.1 Yq602.2.2.2.1.2.2.2.1 (tok_le T tn _) (tok_w Yq602.2.2.2.1.1 (Or.inr (Or.inr (by omega))))) rgv_X12_221 rhv_X12_goesOn ⟨(Nat.le_of_ble_eq_true rfl), (Nat.le_of_ble_eq_true rfl)⟩ hl.1 rfl (Nat.le_of_ble_eq_true rfl) ⟨Nat.zero_le _, Nat.zero_le _⟩ rdX12_readsRule_253 (fun Ma621 H locs hp w => ?_)
                  rcases hp with ⟨hRn620, hGn620⟩
                  have hYn620 := YS.go Yq602 (by omega) hRn620 hGn620
                  have hFn620 : FrY Ma621 M := FrY.tr Fq602 (FrY.w (FrW.g hGn620))
                  refine lv_goto (tgt := 264) hx hb rdX12_readsRule_256 (by decide) ?_
                  exact e_v F w hr hlocks ⟨YS.e hYn620 (rdR_I gV (by rw [eP]; exact rdI_n (Or.inr (Or.inr hb608))) (rdS_y (by omega) (tok_3.mp (by omega)).1 (tok_3.mp (by omega)).2)), hFn620⟩ rdX12_readsRule_264
      · subst c9
        refine lv_istore_n (lv' := [(1, .int (zI 7)), (0, .ref (B + 146))]) hx hb rdX12_readsRule_63 rfl hl (by decide) rfl (fun ls hl => ?_)
        refine lv_aload_n hx hb rdX12_readsRule_64 rfl (lv_at hl 1 rfl) ?_
        refine f_12_17 F w (a := 146) rfl rtb_146 rdX12_readsRule_65 ?_
        refine lv_iconst (v := zI 0) hx hb rdX12_readsRule_68 rfl ?_
        refine lv_iload_n hx hb rdX12_readsRule_69 rfl (lv_at hl 0 rfl) ?_
        refine g_iast F w (a := 153) rfl (j := 0) ⟨by decide, by decide⟩ (by omega) rdX12_readsRule_70 (fun H locs w => ?_)
        refine lv_iload_n hx hb rdX12_readsRule_71 rfl (lv_at hl 0 rfl) ?_
        refine lv_bipush (v := zI 8) hx hb rdX12_readsRule_72 (by decide) ?_
        refine z_icmp_ne (tgt := 90) hx hb (by omega) (by omega) rdX12_readsRule_74 (by decide) (fun c622 => ?_) (fun c622 => False.elim (by omega))
        refine lv_iload_n hx hb rdX12_readsRule_90 rfl (lv_at hl 0 rfl) ?_
        refine z_if_eq (tgt := 119) hx hb (by omega) rdX12_readsRule_91 (by decide) (fun c623 => False.elim (by omega)) (fun c623 => ?_)
        refine lv_aload_n hx hb rdX12_readsRule_94 rfl (lv_at hl 1 rfl) ?_
        refine f_12_17 F w (a := 146) rfl rtb_146 rdX12_readsRule_95 ?_
        refine lv_iconst (v := zI 2) hx hb rdX12_readsRule_98 rfl ?_
        refine lv_aload_n hx hb rdX12_readsRule_99 rfl (lv_at hl 1 rfl) ?_
        refine lv_bipush (v := zI 11) hx hb rdX12_readsRule_100 (by decide) ?_
        refine lv_iload_n hx hb rdX12_readsRule_102 rfl (lv_at hl 0 rfl) ?_
        refine lv_bipush (v := zI 9) hx hb rdX12_readsRule_103 (by decide) ?_
        refine z_icmp_ne (tgt := 113) hx hb (by omega) (by omega) rdX12_readsRule_105 (by decide) (fun c624 => ?_) (fun c624 => False.elim (by omega))
        refine lv_bipush (v := zI 14) hx hb rdX12_readsRule_113 (by decide) ?_
        have Yq625 : YS (st Ma372 153 0 (zI 7)) T tn (rdV T tn b) := hV
        have Fq625 : FrY (st Ma372 153 0 (zI 7)) M := FrY.o hFn371
        generalize (st Ma372 153 0 (zI 7)) = Mzq625 at w Yq625 Fq625
        refine k_Vi F w (As := [.int (zI 11), .int (zI 14)]) (rest := [.int (zI 2), .ref (B + 153)]) (a := 146) (kd_lt (a := 146) (show kd 146 = (12, 0, 0) from rfl) (by decide)) (sh_12 rfl _ _) rfl (t_needs hT (x := (rdV T tn b)) Yq625 (lo := 11) (hi := 14) (by decide) (by decide)) rgv_X12_227 rhv_X12_needs ⟨(Nat.le_of_ble_eq_true rfl), (Nat.le_of_ble_eq_true rfl)⟩ hl.1 rfl (Nat.le_of_ble_eq_true rfl) ⟨Nat.zero_le _, Nat.zero_le _⟩ rdX12_readsRule_115 (fun r Ma627 H locs hp w => ?_)
        rcases hp with ⟨vn626, rfl, hFn626, -, -, -, hSn626, hWn626⟩
        have hFn626 : FrY Ma627 M := FrY.tr Fq625 (FrY.w hFn626)
        refine g_iast F w (a := 153) rfl (j := 2) ⟨by decide, by decide⟩ (by omega) rdX12_readsRule_118 (fun H locs w => ?_)
        refine lv_iload_n hx hb rdX12_readsRule_119 rfl (lv_at hl 0 rfl) ?_
        refine lv_bipush (v := zI 7) hx hb rdX12_readsRule_120 (by decide) ?_
        refine z_icmp_ne (tgt := 148) hx hb (by omega) (by omega) rdX12_readsRule_122 (by decide) (fun c628 => False.elim (by omega)) (fun c628 => ?_)
        refine lv_aload_n hx hb rdX12_readsRule_125 rfl (lv_at hl 1 rfl) ?_
        refine lv_bipush (v := zI 19) hx hb rdX12_readsRule_126 (by decide) ?_
        refine lv_bipush (v := zI 19) hx hb rdX12_readsRule_128 (by decide) ?_
        have Yq629 : YS (st Ma627 153 2 (zI vn626)) T tn (rdC T tn 11 14 2 (rdV T tn b)) := hSn626 2
        have Fq629 : FrY (st Ma627 153 2 (zI vn626)) M := FrY.o hFn626
        generalize (st Ma627 153 2 (zI vn626)) = Mzq629 at w Yq629 Fq629
        refine k_Vi F w (As := [.int (zI 19), .int (zI 19)]) (rest := []) (a := 146) (kd_lt (a := 146) (show kd 146 = (12, 0, 0) from rfl) (by decide)) (sh_12 rfl _ _) rfl (t_needs hT (x := (rdC T tn 11 14 2 (rdV T tn b))) Yq629 (lo := 19) (hi := 19) (by decide) (by decide)) rgv_X12_227 rhv_X12_needs ⟨(Nat.le_of_ble_eq_true rfl), (Nat.le_of_ble_eq_true rfl)⟩ hl.1 rfl (Nat.le_of_ble_eq_true rfl) ⟨Nat.zero_le _, Nat.zero_le _⟩ rdX12_readsRule_130 (fun r Ma631 H locs hp w => ?_)
        rcases hp with ⟨vn630, rfl, hFn630, -, -, -, hSn630, hWn630⟩
        have hFn630 : FrY Ma631 M := FrY.tr Fq629 (FrY.w hFn630)
        have Yq632 : YS Ma631 T tn (rdW T tn 19 (rdC T tn 11 14 2 (rdV T tn b))) := hWn630 rfl
        refine lv_pop hx hb rdX12_readsRule_133 rfl ?_
        refine lv_aload_n hx hb rdX12_readsRule_134 rfl (lv_at hl 1 rfl) ?_
        refine f_12_17 F w (a := 146) rfl rtb_146 rdX12_readsRule_135 ?_
        refine lv_iconst (v := zI 3) hx hb rdX12_readsRule_138 rfl ?_
        refine lv_aload_n hx hb rdX12_readsRule_139 rfl (lv_at hl 1 rfl) ?_
        refine lv_bipush (v := zI 11) hx hb rdX12_readsRule_140 (by decide) ?_
        refine lv_bipush (v := zI 13) hx hb rdX12_readsRule_142 (by decide) ?_
        refine k_Vi F w (As := [.int (zI 11), .int (zI 13)]) (rest := [.int (zI 3), .ref (B + 153)]) (a := 146) (kd_lt (a := 146) (show kd 146 = (12, 0, 0) from rfl) (by decide)) (sh_12 rfl _ _) rfl (t_needs hT (x := (rdW T tn 19 (rdC T tn 11 14 2 (rdV T tn b)))) Yq632 (lo := 11) (hi := 13) (by decide) (by decide)) rgv_X12_227 rhv_X12_needs ⟨(Nat.le_of_ble_eq_true rfl), (Nat.le_of_ble_eq_true rfl)⟩ hl.1 rfl (Nat.le_of_ble_eq_true rfl) ⟨Nat.zero_le _, Nat.zero_le _⟩ rdX12_readsRule_144 (fun r Ma634 H locs hp w => ?_)
        rcases hp with ⟨vn633, rfl, hFn633, -, -, -, hSn633, hWn633⟩
        have hFn633 : FrY Ma634 M := FrY.tr hFn630 (FrY.w hFn633)
        refine g_iast F w (a := 153) rfl (j := 3) ⟨by decide, by decide⟩ (by omega) rdX12_readsRule_147 (fun H locs w => ?_)
        refine lv_iload_n hx hb rdX12_readsRule_148 rfl (lv_at hl 0 rfl) ?_
        refine k_Si F w (As := [.int (zI 7)]) (rest := []) (t_hasSide (z := 7) (by omega)) rgs_X12_137 rhs_X12_hasSide ⟨(Nat.le_of_ble_eq_true rfl), (Nat.le_of_ble_eq_true rfl)⟩ hl.1 rfl (Nat.le_of_ble_eq_true rfl) ⟨Nat.zero_le _, Nat.zero_le _⟩ rdX12_readsRule_149 (fun r Ma636 H locs hp w => ?_)
        rcases hp with ⟨⟨hb635, rfl⟩ | ⟨hb635, rfl⟩, hMe⟩
        · exact absurd hb635 (by omega)
        · rw [hMe] at w
          refine z_if_eq (tgt := 169) hx hb (by omega) rdX12_readsRule_152 (by decide) (fun c637 => ?_) (fun c637 => False.elim (by omega))
          refine lv_iload_n hx hb rdX12_readsRule_169 rfl (lv_at hl 0 rfl) ?_
          refine lv_iconst (v := zI 3) hx hb rdX12_readsRule_170 rfl ?_
          refine z_icmp_eq (tgt := 180) hx hb (by omega) (by omega) rdX12_readsRule_171 (by decide) (fun c638 => False.elim (by omega)) (fun c638 => ?_)
          refine lv_iload_n hx hb rdX12_readsRule_174 rfl (lv_at hl 0 rfl) ?_
          refine lv_bipush (v := zI 8) hx hb rdX12_readsRule_175 (by decide) ?_
          refine z_icmp_ne (tgt := 194) hx hb (by omega) (by omega) rdX12_readsRule_177 (by decide) (fun c639 => ?_) (fun c639 => False.elim (by omega))
          refine lv_iload_n hx hb rdX12_readsRule_194 rfl (lv_at hl 0 rfl) ?_
          refine lv_iconst (v := zI 1) hx hb rdX12_readsRule_195 rfl ?_
          refine z_icmp_ne (tgt := 209) hx hb (by omega) (by omega) rdX12_readsRule_196 (by decide) (fun c640 => ?_) (fun c640 => False.elim (by omega))
          have Yq641 : YS (st Ma634 153 3 (zI vn633)) T tn (rdC T tn 11 13 3 (rdW T tn 19 (rdC T tn 11 14 2 (rdV T tn b)))) := hSn633 3
          have Fq641 : FrY (st Ma634 153 3 (zI vn633)) M := FrY.o hFn633
          generalize (st Ma634 153 3 (zI vn633)) = Mzq641 at w Yq641 Fq641
          have hGf := Yq641.1.1
          have eP : rdP T tn ((rdV T tn b).2.2 0) (rdV T tn b) = (rdC T tn 11 13 3 (rdW T tn 19 (rdC T tn 11 14 2 (rdV T tn b)))) := ((rdP_7 (by omega)).trans (by rw [rdK_o (by omega) (by omega)]))
          refine lv_aload_n hx hb rdX12_readsRule_209 rfl (lv_at hl 1 rfl) ?_
          refine f_12_16 F w (a := 146) rfl rtb_139 rdX12_readsRule_210 ?_
          refine r_val (v := (zI (1 - ((Prod.fst (rdC T tn 11 13 3 (rdW T tn 19 (rdC T tn 11 14 2 (rdV T tn b)))) : Nat) : Int)))) (Yq641.2.2.2.2.1) ?_
          refine z_if_ne (tgt := 236) hx hb (by omega) rdX12_readsRule_213 (by decide) (fun c642 => ?_) (fun c642 => ?_)
          · have hGi := Yq641.1.1
            refine lv_aload_n hx hb rdX12_readsRule_236 rfl (lv_at hl 1 rfl) ?_
            refine f_12_16 F w (a := 146) rfl rtb_139 rdX12_readsRule_237 ?_
            refine r_val (v := (zI (1 - ((Prod.fst (rdC T tn 11 13 3 (rdW T tn 19 (rdC T tn 11 14 2 (rdV T tn b)))) : Nat) : Int)))) (Yq641.2.2.2.2.1) ?_
            refine z_if_eq (tgt := 244) hx hb (by omega) rdX12_readsRule_240 (by decide) (fun c643 => False.elim (by omega)) (fun c643 => ?_)
            exact e_v F w hr hlocks ⟨YS.e Yq641 ((rdR_1 gV (by rw [eP]; omega)).trans eP), Fq641⟩ rdX12_readsRule_243
          · refine lv_iload_n hx hb rdX12_readsRule_216 rfl (lv_at hl 0 rfl) ?_
            refine k_Si F w (As := [.int (zI 7)]) (rest := []) (t_isBySyllables (z := 7) (by omega)) rgs_X12_140 rhs_X12_isBySyllables ⟨(Nat.le_of_ble_eq_true rfl), (Nat.le_of_ble_eq_true rfl)⟩ hl.1 rfl (Nat.le_of_ble_eq_true rfl) ⟨Nat.zero_le _, Nat.zero_le _⟩ rdX12_readsRule_217 (fun r Ma645 H locs hp w => ?_)
            rcases hp with ⟨⟨hb644, rfl⟩ | ⟨hb644, rfl⟩, hMe⟩
            · exact absurd hb644 (by omega)
            · rw [hMe] at w
              refine z_if_ne (tgt := 236) hx hb (by omega) rdX12_readsRule_220 (by decide) (fun c646 => False.elim (by omega)) (fun c646 => ?_)
              refine lv_aload_n hx hb rdX12_readsRule_223 rfl (lv_at hl 1 rfl) ?_
              refine lv_bipush (v := zI 20) hx hb rdX12_readsRule_224 (by decide) ?_
              refine k_Vi F w (As := [.int (zI 20)]) (rest := []) (a := 146) (kd_lt (a := 146) (show kd 146 = (12, 0, 0) from rfl) (by decide)) (sh_12 rfl _ _) rfl (t_isWord hT (x := (rdC T tn 11 13 3 (rdW T tn 19 (rdC T tn 11 14 2 (rdV T tn b))))) Yq641 (lo := 20) (by decide)) rgv_X12_224 rhv_X12_isWord ⟨(Nat.le_of_ble_eq_true rfl), (Nat.le_of_ble_eq_true rfl)⟩ hl.1 rfl (Nat.le_of_ble_eq_true rfl) ⟨Nat.zero_le _, Nat.zero_le _⟩ rdX12_readsRule_226 (fun r Ma648 H locs hp w => ?_)
              rcases hp with ⟨⟨hb647, rfl⟩ | ⟨hb647, rfl⟩, hMe⟩
              · rw [hMe] at w
                refine z_if_eq (tgt := 236) hx hb (by omega) rdX12_readsRule_229 (by decide) (fun c649 => False.elim (by omega)) (fun c649 => ?_)
                refine lv_aload_n hx hb rdX12_readsRule_232 rfl (lv_at hl 1 rfl) ?_
                refine k_Vv F w (As := []) (rest := []) (a := 146) (kd_lt (a := 146) (show kd 146 = (12, 0, 0) from rfl) (by decide)) (sh_12 rfl _ _) rfl (t_readsTest hT (x := (rdC T tn 11 13 3 (rdW T tn 19 (rdC T tn 11 14 2 (rdV T tn b))))) Yq641 (by omega) (Or.inl (tk_w0 (T := T) (N := tn) Yq641.2.2.2.1.1 hb647))) rgv_X12_233 rhv_X12_readsTest ⟨(Nat.le_of_ble_eq_true rfl), (Nat.le_of_ble_eq_true rfl)⟩ hl.1 rfl (Nat.le_of_ble_eq_true rfl) ⟨Nat.zero_le _, Nat.zero_le _⟩ rdX12_readsRule_233 (fun Ma651 H locs hp w => ?_)
                rcases hp with ⟨hYn650, hFn650⟩
                have hFn650 : FrY Ma651 M := FrY.tr Fq641 hFn650
                have hGi := hYn650.1.1
                refine lv_aload_n hx hb rdX12_readsRule_236 rfl (lv_at hl 1 rfl) ?_
                refine f_12_16 F w (a := 146) rfl rtb_139 rdX12_readsRule_237 ?_
                refine r_val (v := (zI (1 - ((Prod.fst (rdT T tn (1, en T tn (Prod.fst (Prod.snd (rdC T tn 11 13 3 (rdW T tn 19 (rdC T tn 11 14 2 (rdV T tn b)))))), Prod.snd (Prod.snd (rdC T tn 11 13 3 (rdW T tn 19 (rdC T tn 11 14 2 (rdV T tn b))))))) : Nat) : Int)))) (hYn650.2.2.2.2.1) ?_
                refine z_if_eq (tgt := 244) hx hb (by omega) rdX12_readsRule_240 (by decide) (fun c652 => ?_) (fun c652 => ?_)
                · refine lv_aload_n hx hb rdX12_readsRule_244 rfl (lv_at hl 1 rfl) ?_
                  refine f_12_13 F w (a := 146) rfl rtb_127 rdX12_readsRule_245 ?_
                  have htl652 := tok_le T tn (Prod.fst (Prod.snd (rdT T tn (1, en T tn (Prod.fst (Prod.snd (rdC T tn 11 13 3 (rdW T tn 19 (rdC T tn 11 14 2 (rdV T tn b)))))), Prod.snd (Prod.snd (rdC T tn 11 13 3 (rdW T tn 19 (rdC T tn 11 14 2 (rdV T tn b)))))))))
                  refine r_val (v := (zI (((tok T tn (Prod.fst (Prod.snd (rdT T tn (1, en T tn (Prod.fst (Prod.snd (rdC T tn 11 13 3 (rdW T tn 19 (rdC T tn 11 14 2 (rdV T tn b)))))), Prod.snd (Prod.snd (rdC T tn 11 13 3 (rdW T tn 19 (rdC T tn 11 14 2 (rdV T tn b)))))))))) : Nat) : Int))) (hYn650.2.2.2.1.2.2.2.1) ?_
                  refine lv_iconst (v := zI 3) hx hb rdX12_readsRule_248 rfl ?_
                  refine z_icmp_ne (tgt := 259) hx hb (by omega) (by omega) rdX12_readsRule_249 (by decide) (fun c653 => ?_) (fun c653 => ?_)
                  · refine lv_aload_n hx hb rdX12_readsRule_259 rfl (lv_at hl 1 rfl) ?_
                    refine lv_iconst (v := zI 1) hx hb rdX12_readsRule_260 rfl ?_
                    refine u_12_16 F w (a := 146) rfl (by decide) (by decide) rtb_139 rdX12_readsRule_261 (fun H locs w => ?_)
                    exact e_v F w hr hlocks ⟨YS.e (YS.bad hYn650) (rdR_I gV (by rw [eP]; exact rdI_y (by omega) (by omega) hb647) (rdS_n (by omega) (fun q9 => absurd (tok_3.mpr q9) (by omega)))), FrY.t hFn650⟩ rdX12_readsRule_264
                  · refine lv_aload_n hx hb rdX12_readsRule_252 rfl (lv_at hl 1 rfl) ?_
                    refine k_Vv F w (As := []) (rest := []) (a := 146) (kd_lt (a := 146) (show kd 146 = (12, 0, 0) from rfl) (by decide)) (sh_12 rfl _ _) rfl (t_goesOn hT hYn650.2.1 hYn650.2.2.1 (E := en T tn (Prod.fst (Prod.snd (rdT T tn (1, en T tn (Prod.fst (Prod.snd (rdC T tn 11 13 3 (rdW T tn 19 (rdC T tn 11 14 2 (rdV T tn b)))))), Prod.snd (Prod.snd (rdC T tn 11 13 3 (rdW T tn 19 (rdC T tn 11 14 2 (rdV T tn b)))))))))) (wa := tok T tn (Prod.fst (Prod.snd (rdT T tn (1, en T tn (Prod.fst (Prod.snd (rdC T tn 11 13 3 (rdW T tn 19 (rdC T tn 11 14 2 (rdV T tn b)))))), Prod.snd (Prod.snd (rdC T tn 11 13 3 (rdW T tn 19 (rdC T tn 11 14 2 (rdV T tn b)))))))))) (en_le hYn650.2.2.2.1.1).2.1 hYn650.2.2.2.1.2.2.1 hYn650.2.2.2.1.2.2.2.1 (tok_le T tn _) (tok_w hYn650.2.2.2.1.1 (Or.inr (Or.inr (by omega))))) rgv_X12_221 rhv_X12_goesOn ⟨(Nat.le_of_ble_eq_true rfl), (Nat.le_of_ble_eq_true rfl)⟩ hl.1 rfl (Nat.le_of_ble_eq_true rfl) ⟨Nat.zero_le _, Nat.zero_le _⟩ rdX12_readsRule_253 (fun Ma655 H locs hp w => ?_)
                    rcases hp with ⟨hRn654, hGn654⟩
                    have hYn654 := YS.go hYn650 (by omega) hRn654 hGn654
                    have hFn654 : FrY Ma655 M := FrY.tr hFn650 (FrY.w (FrW.g hGn654))
                    refine lv_goto (tgt := 264) hx hb rdX12_readsRule_256 (by decide) ?_
                    exact e_v F w hr hlocks ⟨YS.e hYn654 (rdR_I gV (by rw [eP]; exact rdI_y (by omega) (by omega) hb647) (rdS_y (by omega) (tok_3.mp (by omega)).1 (tok_3.mp (by omega)).2)), hFn654⟩ rdX12_readsRule_264
                · exact e_v F w hr hlocks ⟨YS.e hYn650 (rdR_2 gV (by rw [eP]; exact rdI_y (by omega) (by omega) hb647) (by omega)), hFn650⟩ rdX12_readsRule_243
              · rw [hMe] at w
                refine z_if_eq (tgt := 236) hx hb (by omega) rdX12_readsRule_229 (by decide) (fun c656 => ?_) (fun c656 => False.elim (by omega))
                have hGi := Yq641.1.1
                refine lv_aload_n hx hb rdX12_readsRule_236 rfl (lv_at hl 1 rfl) ?_
                refine f_12_16 F w (a := 146) rfl rtb_139 rdX12_readsRule_237 ?_
                refine r_val (v := (zI (1 - ((Prod.fst (rdC T tn 11 13 3 (rdW T tn 19 (rdC T tn 11 14 2 (rdV T tn b)))) : Nat) : Int)))) (Yq641.2.2.2.2.1) ?_
                refine z_if_eq (tgt := 244) hx hb (by omega) rdX12_readsRule_240 (by decide) (fun c657 => ?_) (fun c657 => False.elim (by omega))
                refine lv_aload_n hx hb rdX12_readsRule_244 rfl (lv_at hl 1 rfl) ?_
                refine f_12_13 F w (a := 146) rfl rtb_127 rdX12_readsRule_245 ?_
                have htl657 := tok_le T tn (Prod.fst (Prod.snd (rdC T tn 11 13 3 (rdW T tn 19 (rdC T tn 11 14 2 (rdV T tn b))))))
                refine r_val (v := (zI (((tok T tn (Prod.fst (Prod.snd (rdC T tn 11 13 3 (rdW T tn 19 (rdC T tn 11 14 2 (rdV T tn b))))))) : Nat) : Int))) (Yq641.2.2.2.1.2.2.2.1) ?_
                refine lv_iconst (v := zI 3) hx hb rdX12_readsRule_248 rfl ?_
                refine z_icmp_ne (tgt := 259) hx hb (by omega) (by omega) rdX12_readsRule_249 (by decide) (fun c658 => ?_) (fun c658 => ?_)
                · refine lv_aload_n hx hb rdX12_readsRule_259 rfl (lv_at hl 1 rfl) ?_
                  refine lv_iconst (v := zI 1) hx hb rdX12_readsRule_260 rfl ?_
                  refine u_12_16 F w (a := 146) rfl (by decide) (by decide) rtb_139 rdX12_readsRule_261 (fun H locs w => ?_)
                  exact e_v F w hr hlocks ⟨YS.e (YS.bad Yq641) (rdR_I gV (by rw [eP]; exact rdI_n (Or.inr (Or.inr hb647))) (rdS_n (by omega) (fun q9 => absurd (tok_3.mpr q9) (by omega)))), FrY.t Fq641⟩ rdX12_readsRule_264
                · refine lv_aload_n hx hb rdX12_readsRule_252 rfl (lv_at hl 1 rfl) ?_
                  refine k_Vv F w (As := []) (rest := []) (a := 146) (kd_lt (a := 146) (show kd 146 = (12, 0, 0) from rfl) (by decide)) (sh_12 rfl _ _) rfl (t_goesOn hT Yq641.2.1 Yq641.2.2.1 (E := en T tn (Prod.fst (Prod.snd (rdC T tn 11 13 3 (rdW T tn 19 (rdC T tn 11 14 2 (rdV T tn b))))))) (wa := tok T tn (Prod.fst (Prod.snd (rdC T tn 11 13 3 (rdW T tn 19 (rdC T tn 11 14 2 (rdV T tn b))))))) (en_le Yq641.2.2.2.1.1).2.1 Yq641.2.2.2.1.2.2.1 Yq641.2.2.2.1.2.2.2.1 (tok_le T tn _) (tok_w Yq641.2.2.2.1.1 (Or.inr (Or.inr (by omega))))) rgv_X12_221 rhv_X12_goesOn ⟨(Nat.le_of_ble_eq_true rfl), (Nat.le_of_ble_eq_true rfl)⟩ hl.1 rfl (Nat.le_of_ble_eq_true rfl) ⟨Nat.zero_le _, Nat.zero_le _⟩ rdX12_readsRule_253 (fun Ma660 H locs hp w => ?_)
                  rcases hp with ⟨hRn659, hGn659⟩
                  have hYn659 := YS.go Yq641 (by omega) hRn659 hGn659
                  have hFn659 : FrY Ma660 M := FrY.tr Fq641 (FrY.w (FrW.g hGn659))
                  refine lv_goto (tgt := 264) hx hb rdX12_readsRule_256 (by decide) ?_
                  exact e_v F w hr hlocks ⟨YS.e hYn659 (rdR_I gV (by rw [eP]; exact rdI_n (Or.inr (Or.inr hb647))) (rdS_y (by omega) (tok_3.mp (by omega)).1 (tok_3.mp (by omega)).2)), hFn659⟩ rdX12_readsRule_264
      · subst c9
        refine lv_istore_n (lv' := [(1, .int (zI 8)), (0, .ref (B + 146))]) hx hb rdX12_readsRule_63 rfl hl (by decide) rfl (fun ls hl => ?_)
        refine lv_aload_n hx hb rdX12_readsRule_64 rfl (lv_at hl 1 rfl) ?_
        refine f_12_17 F w (a := 146) rfl rtb_146 rdX12_readsRule_65 ?_
        refine lv_iconst (v := zI 0) hx hb rdX12_readsRule_68 rfl ?_
        refine lv_iload_n hx hb rdX12_readsRule_69 rfl (lv_at hl 0 rfl) ?_
        refine g_iast F w (a := 153) rfl (j := 0) ⟨by decide, by decide⟩ (by omega) rdX12_readsRule_70 (fun H locs w => ?_)
        refine lv_iload_n hx hb rdX12_readsRule_71 rfl (lv_at hl 0 rfl) ?_
        refine lv_bipush (v := zI 8) hx hb rdX12_readsRule_72 (by decide) ?_
        refine z_icmp_ne (tgt := 90) hx hb (by omega) (by omega) rdX12_readsRule_74 (by decide) (fun c661 => False.elim (by omega)) (fun c661 => ?_)
        refine lv_aload_n hx hb rdX12_readsRule_77 rfl (lv_at hl 1 rfl) ?_
        refine f_12_17 F w (a := 146) rfl rtb_146 rdX12_readsRule_78 ?_
        refine lv_iconst (v := zI 3) hx hb rdX12_readsRule_81 rfl ?_
        refine lv_aload_n hx hb rdX12_readsRule_82 rfl (lv_at hl 1 rfl) ?_
        have Yq662 : YS (st Ma372 153 0 (zI 8)) T tn (rdV T tn b) := hV
        have Fq662 : FrY (st Ma372 153 0 (zI 8)) M := FrY.o hFn371
        generalize (st Ma372 153 0 (zI 8)) = Mzq662 at w Yq662 Fq662
        refine k_Vi F w (As := []) (rest := [.int (zI 3), .ref (B + 153)]) (a := 146) (kd_lt (a := 146) (show kd 146 = (12, 0, 0) from rfl) (by decide)) (sh_12 rfl _ _) rfl (t_needsNumber hT (x := (rdV T tn b)) Yq662) rgv_X12_230 rhv_X12_needsNumber ⟨(Nat.le_of_ble_eq_true rfl), (Nat.le_of_ble_eq_true rfl)⟩ hl.1 rfl (Nat.le_of_ble_eq_true rfl) ⟨Nat.zero_le _, Nat.zero_le _⟩ rdX12_readsRule_83 (fun r Ma664 H locs hp w => ?_)
        rcases hp with ⟨vn663, rfl, hFn663, -, hSn663⟩
        have hFn663 : FrY Ma664 M := FrY.tr Fq662 (FrY.w hFn663)
        refine g_iast F w (a := 153) rfl (j := 3) ⟨by decide, by decide⟩ (by omega) rdX12_readsRule_86 (fun H locs w => ?_)
        refine lv_goto (tgt := 119) hx hb rdX12_readsRule_87 (by decide) ?_
        refine lv_iload_n hx hb rdX12_readsRule_119 rfl (lv_at hl 0 rfl) ?_
        refine lv_bipush (v := zI 7) hx hb rdX12_readsRule_120 (by decide) ?_
        refine z_icmp_ne (tgt := 148) hx hb (by omega) (by omega) rdX12_readsRule_122 (by decide) (fun c665 => ?_) (fun c665 => False.elim (by omega))
        refine lv_iload_n hx hb rdX12_readsRule_148 rfl (lv_at hl 0 rfl) ?_
        refine k_Si F w (As := [.int (zI 8)]) (rest := []) (t_hasSide (z := 8) (by omega)) rgs_X12_137 rhs_X12_hasSide ⟨(Nat.le_of_ble_eq_true rfl), (Nat.le_of_ble_eq_true rfl)⟩ hl.1 rfl (Nat.le_of_ble_eq_true rfl) ⟨Nat.zero_le _, Nat.zero_le _⟩ rdX12_readsRule_149 (fun r Ma667 H locs hp w => ?_)
        rcases hp with ⟨⟨hb666, rfl⟩ | ⟨hb666, rfl⟩, hMe⟩
        · exact absurd hb666 (by omega)
        · rw [hMe] at w
          refine z_if_eq (tgt := 169) hx hb (by omega) rdX12_readsRule_152 (by decide) (fun c668 => ?_) (fun c668 => False.elim (by omega))
          refine lv_iload_n hx hb rdX12_readsRule_169 rfl (lv_at hl 0 rfl) ?_
          refine lv_iconst (v := zI 3) hx hb rdX12_readsRule_170 rfl ?_
          refine z_icmp_eq (tgt := 180) hx hb (by omega) (by omega) rdX12_readsRule_171 (by decide) (fun c669 => False.elim (by omega)) (fun c669 => ?_)
          refine lv_iload_n hx hb rdX12_readsRule_174 rfl (lv_at hl 0 rfl) ?_
          refine lv_bipush (v := zI 8) hx hb rdX12_readsRule_175 (by decide) ?_
          refine z_icmp_ne (tgt := 194) hx hb (by omega) (by omega) rdX12_readsRule_177 (by decide) (fun c670 => False.elim (by omega)) (fun c670 => ?_)
          refine lv_aload_n hx hb rdX12_readsRule_180 rfl (lv_at hl 1 rfl) ?_
          refine f_12_17 F w (a := 146) rfl rtb_146 rdX12_readsRule_181 ?_
          refine lv_iconst (v := zI 4) hx hb rdX12_readsRule_184 rfl ?_
          refine lv_aload_n hx hb rdX12_readsRule_185 rfl (lv_at hl 1 rfl) ?_
          refine lv_bipush (v := zI 17) hx hb rdX12_readsRule_186 (by decide) ?_
          refine lv_bipush (v := zI 18) hx hb rdX12_readsRule_188 (by decide) ?_
          have Yq671 : YS (st Ma664 153 3 (zI vn663)) T tn (rdN T tn (rdV T tn b)) := hSn663
          have Fq671 : FrY (st Ma664 153 3 (zI vn663)) M := FrY.o hFn663
          generalize (st Ma664 153 3 (zI vn663)) = Mzq671 at w Yq671 Fq671
          refine k_Vi F w (As := [.int (zI 17), .int (zI 18)]) (rest := [.int (zI 4), .ref (B + 153)]) (a := 146) (kd_lt (a := 146) (show kd 146 = (12, 0, 0) from rfl) (by decide)) (sh_12 rfl _ _) rfl (t_needs hT (x := (rdN T tn (rdV T tn b))) Yq671 (lo := 17) (hi := 18) (by decide) (by decide)) rgv_X12_227 rhv_X12_needs ⟨(Nat.le_of_ble_eq_true rfl), (Nat.le_of_ble_eq_true rfl)⟩ hl.1 rfl (Nat.le_of_ble_eq_true rfl) ⟨Nat.zero_le _, Nat.zero_le _⟩ rdX12_readsRule_190 (fun r Ma673 H locs hp w => ?_)
          rcases hp with ⟨vn672, rfl, hFn672, -, -, -, hSn672, hWn672⟩
          have hFn672 : FrY Ma673 M := FrY.tr Fq671 (FrY.w hFn672)
          refine g_iast F w (a := 153) rfl (j := 4) ⟨by decide, by decide⟩ (by omega) rdX12_readsRule_193 (fun H locs w => ?_)
          refine lv_iload_n hx hb rdX12_readsRule_194 rfl (lv_at hl 0 rfl) ?_
          refine lv_iconst (v := zI 1) hx hb rdX12_readsRule_195 rfl ?_
          refine z_icmp_ne (tgt := 209) hx hb (by omega) (by omega) rdX12_readsRule_196 (by decide) (fun c674 => ?_) (fun c674 => False.elim (by omega))
          have Yq675 : YS (st Ma673 153 4 (zI vn672)) T tn (rdC T tn 17 18 4 (rdN T tn (rdV T tn b))) := hSn672 4
          have Fq675 : FrY (st Ma673 153 4 (zI vn672)) M := FrY.o hFn672
          generalize (st Ma673 153 4 (zI vn672)) = Mzq675 at w Yq675 Fq675
          have hGf := Yq675.1.1
          have eP : rdP T tn ((rdV T tn b).2.2 0) (rdV T tn b) = (rdC T tn 17 18 4 (rdN T tn (rdV T tn b))) := (rdP_8 (by omega))
          refine lv_aload_n hx hb rdX12_readsRule_209 rfl (lv_at hl 1 rfl) ?_
          refine f_12_16 F w (a := 146) rfl rtb_139 rdX12_readsRule_210 ?_
          refine r_val (v := (zI (1 - ((Prod.fst (rdC T tn 17 18 4 (rdN T tn (rdV T tn b))) : Nat) : Int)))) (Yq675.2.2.2.2.1) ?_
          refine z_if_ne (tgt := 236) hx hb (by omega) rdX12_readsRule_213 (by decide) (fun c676 => ?_) (fun c676 => ?_)
          · have hGi := Yq675.1.1
            refine lv_aload_n hx hb rdX12_readsRule_236 rfl (lv_at hl 1 rfl) ?_
            refine f_12_16 F w (a := 146) rfl rtb_139 rdX12_readsRule_237 ?_
            refine r_val (v := (zI (1 - ((Prod.fst (rdC T tn 17 18 4 (rdN T tn (rdV T tn b))) : Nat) : Int)))) (Yq675.2.2.2.2.1) ?_
            refine z_if_eq (tgt := 244) hx hb (by omega) rdX12_readsRule_240 (by decide) (fun c677 => False.elim (by omega)) (fun c677 => ?_)
            exact e_v F w hr hlocks ⟨YS.e Yq675 ((rdR_1 gV (by rw [eP]; omega)).trans eP), Fq675⟩ rdX12_readsRule_243
          · refine lv_iload_n hx hb rdX12_readsRule_216 rfl (lv_at hl 0 rfl) ?_
            refine k_Si F w (As := [.int (zI 8)]) (rest := []) (t_isBySyllables (z := 8) (by omega)) rgs_X12_140 rhs_X12_isBySyllables ⟨(Nat.le_of_ble_eq_true rfl), (Nat.le_of_ble_eq_true rfl)⟩ hl.1 rfl (Nat.le_of_ble_eq_true rfl) ⟨Nat.zero_le _, Nat.zero_le _⟩ rdX12_readsRule_217 (fun r Ma679 H locs hp w => ?_)
            rcases hp with ⟨⟨hb678, rfl⟩ | ⟨hb678, rfl⟩, hMe⟩
            · rw [hMe] at w
              refine z_if_ne (tgt := 236) hx hb (by omega) rdX12_readsRule_220 (by decide) (fun c680 => ?_) (fun c680 => False.elim (by omega))
              have hGi := Yq675.1.1
              refine lv_aload_n hx hb rdX12_readsRule_236 rfl (lv_at hl 1 rfl) ?_
              refine f_12_16 F w (a := 146) rfl rtb_139 rdX12_readsRule_237 ?_
              refine r_val (v := (zI (1 - ((Prod.fst (rdC T tn 17 18 4 (rdN T tn (rdV T tn b))) : Nat) : Int)))) (Yq675.2.2.2.2.1) ?_
              refine z_if_eq (tgt := 244) hx hb (by omega) rdX12_readsRule_240 (by decide) (fun c681 => ?_) (fun c681 => False.elim (by omega))
              refine lv_aload_n hx hb rdX12_readsRule_244 rfl (lv_at hl 1 rfl) ?_
              refine f_12_13 F w (a := 146) rfl rtb_127 rdX12_readsRule_245 ?_
              have htl681 := tok_le T tn (Prod.fst (Prod.snd (rdC T tn 17 18 4 (rdN T tn (rdV T tn b)))))
              refine r_val (v := (zI (((tok T tn (Prod.fst (Prod.snd (rdC T tn 17 18 4 (rdN T tn (rdV T tn b)))))) : Nat) : Int))) (Yq675.2.2.2.1.2.2.2.1) ?_
              refine lv_iconst (v := zI 3) hx hb rdX12_readsRule_248 rfl ?_
              refine z_icmp_ne (tgt := 259) hx hb (by omega) (by omega) rdX12_readsRule_249 (by decide) (fun c682 => ?_) (fun c682 => ?_)
              · refine lv_aload_n hx hb rdX12_readsRule_259 rfl (lv_at hl 1 rfl) ?_
                refine lv_iconst (v := zI 1) hx hb rdX12_readsRule_260 rfl ?_
                refine u_12_16 F w (a := 146) rfl (by decide) (by decide) rtb_139 rdX12_readsRule_261 (fun H locs w => ?_)
                exact e_v F w hr hlocks ⟨YS.e (YS.bad Yq675) (rdR_I gV (by rw [eP]; exact rdI_n (Or.inr (Or.inl (by omega)))) (rdS_n (by omega) (fun q9 => absurd (tok_3.mpr q9) (by omega)))), FrY.t Fq675⟩ rdX12_readsRule_264
              · refine lv_aload_n hx hb rdX12_readsRule_252 rfl (lv_at hl 1 rfl) ?_
                refine k_Vv F w (As := []) (rest := []) (a := 146) (kd_lt (a := 146) (show kd 146 = (12, 0, 0) from rfl) (by decide)) (sh_12 rfl _ _) rfl (t_goesOn hT Yq675.2.1 Yq675.2.2.1 (E := en T tn (Prod.fst (Prod.snd (rdC T tn 17 18 4 (rdN T tn (rdV T tn b)))))) (wa := tok T tn (Prod.fst (Prod.snd (rdC T tn 17 18 4 (rdN T tn (rdV T tn b)))))) (en_le Yq675.2.2.2.1.1).2.1 Yq675.2.2.2.1.2.2.1 Yq675.2.2.2.1.2.2.2.1 (tok_le T tn _) (tok_w Yq675.2.2.2.1.1 (Or.inr (Or.inr (by omega))))) rgv_X12_221 rhv_X12_goesOn ⟨(Nat.le_of_ble_eq_true rfl), (Nat.le_of_ble_eq_true rfl)⟩ hl.1 rfl (Nat.le_of_ble_eq_true rfl) ⟨Nat.zero_le _, Nat.zero_le _⟩ rdX12_readsRule_253 (fun Ma684 H locs hp w => ?_)
                rcases hp with ⟨hRn683, hGn683⟩
                have hYn683 := YS.go Yq675 (by omega) hRn683 hGn683
                have hFn683 : FrY Ma684 M := FrY.tr Fq675 (FrY.w (FrW.g hGn683))
                refine lv_goto (tgt := 264) hx hb rdX12_readsRule_256 (by decide) ?_
                exact e_v F w hr hlocks ⟨YS.e hYn683 (rdR_I gV (by rw [eP]; exact rdI_n (Or.inr (Or.inl (by omega)))) (rdS_y (by omega) (tok_3.mp (by omega)).1 (tok_3.mp (by omega)).2)), hFn683⟩ rdX12_readsRule_264
            · exact absurd hb678 (by omega)
      · subst c9
        refine lv_istore_n (lv' := [(1, .int (zI 9)), (0, .ref (B + 146))]) hx hb rdX12_readsRule_63 rfl hl (by decide) rfl (fun ls hl => ?_)
        refine lv_aload_n hx hb rdX12_readsRule_64 rfl (lv_at hl 1 rfl) ?_
        refine f_12_17 F w (a := 146) rfl rtb_146 rdX12_readsRule_65 ?_
        refine lv_iconst (v := zI 0) hx hb rdX12_readsRule_68 rfl ?_
        refine lv_iload_n hx hb rdX12_readsRule_69 rfl (lv_at hl 0 rfl) ?_
        refine g_iast F w (a := 153) rfl (j := 0) ⟨by decide, by decide⟩ (by omega) rdX12_readsRule_70 (fun H locs w => ?_)
        refine lv_iload_n hx hb rdX12_readsRule_71 rfl (lv_at hl 0 rfl) ?_
        refine lv_bipush (v := zI 8) hx hb rdX12_readsRule_72 (by decide) ?_
        refine z_icmp_ne (tgt := 90) hx hb (by omega) (by omega) rdX12_readsRule_74 (by decide) (fun c685 => ?_) (fun c685 => False.elim (by omega))
        refine lv_iload_n hx hb rdX12_readsRule_90 rfl (lv_at hl 0 rfl) ?_
        refine z_if_eq (tgt := 119) hx hb (by omega) rdX12_readsRule_91 (by decide) (fun c686 => False.elim (by omega)) (fun c686 => ?_)
        refine lv_aload_n hx hb rdX12_readsRule_94 rfl (lv_at hl 1 rfl) ?_
        refine f_12_17 F w (a := 146) rfl rtb_146 rdX12_readsRule_95 ?_
        refine lv_iconst (v := zI 2) hx hb rdX12_readsRule_98 rfl ?_
        refine lv_aload_n hx hb rdX12_readsRule_99 rfl (lv_at hl 1 rfl) ?_
        refine lv_bipush (v := zI 11) hx hb rdX12_readsRule_100 (by decide) ?_
        refine lv_iload_n hx hb rdX12_readsRule_102 rfl (lv_at hl 0 rfl) ?_
        refine lv_bipush (v := zI 9) hx hb rdX12_readsRule_103 (by decide) ?_
        refine z_icmp_ne (tgt := 113) hx hb (by omega) (by omega) rdX12_readsRule_105 (by decide) (fun c687 => False.elim (by omega)) (fun c687 => ?_)
        refine lv_bipush (v := zI 13) hx hb rdX12_readsRule_108 (by decide) ?_
        refine lv_goto (tgt := 115) hx hb rdX12_readsRule_110 (by decide) ?_
        have Yq688 : YS (st Ma372 153 0 (zI 9)) T tn (rdV T tn b) := hV
        have Fq688 : FrY (st Ma372 153 0 (zI 9)) M := FrY.o hFn371
        generalize (st Ma372 153 0 (zI 9)) = Mzq688 at w Yq688 Fq688
        refine k_Vi F w (As := [.int (zI 11), .int (zI 13)]) (rest := [.int (zI 2), .ref (B + 153)]) (a := 146) (kd_lt (a := 146) (show kd 146 = (12, 0, 0) from rfl) (by decide)) (sh_12 rfl _ _) rfl (t_needs hT (x := (rdV T tn b)) Yq688 (lo := 11) (hi := 13) (by decide) (by decide)) rgv_X12_227 rhv_X12_needs ⟨(Nat.le_of_ble_eq_true rfl), (Nat.le_of_ble_eq_true rfl)⟩ hl.1 rfl (Nat.le_of_ble_eq_true rfl) ⟨Nat.zero_le _, Nat.zero_le _⟩ rdX12_readsRule_115 (fun r Ma690 H locs hp w => ?_)
        rcases hp with ⟨vn689, rfl, hFn689, -, -, -, hSn689, hWn689⟩
        have hFn689 : FrY Ma690 M := FrY.tr Fq688 (FrY.w hFn689)
        refine g_iast F w (a := 153) rfl (j := 2) ⟨by decide, by decide⟩ (by omega) rdX12_readsRule_118 (fun H locs w => ?_)
        refine lv_iload_n hx hb rdX12_readsRule_119 rfl (lv_at hl 0 rfl) ?_
        refine lv_bipush (v := zI 7) hx hb rdX12_readsRule_120 (by decide) ?_
        refine z_icmp_ne (tgt := 148) hx hb (by omega) (by omega) rdX12_readsRule_122 (by decide) (fun c691 => ?_) (fun c691 => False.elim (by omega))
        refine lv_iload_n hx hb rdX12_readsRule_148 rfl (lv_at hl 0 rfl) ?_
        refine k_Si F w (As := [.int (zI 9)]) (rest := []) (t_hasSide (z := 9) (by omega)) rgs_X12_137 rhs_X12_hasSide ⟨(Nat.le_of_ble_eq_true rfl), (Nat.le_of_ble_eq_true rfl)⟩ hl.1 rfl (Nat.le_of_ble_eq_true rfl) ⟨Nat.zero_le _, Nat.zero_le _⟩ rdX12_readsRule_149 (fun r Ma693 H locs hp w => ?_)
        rcases hp with ⟨⟨hb692, rfl⟩ | ⟨hb692, rfl⟩, hMe⟩
        · exact absurd hb692 (by omega)
        · rw [hMe] at w
          refine z_if_eq (tgt := 169) hx hb (by omega) rdX12_readsRule_152 (by decide) (fun c694 => ?_) (fun c694 => False.elim (by omega))
          refine lv_iload_n hx hb rdX12_readsRule_169 rfl (lv_at hl 0 rfl) ?_
          refine lv_iconst (v := zI 3) hx hb rdX12_readsRule_170 rfl ?_
          refine z_icmp_eq (tgt := 180) hx hb (by omega) (by omega) rdX12_readsRule_171 (by decide) (fun c695 => False.elim (by omega)) (fun c695 => ?_)
          refine lv_iload_n hx hb rdX12_readsRule_174 rfl (lv_at hl 0 rfl) ?_
          refine lv_bipush (v := zI 8) hx hb rdX12_readsRule_175 (by decide) ?_
          refine z_icmp_ne (tgt := 194) hx hb (by omega) (by omega) rdX12_readsRule_177 (by decide) (fun c696 => ?_) (fun c696 => False.elim (by omega))
          refine lv_iload_n hx hb rdX12_readsRule_194 rfl (lv_at hl 0 rfl) ?_
          refine lv_iconst (v := zI 1) hx hb rdX12_readsRule_195 rfl ?_
          refine z_icmp_ne (tgt := 209) hx hb (by omega) (by omega) rdX12_readsRule_196 (by decide) (fun c697 => ?_) (fun c697 => False.elim (by omega))
          have Yq698 : YS (st Ma690 153 2 (zI vn689)) T tn (rdC T tn 11 13 2 (rdV T tn b)) := hSn689 2
          have Fq698 : FrY (st Ma690 153 2 (zI vn689)) M := FrY.o hFn689
          generalize (st Ma690 153 2 (zI vn689)) = Mzq698 at w Yq698 Fq698
          have hGf := Yq698.1.1
          have eP : rdP T tn ((rdV T tn b).2.2 0) (rdV T tn b) = (rdC T tn 11 13 2 (rdV T tn b)) := ((rdP_o (by omega)).trans (rdK_9 (by omega)))
          refine lv_aload_n hx hb rdX12_readsRule_209 rfl (lv_at hl 1 rfl) ?_
          refine f_12_16 F w (a := 146) rfl rtb_139 rdX12_readsRule_210 ?_
          refine r_val (v := (zI (1 - ((Prod.fst (rdC T tn 11 13 2 (rdV T tn b)) : Nat) : Int)))) (Yq698.2.2.2.2.1) ?_
          refine z_if_ne (tgt := 236) hx hb (by omega) rdX12_readsRule_213 (by decide) (fun c699 => ?_) (fun c699 => ?_)
          · have hGi := Yq698.1.1
            refine lv_aload_n hx hb rdX12_readsRule_236 rfl (lv_at hl 1 rfl) ?_
            refine f_12_16 F w (a := 146) rfl rtb_139 rdX12_readsRule_237 ?_
            refine r_val (v := (zI (1 - ((Prod.fst (rdC T tn 11 13 2 (rdV T tn b)) : Nat) : Int)))) (Yq698.2.2.2.2.1) ?_
            refine z_if_eq (tgt := 244) hx hb (by omega) rdX12_readsRule_240 (by decide) (fun c700 => False.elim (by omega)) (fun c700 => ?_)
            exact e_v F w hr hlocks ⟨YS.e Yq698 ((rdR_1 gV (by rw [eP]; omega)).trans eP), Fq698⟩ rdX12_readsRule_243
          · refine lv_iload_n hx hb rdX12_readsRule_216 rfl (lv_at hl 0 rfl) ?_
            refine k_Si F w (As := [.int (zI 9)]) (rest := []) (t_isBySyllables (z := 9) (by omega)) rgs_X12_140 rhs_X12_isBySyllables ⟨(Nat.le_of_ble_eq_true rfl), (Nat.le_of_ble_eq_true rfl)⟩ hl.1 rfl (Nat.le_of_ble_eq_true rfl) ⟨Nat.zero_le _, Nat.zero_le _⟩ rdX12_readsRule_217 (fun r Ma702 H locs hp w => ?_)
            rcases hp with ⟨⟨hb701, rfl⟩ | ⟨hb701, rfl⟩, hMe⟩
            · rw [hMe] at w
              refine z_if_ne (tgt := 236) hx hb (by omega) rdX12_readsRule_220 (by decide) (fun c703 => ?_) (fun c703 => False.elim (by omega))
              have hGi := Yq698.1.1
              refine lv_aload_n hx hb rdX12_readsRule_236 rfl (lv_at hl 1 rfl) ?_
              refine f_12_16 F w (a := 146) rfl rtb_139 rdX12_readsRule_237 ?_
              refine r_val (v := (zI (1 - ((Prod.fst (rdC T tn 11 13 2 (rdV T tn b)) : Nat) : Int)))) (Yq698.2.2.2.2.1) ?_
              refine z_if_eq (tgt := 244) hx hb (by omega) rdX12_readsRule_240 (by decide) (fun c704 => ?_) (fun c704 => False.elim (by omega))
              refine lv_aload_n hx hb rdX12_readsRule_244 rfl (lv_at hl 1 rfl) ?_
              refine f_12_13 F w (a := 146) rfl rtb_127 rdX12_readsRule_245 ?_
              have htl704 := tok_le T tn (Prod.fst (Prod.snd (rdC T tn 11 13 2 (rdV T tn b))))
              refine r_val (v := (zI (((tok T tn (Prod.fst (Prod.snd (rdC T tn 11 13 2 (rdV T tn b))))) : Nat) : Int))) (Yq698.2.2.2.1.2.2.2.1) ?_
              refine lv_iconst (v := zI 3) hx hb rdX12_readsRule_248 rfl ?_
              refine z_icmp_ne (tgt := 259) hx hb (by omega) (by omega) rdX12_readsRule_249 (by decide) (fun c705 => ?_) (fun c705 => ?_)
              · refine lv_aload_n hx hb rdX12_readsRule_259 rfl (lv_at hl 1 rfl) ?_
                refine lv_iconst (v := zI 1) hx hb rdX12_readsRule_260 rfl ?_
                refine u_12_16 F w (a := 146) rfl (by decide) (by decide) rtb_139 rdX12_readsRule_261 (fun H locs w => ?_)
                exact e_v F w hr hlocks ⟨YS.e (YS.bad Yq698) (rdR_I gV (by rw [eP]; exact rdI_n (Or.inr (Or.inl (by omega)))) (rdS_n (by omega) (fun q9 => absurd (tok_3.mpr q9) (by omega)))), FrY.t Fq698⟩ rdX12_readsRule_264
              · refine lv_aload_n hx hb rdX12_readsRule_252 rfl (lv_at hl 1 rfl) ?_
                refine k_Vv F w (As := []) (rest := []) (a := 146) (kd_lt (a := 146) (show kd 146 = (12, 0, 0) from rfl) (by decide)) (sh_12 rfl _ _) rfl (t_goesOn hT Yq698.2.1 Yq698.2.2.1 (E := en T tn (Prod.fst (Prod.snd (rdC T tn 11 13 2 (rdV T tn b))))) (wa := tok T tn (Prod.fst (Prod.snd (rdC T tn 11 13 2 (rdV T tn b))))) (en_le Yq698.2.2.2.1.1).2.1 Yq698.2.2.2.1.2.2.1 Yq698.2.2.2.1.2.2.2.1 (tok_le T tn _) (tok_w Yq698.2.2.2.1.1 (Or.inr (Or.inr (by omega))))) rgv_X12_221 rhv_X12_goesOn ⟨(Nat.le_of_ble_eq_true rfl), (Nat.le_of_ble_eq_true rfl)⟩ hl.1 rfl (Nat.le_of_ble_eq_true rfl) ⟨Nat.zero_le _, Nat.zero_le _⟩ rdX12_readsRule_253 (fun Ma707 H locs hp w => ?_)
                rcases hp with ⟨hRn706, hGn706⟩
                have hYn706 := YS.go Yq698 (by omega) hRn706 hGn706
                have hFn706 : FrY Ma707 M := FrY.tr Fq698 (FrY.w (FrW.g hGn706))
                refine lv_goto (tgt := 264) hx hb rdX12_readsRule_256 (by decide) ?_
                exact e_v F w hr hlocks ⟨YS.e hYn706 (rdR_I gV (by rw [eP]; exact rdI_n (Or.inr (Or.inl (by omega)))) (rdS_y (by omega) (tok_3.mp (by omega)).1 (tok_3.mp (by omega)).2)), hFn706⟩ rdX12_readsRule_264
            · exact absurd hb701 (by omega)
