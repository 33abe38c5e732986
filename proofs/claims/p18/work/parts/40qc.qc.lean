theorem wtk_X9_fallsUpTo : Cond.code yX9_fallsUpTo cX9_fallsUpTo 6 (some .int) ∈ TB := tk_X9_fallsUpTo
theorem wgc_X9_fallsUpTo : GoodIn TB (cw yX9_fallsUpTo cX9_fallsUpTo 6 (some .int)) := goodIn_c2 wtk_X9_fallsUpTo
theorem wtb_315 : Cond.methodLink "ToneLines" 216 yX9_fallsUpTo ∈ TB := tb_349
theorem wtb_316 : Cond.instanceMethod yX9_fallsUpTo ∈ TB := tb_350
theorem wtb_317 : Cond.selects "ToneLines$Word" yX9_fallsUpTo yX9_fallsUpTo ∈ TB := tb_351
theorem wgv_X11_216 : GoodIn TB (wsV RX11 216 RX9 yX9_fallsUpTo (cw yX9_fallsUpTo cX9_fallsUpTo 6 (some .int))) := goodIn_4 wtb_315 wtb_316 wtb_317 wtb_3 wgc_X9_fallsUpTo
theorem whv_X9_fallsUpTo : yX9_fallsUpTo.cls = RX9 ∧ yX9_fallsUpTo.cls ≠ "java/lang/invoke/MethodHandle" ∧ yX9_fallsUpTo.cls ≠ "java/lang/invoke/VarHandle" ∧ (parseMethodDescriptor yX9_fallsUpTo.desc).map (fun d => d.parameters.length) = some 1 := hv_X9_fallsUpTo
theorem wdX11_toneAt_0 : decode cX11_toneAt 0 = .ok (.aload_n 0, 1) := dX11_toneAt_0
theorem wdX11_toneAt_1 : decode cX11_toneAt 1 = .ok (.getfield 35, 3) := dX11_toneAt_1
theorem wdX11_toneAt_4 : decode cX11_toneAt 4 = .ok (.iload_n 1, 1) := dX11_toneAt_4
theorem wdX11_toneAt_5 : decode cX11_toneAt 5 = .ok (.invokevirtual 193, 3) := dX11_toneAt_5
theorem wdX11_toneAt_8 : decode cX11_toneAt 8 = .ok (.ifCond .ne 5, 3) := dX11_toneAt_8
theorem wdX11_toneAt_13 : decode cX11_toneAt 13 = .ok (.aload_n 0, 1) := dX11_toneAt_13
theorem wdX11_toneAt_14 : decode cX11_toneAt 14 = .ok (.getfield 35, 3) := dX11_toneAt_14
theorem wdX11_toneAt_17 : decode cX11_toneAt 17 = .ok (.iload_n 1, 1) := dX11_toneAt_17
theorem wdX11_toneAt_18 : decode cX11_toneAt 18 = .ok (.invokevirtual 196, 3) := dX11_toneAt_18
theorem wdX11_toneAt_21 : decode cX11_toneAt 21 = .ok (.astore 4, 2) := dX11_toneAt_21
theorem wdX11_toneAt_23 : decode cX11_toneAt 23 = .ok (.aload 4, 2) := dX11_toneAt_23
theorem wdX11_toneAt_25 : decode cX11_toneAt 25 = .ok (.iload_n 2, 1) := dX11_toneAt_25
theorem wdX11_toneAt_26 : decode cX11_toneAt 26 = .ok (.invokevirtual 141, 3) := dX11_toneAt_26
theorem wdX11_toneAt_29 : decode cX11_toneAt 29 = .ok (.ifCond .ne 15, 3) := dX11_toneAt_29
theorem wdX11_toneAt_44 : decode cX11_toneAt 44 = .ok (.aload 4, 2) := dX11_toneAt_44
theorem wdX11_toneAt_46 : decode cX11_toneAt 46 = .ok (.getfield 126, 3) := dX11_toneAt_46
theorem wdX11_toneAt_49 : decode cX11_toneAt 49 = .ok (.iload_n 2, 1) := dX11_toneAt_49
theorem wdX11_toneAt_50 : decode cX11_toneAt 50 = .ok (.iaload, 1) := dX11_toneAt_50
theorem wdX11_toneAt_51 : decode cX11_toneAt 51 = .ok (.ifCond .ne 7, 3) := dX11_toneAt_51
theorem wdX11_toneAt_58 : decode cX11_toneAt 58 = .ok (.iconst 0, 1) := dX11_toneAt_58
theorem wdX11_toneAt_59 : decode cX11_toneAt 59 = .ok (.istore 5, 2) := dX11_toneAt_59
theorem wdX11_toneAt_61 : decode cX11_toneAt 61 = .ok (.iload_n 3, 1) := dX11_toneAt_61
theorem wdX11_toneAt_62 : decode cX11_toneAt 62 = .ok (.tableswitch 114 0 4 #[34, 42, 63, 84, 95], 34) := dX11_toneAt_62
theorem wdX11_toneAt_96 : decode cX11_toneAt 96 = .ok (.aload 4, 2) := dX11_toneAt_96
theorem wdX11_toneAt_98 : decode cX11_toneAt 98 = .ok (.getfield 147, 3) := dX11_toneAt_98
theorem wdX11_toneAt_101 : decode cX11_toneAt 101 = .ok (.iload_n 2, 1) := dX11_toneAt_101
theorem wdX11_toneAt_102 : decode cX11_toneAt 102 = .ok (.iaload, 1) := dX11_toneAt_102
theorem wdX11_toneAt_103 : decode cX11_toneAt 103 = .ok (.ireturn, 1) := dX11_toneAt_103
theorem wdX11_toneAt_104 : decode cX11_toneAt 104 = .ok (.iload 5, 2) := dX11_toneAt_104
theorem wdX11_toneAt_106 : decode cX11_toneAt 106 = .ok (.ifCond .eq 8, 3) := dX11_toneAt_106
theorem wdX11_toneAt_114 : decode cX11_toneAt 114 = .ok (.aload 4, 2) := dX11_toneAt_114
theorem wdX11_toneAt_116 : decode cX11_toneAt 116 = .ok (.getfield 126, 3) := dX11_toneAt_116
theorem wdX11_toneAt_119 : decode cX11_toneAt 119 = .ok (.iload_n 2, 1) := dX11_toneAt_119
theorem wdX11_toneAt_120 : decode cX11_toneAt 120 = .ok (.iaload, 1) := dX11_toneAt_120
theorem wdX11_toneAt_121 : decode cX11_toneAt 121 = .ok (.invokestatic 228, 3) := dX11_toneAt_121
theorem wtb_327 : Cond.methodLink "ToneLines" 228 yX11_lowest ∈ TB := tb_361
theorem wgs_X11_228 : GoodIn TB (va_wsS RX11 228 yX11_lowest (cw yX11_lowest cX11_lowest 1 (some .int))) := goodIn_3 wtb_327 wtb_6 wtb_5 wgc_X11_lowest
theorem wdX11_toneAt_124 : decode cX11_toneAt 124 = .ok (.ireturn, 1) := dX11_toneAt_124
theorem wdX11_toneAt_125 : decode cX11_toneAt 125 = .ok (.iload 5, 2) := dX11_toneAt_125
theorem wdX11_toneAt_127 : decode cX11_toneAt 127 = .ok (.ifCond .eq 8, 3) := dX11_toneAt_127
theorem wdX11_toneAt_135 : decode cX11_toneAt 135 = .ok (.aload 4, 2) := dX11_toneAt_135
theorem wdX11_toneAt_137 : decode cX11_toneAt 137 = .ok (.getfield 126, 3) := dX11_toneAt_137
theorem wdX11_toneAt_140 : decode cX11_toneAt 140 = .ok (.iload_n 2, 1) := dX11_toneAt_140
theorem wdX11_toneAt_141 : decode cX11_toneAt 141 = .ok (.iaload, 1) := dX11_toneAt_141
theorem wdX11_toneAt_142 : decode cX11_toneAt 142 = .ok (.invokestatic 231, 3) := dX11_toneAt_142
theorem wtb_328 : Cond.methodLink "ToneLines" 231 yX11_highest ∈ TB := tb_362
theorem wgs_X11_231 : GoodIn TB (va_wsS RX11 231 yX11_highest (cw yX11_highest cX11_highest 2 (some .int))) := goodIn_3 wtb_328 wtb_7 wtb_5 wgc_X11_highest
theorem wdX11_toneAt_145 : decode cX11_toneAt 145 = .ok (.ireturn, 1) := dX11_toneAt_145
theorem wdX11_toneAt_146 : decode cX11_toneAt 146 = .ok (.aload 4, 2) := dX11_toneAt_146
theorem wdX11_toneAt_148 : decode cX11_toneAt 148 = .ok (.getfield 126, 3) := dX11_toneAt_148
theorem wdX11_toneAt_151 : decode cX11_toneAt 151 = .ok (.iload_n 2, 1) := dX11_toneAt_151
theorem wdX11_toneAt_152 : decode cX11_toneAt 152 = .ok (.iaload, 1) := dX11_toneAt_152
theorem wdX11_toneAt_153 : decode cX11_toneAt 153 = .ok (.invokestatic 234, 3) := dX11_toneAt_153
theorem wtb_329 : Cond.methodLink "ToneLines" 234 yJ6_bitCount_0f7a4 ∈ TB := tb_22
theorem wgs_X11_234 : GoodIn TB (va_wsS RX11 234 yJ6_bitCount_0f7a4 (cw yJ6_bitCount_0f7a4 cJ6_bitCount_0f7a4 1 (some .int))) := goodIn_3 wtb_329 wtb_13 wtb_14 wgc_J6_bitCount_0f7a4
theorem wdX11_toneAt_156 : decode cX11_toneAt 156 = .ok (.ireturn, 1) := dX11_toneAt_156
theorem wdX11_toneAt_157 : decode cX11_toneAt 157 = .ok (.iconst 3, 1) := dX11_toneAt_157
theorem wdX11_toneAt_158 : decode cX11_toneAt 158 = .ok (.aload 4, 2) := dX11_toneAt_158
theorem wdX11_toneAt_160 : decode cX11_toneAt 160 = .ok (.getfield 147, 3) := dX11_toneAt_160
theorem wdX11_toneAt_163 : decode cX11_toneAt 163 = .ok (.iload_n 2, 1) := dX11_toneAt_163
theorem wdX11_toneAt_164 : decode cX11_toneAt 164 = .ok (.iaload, 1) := dX11_toneAt_164
theorem wdX11_toneAt_165 : decode cX11_toneAt 165 = .ok (.iconst 1, 1) := dX11_toneAt_165
theorem wdX11_toneAt_166 : decode cX11_toneAt 166 = .ok (.iadd, 1) := dX11_toneAt_166
theorem wdX11_toneAt_167 : decode cX11_toneAt 167 = .ok (.imul, 1) := dX11_toneAt_167
theorem wdX11_toneAt_168 : decode cX11_toneAt 168 = .ok (.aload 4, 2) := dX11_toneAt_168
theorem wdX11_toneAt_170 : decode cX11_toneAt 170 = .ok (.iload_n 2, 1) := dX11_toneAt_170
theorem wdX11_toneAt_171 : decode cX11_toneAt 171 = .ok (.invokevirtual 216, 3) := dX11_toneAt_171
theorem wdX11_toneAt_174 : decode cX11_toneAt 174 = .ok (.isub, 1) := dX11_toneAt_174
theorem wdX11_toneAt_175 : decode cX11_toneAt 175 = .ok (.ireturn, 1) := dX11_toneAt_175
theorem wdX11_toneAt_176 : decode cX11_toneAt 176 = .ok (.iconst (-1), 1) := dX11_toneAt_176
theorem wdX11_toneAt_177 : decode cX11_toneAt 177 = .ok (.ireturn, 1) := dX11_toneAt_177
theorem wdX11_toneAt_54 : decode cX11_toneAt 54 = .ok (.iconst 1, 1) := dX11_toneAt_54
theorem wdX11_toneAt_55 : decode cX11_toneAt 55 = .ok (.goto 4, 3) := dX11_toneAt_55
theorem wdX11_toneAt_109 : decode cX11_toneAt 109 = .ok (.bipush (-2), 2) := dX11_toneAt_109
theorem wdX11_toneAt_111 : decode cX11_toneAt 111 = .ok (.goto 13, 3) := dX11_toneAt_111
theorem wdX11_toneAt_130 : decode cX11_toneAt 130 = .ok (.bipush (-2), 2) := dX11_toneAt_130
theorem wdX11_toneAt_132 : decode cX11_toneAt 132 = .ok (.goto 13, 3) := dX11_toneAt_132
theorem wdX11_toneAt_32 : decode cX11_toneAt 32 = .ok (.iload_n 3, 1) := dX11_toneAt_32
theorem wdX11_toneAt_33 : decode cX11_toneAt 33 = .ok (.iconst 4, 1) := dX11_toneAt_33
theorem wdX11_toneAt_34 : decode cX11_toneAt 34 = .ok (.if_icmp .ne 8, 3) := dX11_toneAt_34
theorem wdX11_toneAt_42 : decode cX11_toneAt 42 = .ok (.iconst (-1), 1) := dX11_toneAt_42
theorem wdX11_toneAt_43 : decode cX11_toneAt 43 = .ok (.ireturn, 1) := dX11_toneAt_43
theorem wdX11_toneAt_37 : decode cX11_toneAt 37 = .ok (.bipush (-100), 2) := dX11_toneAt_37
theorem wdX11_toneAt_39 : decode cX11_toneAt 39 = .ok (.goto 4, 3) := dX11_toneAt_39
theorem wdX11_toneAt_11 : decode cX11_toneAt 11 = .ok (.iconst (-1), 1) := dX11_toneAt_11
theorem wdX11_toneAt_12 : decode cX11_toneAt 12 = .ok (.ireturn, 1) := dX11_toneAt_12
set_option maxRecDepth 4000 in
theorem h_toneAt {l : Launch} {D : va_G} {B : Nat} {cy : Nat → ClassId} {M : Mem} {Ps : Nat → Nat → Int} {mr rd k q hv ed : Nat} {o : Wo} {Hs : Nat → Fw} (hS : CS M Ps mr (q, hv, ed, o) rd Hs k) {n9 t9 w9 : Int} (hn9 : rg n9) (ht9 : rg t9) (hw9 : rg w9) : Ci l D B cy yX11_toneAt cX11_toneAt 6 (some .int) 6 155 [.ref (B + 0), .int (zI n9), .int (zI t9), .int (zI w9)] M (fun r M1 => r = zI (ofA Ps mr (q, hv, ed, o) n9 (toneA t9 w9))) := by
  refine s_any (by decide) (Nat.le_of_ble_eq_true rfl) ?_
  intro p e s m below meth c ls F hr hlocks w hl
  have F : CallFix p m c cX11_toneAt 6 s _ TB RX11 := F
  have hx := F.1
  have hb := F.2.1
  have hl : lv_has ls 6 [(0, .ref (B + 0)), (1, .int (zI n9)), (2, .int (zI t9)), (3, .int (zI w9))] := hl
  have hm8 := hS.1.2.1
  have hC : CW M 44 q hv ed o := hS.t
  have hW : isW M 44 o.1 q hv ed o.2.1 o.2.2 := hC.1
  have hwf := hC.wf
  have hKL := hwf.2.2.2.2
  have hn12 := hwf.1
  have hq12 := hwf.2.1
  have hhv := hwf.2.2.1
  have hed := hwf.2.2.2.1
  refine lv_aload_n hx hb wdX11_toneAt_0 rfl (lv_at hl 0 rfl) ?_
  refine f_11_3 F w (a := 0) rfl wtb_207 wdX11_toneAt_1 ?_
  refine lv_iload_n hx hb wdX11_toneAt_4 rfl (lv_at hl 1 rfl) ?_
  refine k_Vi F w (As := [.int (zI n9)]) (rest := []) (a := 22) (kd_lt (a := 22) (show kd 22 = (0, 0, 0) from rfl) (by decide)) (sh_0 rfl _ _) rfl (g_covers hS (n9 := n9) (by omega)) wgv_X11_193 whv_X0_covers ⟨(Nat.le_of_ble_eq_true rfl), (Nat.le_of_ble_eq_true rfl)⟩ hl.1 rfl (Nat.le_of_ble_eq_true rfl) ⟨Nat.zero_le _, Nat.zero_le _⟩ wdX11_toneAt_5 (fun r Ma2 H locs hp w => ?_)
  rcases hp with ⟨⟨hb1, rfl⟩ | ⟨hb1, rfl⟩, hMe⟩
  · rw [hMe] at w
    obtain ⟨nn, rfl⟩ : ∃ n8 : Nat, n9 = (n8 : Int) := ⟨Int.toNat n9, by omega⟩
    have hnn : nn ≤ mr := by omega
    refine z_if_ne (tgt := 13) hx hb (by omega) wdX11_toneAt_8 (by decide) (fun c3 => ?_) (fun c3 => False.elim (by omega))
    refine lv_aload_n hx hb wdX11_toneAt_13 rfl (lv_at hl 0 rfl) ?_
    refine f_11_3 F w (a := 0) rfl wtb_207 wdX11_toneAt_14 ?_
    refine lv_iload_n hx hb wdX11_toneAt_17 rfl (lv_at hl 1 rfl) ?_
    refine k_Vr F w (As := [.int (zI (nn : Int))]) (rest := []) (a := 22) (kd_lt (a := 22) (show kd 22 = (0, 0, 0) from rfl) (by decide)) (sh_0 rfl _ _) rfl (g_stageOf hS (n9 := nn) (by omega)) wgv_X11_196 whv_X0_stageOf ⟨(Nat.le_of_ble_eq_true rfl), (Nat.le_of_ble_eq_true rfl)⟩ hl.1 rfl (Nat.le_of_ble_eq_true rfl) ⟨Nat.zero_le _, Nat.zero_le _⟩ wdX11_toneAt_18 (fun r Ma4 H locs hp w => ?_)
    rcases hp with ⟨rfl, rd1, hnr, _, hS1, _⟩
    have hC9 := hS1.2.1.2.2.1 nn (by omega)
    obtain ⟨o1, ho1⟩ : ∃ o1, o1 = sg9 Ps (q, hv, ed, o) nn := ⟨_, rfl⟩
    have hC1 : CW Ma4 (44 + 3 * nn) q hv ed o1 := by rw [ho1]; exact hC9
    have hW1 := hC1.1
    have hwf1 := hC1.wf
    have hKL1 := hwf1.2.2.2.2
    have hn1 := hwf1.1
    refine lv_astore (lv' := [(4, .ref (B + (44 + 3 * nn))), (0, .ref (B + 0)), (1, .int (zI (nn : Int))), (2, .int (zI t9)), (3, .int (zI w9))]) hx hb wdX11_toneAt_21 hl (by decide) rfl (fun ls hl => ?_)
    refine lv_aload hx hb wdX11_toneAt_23 (lv_at hl 0 rfl) ?_
    refine lv_iload_n hx hb wdX11_toneAt_25 rfl (lv_at hl 3 rfl) ?_
    refine k_Vi F w (As := [.int (zI t9)]) (rest := []) (a := (44 + 3 * nn)) (kd_lt (a := (44 + 3 * nn)) (kd_sg (by omega)) (by decide)) (sh_9 (kd_sg (by omega)) _ _) rfl (s_X9_hasTone (a := 44 + 3 * nn) (kd_sg (by omega)) hW1 hwf1 (by omega)) wgv_X11_141 whv_X9_hasTone ⟨(Nat.le_of_ble_eq_true rfl), (Nat.le_of_ble_eq_true rfl)⟩ hl.1 rfl (Nat.le_of_ble_eq_true rfl) ⟨Nat.zero_le _, Nat.zero_le _⟩ wdX11_toneAt_26 (fun r Ma5 H locs hp w => ?_)
    rcases hp with ⟨⟨tt, rfl, htt, rfl⟩ | ⟨ntt, rfl⟩, hMe⟩
    · rw [hMe] at w
      refine z_if_ne (tgt := 44) hx hb (by omega) wdX11_toneAt_29 (by decide) (fun c6 => ?_) (fun c6 => False.elim (by omega))
      refine lv_aload hx hb wdX11_toneAt_44 (lv_at hl 0 rfl) ?_
      refine f_9_5 F w (a := (44 + 3 * nn)) (kd_sg (by omega)) wtb_230 wdX11_toneAt_46 ?_
      refine lv_iload_n hx hb wdX11_toneAt_49 rfl (lv_at hl 3 rfl) ?_
      refine g_iald F w (a := ((44 + 3 * nn) + 2)) (kd_w2 (kd_sg (by omega))) (j := tt) (ix_n (by omega)) (by omega) wdX11_toneAt_50 ?_
      have hL6 := (hKL1 tt (by omega)).2
      refine r_val (v := (zI (((o1.2.2 tt) : Nat) : Int))) (hW1.2.2.2.2.2 tt (by omega)) ?_
      refine z_if_ne (tgt := 58) hx hb (by omega) wdX11_toneAt_51 (by decide) (fun c7 => ?_) (fun c7 => ?_)
      · refine lv_iconst (v := zI 0) hx hb wdX11_toneAt_58 rfl ?_
        refine lv_istore (lv' := [(5, .int (zI 0)), (4, .ref (B + (44 + 3 * nn))), (0, .ref (B + 0)), (1, .int (zI (nn : Int))), (2, .int (zI (tt : Int))), (3, .int (zI w9))]) hx hb wdX11_toneAt_59 hl (by decide) rfl (fun ls hl => ?_)
        refine lv_iload_n hx hb wdX11_toneAt_61 rfl (lv_at hl 5 rfl) ?_
        rcases (show (w9 : Int) = 0 ∨ (w9 : Int) = 1 ∨ (w9 : Int) = 2 ∨ (w9 : Int) = 3 ∨ (w9 : Int) = 4 ∨ (w9 ≠ 0 ∧ w9 ≠ 1 ∧ w9 ≠ 2 ∧ w9 ≠ 3 ∧ w9 ≠ 4) by omega) with c8 | c8 | c8 | c8 | c8 | c8
        · refine r_val (v := zI 0) (congrArg zI c8) ?_
          refine lv_tableIn (tgt := 96) hx hb wdX11_toneAt_62 (by decide) (by decide) (off := 34) rfl (by decide) ?_
          refine lv_aload hx hb wdX11_toneAt_96 (lv_at hl 1 rfl) ?_
          refine f_9_4 F w (a := (44 + 3 * nn)) (kd_sg (by omega)) wtb_240 wdX11_toneAt_98 ?_
          refine lv_iload_n hx hb wdX11_toneAt_101 rfl (lv_at hl 4 rfl) ?_
          refine g_iald F w (a := ((44 + 3 * nn) + 1)) (kd_w1 (kd_sg (by omega))) (j := tt) (ix_n (by omega)) (by omega) wdX11_toneAt_102 ?_
          have hK8 := (hKL1 tt (by omega)).1
          refine r_val (v := (zI (((o1.2.1 tt) : Nat) : Int))) (hW1.2.2.2.2.1 tt (by omega)) ?_
          exact e_i F w hr hlocks (congrArg zI ((ofA_y hnn).trans (by rw [← ho1]; exact toneA_0 htt c8)).symm) wdX11_toneAt_103
        · refine r_val (v := zI 1) (congrArg zI c8) ?_
          refine lv_tableIn (tgt := 104) hx hb wdX11_toneAt_62 (by decide) (by decide) (off := 42) rfl (by decide) ?_
          refine lv_iload hx hb wdX11_toneAt_104 (lv_at hl 0 rfl) ?_
          refine z_if_eq (tgt := 114) hx hb (by omega) wdX11_toneAt_106 (by decide) (fun c9 => ?_) (fun c9 => False.elim (by omega))
          refine lv_aload hx hb wdX11_toneAt_114 (lv_at hl 1 rfl) ?_
          refine f_9_5 F w (a := (44 + 3 * nn)) (kd_sg (by omega)) wtb_230 wdX11_toneAt_116 ?_
          refine lv_iload_n hx hb wdX11_toneAt_119 rfl (lv_at hl 4 rfl) ?_
          refine g_iald F w (a := ((44 + 3 * nn) + 2)) (kd_w2 (kd_sg (by omega))) (j := tt) (ix_n (by omega)) (by omega) wdX11_toneAt_120 ?_
          have hL9 := (hKL1 tt (by omega)).2
          refine r_val (v := (zI (((o1.2.2 tt) : Nat) : Int))) (hW1.2.2.2.2.2 tt (by omega)) ?_
          refine x_Si F w (As := [.int (zI (((o1.2.2 tt) : Nat) : Int))]) (rest := []) (s_X11_lowest (m9 := (o1.2.2 tt)) (by omega)) wgs_X11_228 whs_X11_lowest ⟨(Nat.le_of_ble_eq_true rfl), (Nat.le_of_ble_eq_true rfl)⟩ hl.1 rfl (Nat.le_of_ble_eq_true rfl) ⟨Nat.zero_le _, Nat.zero_le _⟩ wdX11_toneAt_121 (fun H locs w => ?_)
          have hw9 := lowI_rg (o1.2.2 tt) (by omega)
          exact e_i F w hr hlocks (congrArg zI ((ofA_y hnn).trans (by rw [← ho1]; exact (toneA_1 htt c8).trans (orN_z (by omega)).1)).symm) wdX11_toneAt_124
        · refine r_val (v := zI 2) (congrArg zI c8) ?_
          refine lv_tableIn (tgt := 125) hx hb wdX11_toneAt_62 (by decide) (by decide) (off := 63) rfl (by decide) ?_
          refine lv_iload hx hb wdX11_toneAt_125 (lv_at hl 0 rfl) ?_
          refine z_if_eq (tgt := 135) hx hb (by omega) wdX11_toneAt_127 (by decide) (fun c11 => ?_) (fun c11 => False.elim (by omega))
          refine lv_aload hx hb wdX11_toneAt_135 (lv_at hl 1 rfl) ?_
          refine f_9_5 F w (a := (44 + 3 * nn)) (kd_sg (by omega)) wtb_230 wdX11_toneAt_137 ?_
          refine lv_iload_n hx hb wdX11_toneAt_140 rfl (lv_at hl 4 rfl) ?_
          refine g_iald F w (a := ((44 + 3 * nn) + 2)) (kd_w2 (kd_sg (by omega))) (j := tt) (ix_n (by omega)) (by omega) wdX11_toneAt_141 ?_
          have hL11 := (hKL1 tt (by omega)).2
          refine r_val (v := (zI (((o1.2.2 tt) : Nat) : Int))) (hW1.2.2.2.2.2 tt (by omega)) ?_
          refine x_Si F w (As := [.int (zI (((o1.2.2 tt) : Nat) : Int))]) (rest := []) (s_X11_highest (m9 := (o1.2.2 tt)) (by omega)) wgs_X11_231 whs_X11_highest ⟨(Nat.le_of_ble_eq_true rfl), (Nat.le_of_ble_eq_true rfl)⟩ hl.1 rfl (Nat.le_of_ble_eq_true rfl) ⟨Nat.zero_le _, Nat.zero_le _⟩ wdX11_toneAt_142 (fun H locs w => ?_)
          have hw11 := higI_rg (o1.2.2 tt) (by omega)
          exact e_i F w hr hlocks (congrArg zI ((ofA_y hnn).trans (by rw [← ho1]; exact (toneA_2 htt c8).trans (orN_z (by omega)).2)).symm) wdX11_toneAt_145
        · refine r_val (v := zI 3) (congrArg zI c8) ?_
          refine lv_tableIn (tgt := 146) hx hb wdX11_toneAt_62 (by decide) (by decide) (off := 84) rfl (by decide) ?_
          refine lv_aload hx hb wdX11_toneAt_146 (lv_at hl 1 rfl) ?_
          refine f_9_5 F w (a := (44 + 3 * nn)) (kd_sg (by omega)) wtb_230 wdX11_toneAt_148 ?_
          refine lv_iload_n hx hb wdX11_toneAt_151 rfl (lv_at hl 4 rfl) ?_
          refine g_iald F w (a := ((44 + 3 * nn) + 2)) (kd_w2 (kd_sg (by omega))) (j := tt) (ix_n (by omega)) (by omega) wdX11_toneAt_152 ?_
          have hL12 := (hKL1 tt (by omega)).2
          refine r_val (v := (zI (((o1.2.2 tt) : Nat) : Int))) (hW1.2.2.2.2.2 tt (by omega)) ?_
          refine x_Si F w (As := [.int (zI (((o1.2.2 tt) : Nat) : Int))]) (rest := []) (s_bitCountN (m := (o1.2.2 tt)) (by omega)) wgs_X11_234 whs_J6_bitCount_0f7a4 ⟨(Nat.le_of_ble_eq_true rfl), (Nat.le_of_ble_eq_true rfl)⟩ hl.1 rfl (Nat.le_of_ble_eq_true rfl) ⟨Nat.zero_le _, Nat.zero_le _⟩ wdX11_toneAt_153 (fun H locs w => ?_)
          have hp12 := (pop_le (o1.2.2 tt) (by omega)).1
          exact e_i F w hr hlocks (congrArg zI ((ofA_y hnn).trans (by rw [← ho1]; exact toneA_3 htt c8)).symm) wdX11_toneAt_156
        · refine r_val (v := zI 4) (congrArg zI c8) ?_
          refine lv_tableIn (tgt := 157) hx hb wdX11_toneAt_62 (by decide) (by decide) (off := 95) rfl (by decide) ?_
          refine lv_iconst (v := zI 3) hx hb wdX11_toneAt_157 rfl ?_
          refine lv_aload hx hb wdX11_toneAt_158 (lv_at hl 1 rfl) ?_
          refine f_9_4 F w (a := (44 + 3 * nn)) (kd_sg (by omega)) wtb_240 wdX11_toneAt_160 ?_
          refine lv_iload_n hx hb wdX11_toneAt_163 rfl (lv_at hl 4 rfl) ?_
          refine g_iald F w (a := ((44 + 3 * nn) + 1)) (kd_w1 (kd_sg (by omega))) (j := tt) (ix_n (by omega)) (by omega) wdX11_toneAt_164 ?_
          have hK13 := (hKL1 tt (by omega)).1
          refine r_val (v := (zI (((o1.2.1 tt) : Nat) : Int))) (hW1.2.2.2.2.1 tt (by omega)) ?_
          refine lv_iconst (v := zI 1) hx hb wdX11_toneAt_165 rfl ?_
          refine z_iadd (z := ((((o1.2.1 tt) + 1) : Nat) : Int)) hx hb wdX11_toneAt_166 (by omega) ?_
          refine z_imul (z := (((3 * ((o1.2.1 tt) + 1)) : Nat) : Int)) hx hb wdX11_toneAt_167 (by omega) ?_
          refine lv_aload hx hb wdX11_toneAt_168 (lv_at hl 1 rfl) ?_
          refine lv_iload_n hx hb wdX11_toneAt_170 rfl (lv_at hl 4 rfl) ?_
          refine r_val (v := zI (((tt + 1 : Nat) : Int) - 1)) (congrArg zI (by omega)) ?_
          refine x_Vi F w (As := [.int (zI (((tt + 1 : Nat) : Int) - 1))]) (rest := [.int (zI (((3 * ((o1.2.1 tt) + 1)) : Nat) : Int))]) (a := (44 + 3 * nn)) (kd_lt (a := (44 + 3 * nn)) (kd_sg (by omega)) (by decide)) (sh_9 (kd_sg (by omega)) _ _) rfl (h_fallsUpTo (a := 44 + 3 * nn) (kd_sg (by omega)) hC1 (m9 := (tt + 1)) (by omega)) wgv_X11_216 whv_X9_fallsUpTo ⟨(Nat.le_of_ble_eq_true rfl), (Nat.le_of_ble_eq_true rfl)⟩ hl.1 rfl (Nat.le_of_ble_eq_true rfl) ⟨Nat.zero_le _, Nat.zero_le _⟩ wdX11_toneAt_171 (fun H locs w => ?_)
          have hfm := fw_b (K := o1.2.1) (tt + 1)
          refine z_isub (z := ((((3 * ((o1.2.1 tt) + 1)) : Nat) : Int) - (((fwS o1.2.1 (tt + 1)).1 : Nat) : Int))) hx hb wdX11_toneAt_174 (by omega) ?_
          exact e_i F w hr hlocks (congrArg zI ((ofA_y hnn).trans (by rw [← ho1]; exact (toneA_4 htt c8).trans (by omega))).symm) wdX11_toneAt_175
        · refine lv_tableOut (tgt := 176) hx hb wdX11_toneAt_62 (by rw [zI_toInt (by omega)]; omega) (by decide) ?_
          refine lv_iconst (v := zI (-1)) hx hb wdX11_toneAt_176 rfl ?_
          exact e_i F w hr hlocks (congrArg zI ((ofA_y hnn).trans (by rw [← ho1]; exact toneA_d htt c8)).symm) wdX11_toneAt_177
      · refine lv_iconst (v := zI 1) hx hb wdX11_toneAt_54 rfl ?_
        refine lv_goto (tgt := 59) hx hb wdX11_toneAt_55 (by decide) ?_
        refine lv_istore (lv' := [(5, .int (zI 1)), (4, .ref (B + (44 + 3 * nn))), (0, .ref (B + 0)), (1, .int (zI (nn : Int))), (2, .int (zI (tt : Int))), (3, .int (zI w9))]) hx hb wdX11_toneAt_59 hl (by decide) rfl (fun ls hl => ?_)
        refine lv_iload_n hx hb wdX11_toneAt_61 rfl (lv_at hl 5 rfl) ?_
        rcases (show (w9 : Int) = 0 ∨ (w9 : Int) = 1 ∨ (w9 : Int) = 2 ∨ (w9 : Int) = 3 ∨ (w9 : Int) = 4 ∨ (w9 ≠ 0 ∧ w9 ≠ 1 ∧ w9 ≠ 2 ∧ w9 ≠ 3 ∧ w9 ≠ 4) by omega) with c15 | c15 | c15 | c15 | c15 | c15
        · refine r_val (v := zI 0) (congrArg zI c15) ?_
          refine lv_tableIn (tgt := 96) hx hb wdX11_toneAt_62 (by decide) (by decide) (off := 34) rfl (by decide) ?_
          refine lv_aload hx hb wdX11_toneAt_96 (lv_at hl 1 rfl) ?_
          refine f_9_4 F w (a := (44 + 3 * nn)) (kd_sg (by omega)) wtb_240 wdX11_toneAt_98 ?_
          refine lv_iload_n hx hb wdX11_toneAt_101 rfl (lv_at hl 4 rfl) ?_
          refine g_iald F w (a := ((44 + 3 * nn) + 1)) (kd_w1 (kd_sg (by omega))) (j := tt) (ix_n (by omega)) (by omega) wdX11_toneAt_102 ?_
          have hK15 := (hKL1 tt (by omega)).1
          refine r_val (v := (zI (((o1.2.1 tt) : Nat) : Int))) (hW1.2.2.2.2.1 tt (by omega)) ?_
          exact e_i F w hr hlocks (congrArg zI ((ofA_y hnn).trans (by rw [← ho1]; exact toneA_0 htt c15)).symm) wdX11_toneAt_103
        · refine r_val (v := zI 1) (congrArg zI c15) ?_
          refine lv_tableIn (tgt := 104) hx hb wdX11_toneAt_62 (by decide) (by decide) (off := 42) rfl (by decide) ?_
          refine lv_iload hx hb wdX11_toneAt_104 (lv_at hl 0 rfl) ?_
          refine z_if_eq (tgt := 114) hx hb (by omega) wdX11_toneAt_106 (by decide) (fun c16 => False.elim (by omega)) (fun c16 => ?_)
          refine lv_bipush (v := zI (-2)) hx hb wdX11_toneAt_109 (by decide) ?_
          refine lv_goto (tgt := 124) hx hb wdX11_toneAt_111 (by decide) ?_
          exact e_i F w hr hlocks (congrArg zI ((ofA_y hnn).trans (by rw [← ho1]; exact (toneA_1 htt c15).trans (orN_0 (by omega)).1)).symm) wdX11_toneAt_124
        · refine r_val (v := zI 2) (congrArg zI c15) ?_
          refine lv_tableIn (tgt := 125) hx hb wdX11_toneAt_62 (by decide) (by decide) (off := 63) rfl (by decide) ?_
          refine lv_iload hx hb wdX11_toneAt_125 (lv_at hl 0 rfl) ?_
          refine z_if_eq (tgt := 135) hx hb (by omega) wdX11_toneAt_127 (by decide) (fun c17 => False.elim (by omega)) (fun c17 => ?_)
          refine lv_bipush (v := zI (-2)) hx hb wdX11_toneAt_130 (by decide) ?_
          refine lv_goto (tgt := 145) hx hb wdX11_toneAt_132 (by decide) ?_
          exact e_i F w hr hlocks (congrArg zI ((ofA_y hnn).trans (by rw [← ho1]; exact (toneA_2 htt c15).trans (orN_0 (by omega)).2)).symm) wdX11_toneAt_145
        · refine r_val (v := zI 3) (congrArg zI c15) ?_
          refine lv_tableIn (tgt := 146) hx hb wdX11_toneAt_62 (by decide) (by decide) (off := 84) rfl (by decide) ?_
          refine lv_aload hx hb wdX11_toneAt_146 (lv_at hl 1 rfl) ?_
          refine f_9_5 F w (a := (44 + 3 * nn)) (kd_sg (by omega)) wtb_230 wdX11_toneAt_148 ?_
          refine lv_iload_n hx hb wdX11_toneAt_151 rfl (lv_at hl 4 rfl) ?_
          refine g_iald F w (a := ((44 + 3 * nn) + 2)) (kd_w2 (kd_sg (by omega))) (j := tt) (ix_n (by omega)) (by omega) wdX11_toneAt_152 ?_
          have hL17 := (hKL1 tt (by omega)).2
          refine r_val (v := (zI (((o1.2.2 tt) : Nat) : Int))) (hW1.2.2.2.2.2 tt (by omega)) ?_
          refine x_Si F w (As := [.int (zI (((o1.2.2 tt) : Nat) : Int))]) (rest := []) (s_bitCountN (m := (o1.2.2 tt)) (by omega)) wgs_X11_234 whs_J6_bitCount_0f7a4 ⟨(Nat.le_of_ble_eq_true rfl), (Nat.le_of_ble_eq_true rfl)⟩ hl.1 rfl (Nat.le_of_ble_eq_true rfl) ⟨Nat.zero_le _, Nat.zero_le _⟩ wdX11_toneAt_153 (fun H locs w => ?_)
          have hp17 := (pop_le (o1.2.2 tt) (by omega)).1
          exact e_i F w hr hlocks (congrArg zI ((ofA_y hnn).trans (by rw [← ho1]; exact toneA_3 htt c15)).symm) wdX11_toneAt_156
        · refine r_val (v := zI 4) (congrArg zI c15) ?_
          refine lv_tableIn (tgt := 157) hx hb wdX11_toneAt_62 (by decide) (by decide) (off := 95) rfl (by decide) ?_
          refine lv_iconst (v := zI 3) hx hb wdX11_toneAt_157 rfl ?_
          refine lv_aload hx hb wdX11_toneAt_158 (lv_at hl 1 rfl) ?_
          refine f_9_4 F w (a := (44 + 3 * nn)) (kd_sg (by omega)) wtb_240 wdX11_toneAt_160 ?_
          refine lv_iload_n hx hb wdX11_toneAt_163 rfl (lv_at hl 4 rfl) ?_
          refine g_iald F w (a := ((44 + 3 * nn) + 1)) (kd_w1 (kd_sg (by omega))) (j := tt) (ix_n (by omega)) (by omega) wdX11_toneAt_164 ?_
          have hK18 := (hKL1 tt (by omega)).1
          refine r_val (v := (zI (((o1.2.1 tt) : Nat) : Int))) (hW1.2.2.2.2.1 tt (by omega)) ?_
          refine lv_iconst (v := zI 1) hx hb wdX11_toneAt_165 rfl ?_
          refine z_iadd (z := ((((o1.2.1 tt) + 1) : Nat) : Int)) hx hb wdX11_toneAt_166 (by omega) ?_
          refine z_imul (z := (((3 * ((o1.2.1 tt) + 1)) : Nat) : Int)) hx hb wdX11_toneAt_167 (by omega) ?_
          refine lv_aload hx hb wdX11_toneAt_168 (lv_at hl 1 rfl) ?_
          refine lv_iload_n hx hb wdX11_toneAt_170 rfl (lv_at hl 4 rfl) ?_
          refine r_val (v := zI (((tt + 1 : Nat) : Int) - 1)) (congrArg zI (by omega)) ?_
          refine x_Vi F w (As := [.int (zI (((tt + 1 : Nat) : Int) - 1))]) (rest := [.int (zI (((3 * ((o1.2.1 tt) + 1)) : Nat) : Int))]) (a := (44 + 3 * nn)) (kd_lt (a := (44 + 3 * nn)) (kd_sg (by omega)) (by decide)) (sh_9 (kd_sg (by omega)) _ _) rfl (h_fallsUpTo (a := 44 + 3 * nn) (kd_sg (by omega)) hC1 (m9 := (tt + 1)) (by omega)) wgv_X11_216 whv_X9_fallsUpTo ⟨(Nat.le_of_ble_eq_true rfl), (Nat.le_of_ble_eq_true rfl)⟩ hl.1 rfl (Nat.le_of_ble_eq_true rfl) ⟨Nat.zero_le _, Nat.zero_le _⟩ wdX11_toneAt_171 (fun H locs w => ?_)
          have hfm := fw_b (K := o1.2.1) (tt + 1)
          refine z_isub (z := ((((3 * ((o1.2.1 tt) + 1)) : Nat) : Int) - (((fwS o1.2.1 (tt + 1)).1 : Nat) : Int))) hx hb wdX11_toneAt_174 (by omega) ?_
          exact e_i F w hr hlocks (congrArg zI ((ofA_y hnn).trans (by rw [← ho1]; exact (toneA_4 htt c15).trans (by omega))).symm) wdX11_toneAt_175
        · refine lv_tableOut (tgt := 176) hx hb wdX11_toneAt_62 (by rw [zI_toInt (by omega)]; omega) (by decide) ?_
          refine lv_iconst (v := zI (-1)) hx hb wdX11_toneAt_176 rfl ?_
          exact e_i F w hr hlocks (congrArg zI ((ofA_y hnn).trans (by rw [← ho1]; exact toneA_d htt c15)).symm) wdX11_toneAt_177
    · rw [hMe] at w
      refine z_if_ne (tgt := 44) hx hb (by omega) wdX11_toneAt_29 (by decide) (fun c20 => False.elim (by omega)) (fun c20 => ?_)
      refine lv_iload_n hx hb wdX11_toneAt_32 rfl (lv_at hl 4 rfl) ?_
      refine lv_iconst (v := zI 4) hx hb wdX11_toneAt_33 rfl ?_
      refine z_icmp_ne (tgt := 42) hx hb (by omega) (by omega) wdX11_toneAt_34 (by decide) (fun c21 => ?_) (fun c21 => ?_)
      · refine lv_iconst (v := zI (-1)) hx hb wdX11_toneAt_42 rfl ?_
        exact e_i F w hr hlocks (congrArg zI ((ofA_y hnn).trans (by rw [← ho1]; exact toneA_nn ntt (by omega))).symm) wdX11_toneAt_43
      · refine lv_bipush (v := zI (-100)) hx hb wdX11_toneAt_37 (by decide) ?_
        refine lv_goto (tgt := 43) hx hb wdX11_toneAt_39 (by decide) ?_
        exact e_i F w hr hlocks (congrArg zI ((ofA_y hnn).trans (by rw [← ho1]; exact toneA_n4 ntt (by omega))).symm) wdX11_toneAt_43
  · rw [hMe] at w
    refine z_if_ne (tgt := 13) hx hb (by omega) wdX11_toneAt_8 (by decide) (fun c22 => False.elim (by omega)) (fun c22 => ?_)
    refine lv_iconst (v := zI (-1)) hx hb wdX11_toneAt_11 rfl ?_
    exact e_i F w hr hlocks (congrArg zI (ofA_n hb1).symm) wdX11_toneAt_12
