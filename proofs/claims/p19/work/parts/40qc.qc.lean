theorem wtb_327 : Cond.methodLink "ToneLines" 228 yX11_lowest ∈ TB := tb_361
theorem wgs_X11_228 : GoodIn TB (va_wsS RX11 228 yX11_lowest (cw yX11_lowest cX11_lowest 1 (some .int))) := goodIn_3 wtb_327 wtb_6 wtb_5 wgc_X11_lowest
theorem wtb_328 : Cond.methodLink "ToneLines" 231 yX11_highest ∈ TB := tb_362
theorem wgs_X11_231 : GoodIn TB (va_wsS RX11 231 yX11_highest (cw yX11_highest cX11_highest 2 (some .int))) := goodIn_3 wtb_328 wtb_7 wtb_5 wgc_X11_highest
theorem wtb_329 : Cond.methodLink "ToneLines" 234 yJ6_bitCount_0f7a4 ∈ TB := tb_22
theorem wgs_X11_234 : GoodIn TB (va_wsS RX11 234 yJ6_bitCount_0f7a4 (cw yJ6_bitCount_0f7a4 cJ6_bitCount_0f7a4 1 (some .int))) := goodIn_3 wtb_329 wtb_13 wtb_14 wgc_J6_bitCount_0f7a4
theorem wdX11_syllableAt_0 : decode cX11_syllableAt 0 = .ok (.aload_n 0, 1) := dX11_syllableAt_0
theorem wdX11_syllableAt_1 : decode cX11_syllableAt 1 = .ok (.getfield 35, 3) := dX11_syllableAt_1
theorem wdX11_syllableAt_4 : decode cX11_syllableAt 4 = .ok (.iload_n 1, 1) := dX11_syllableAt_4
theorem wdX11_syllableAt_5 : decode cX11_syllableAt 5 = .ok (.invokevirtual 193, 3) := dX11_syllableAt_5
theorem wdX11_syllableAt_8 : decode cX11_syllableAt 8 = .ok (.ifCond .ne 5, 3) := dX11_syllableAt_8
theorem wdX11_syllableAt_13 : decode cX11_syllableAt 13 = .ok (.aload_n 0, 1) := dX11_syllableAt_13
theorem wdX11_syllableAt_14 : decode cX11_syllableAt 14 = .ok (.getfield 35, 3) := dX11_syllableAt_14
theorem wdX11_syllableAt_17 : decode cX11_syllableAt 17 = .ok (.iload_n 1, 1) := dX11_syllableAt_17
theorem wdX11_syllableAt_18 : decode cX11_syllableAt 18 = .ok (.invokevirtual 196, 3) := dX11_syllableAt_18
theorem wdX11_syllableAt_21 : decode cX11_syllableAt 21 = .ok (.astore 4, 2) := dX11_syllableAt_21
theorem wdX11_syllableAt_23 : decode cX11_syllableAt 23 = .ok (.aload 4, 2) := dX11_syllableAt_23
theorem wdX11_syllableAt_25 : decode cX11_syllableAt 25 = .ok (.iload_n 2, 1) := dX11_syllableAt_25
theorem wdX11_syllableAt_26 : decode cX11_syllableAt 26 = .ok (.invokevirtual 160, 3) := dX11_syllableAt_26
theorem wdX11_syllableAt_29 : decode cX11_syllableAt 29 = .ok (.ifCond .ne 5, 3) := dX11_syllableAt_29
theorem wdX11_syllableAt_34 : decode cX11_syllableAt 34 = .ok (.aload 4, 2) := dX11_syllableAt_34
theorem wdX11_syllableAt_36 : decode cX11_syllableAt 36 = .ok (.iload_n 2, 1) := dX11_syllableAt_36
theorem wdX11_syllableAt_37 : decode cX11_syllableAt 37 = .ok (.invokevirtual 239, 3) := dX11_syllableAt_37
theorem wtb_330 : Cond.methodLink "ToneLines" 239 yX9_tonesOf ∈ TB := tb_363
theorem wgv_X11_239 : GoodIn TB (wsV RX11 239 RX9 yX9_tonesOf (cw yX9_tonesOf cX9_tonesOf 4 (some .int))) := goodIn_4 wtb_330 wtb_43 wtb_44 wtb_3 wgc_X9_tonesOf
theorem wdX11_syllableAt_40 : decode cX11_syllableAt 40 = .ok (.istore 5, 2) := dX11_syllableAt_40
theorem wdX11_syllableAt_42 : decode cX11_syllableAt 42 = .ok (.iload_n 3, 1) := dX11_syllableAt_42
theorem wdX11_syllableAt_43 : decode cX11_syllableAt 43 = .ok (.tableswitch 112 0 5 #[37, 52, 67, 73, 89, 105], 37) := dX11_syllableAt_43
theorem wdX11_syllableAt_80 : decode cX11_syllableAt 80 = .ok (.aload 4, 2) := dX11_syllableAt_80
theorem wdX11_syllableAt_82 : decode cX11_syllableAt 82 = .ok (.iload_n 2, 1) := dX11_syllableAt_82
theorem wdX11_syllableAt_83 : decode cX11_syllableAt 83 = .ok (.invokevirtual 163, 3) := dX11_syllableAt_83
theorem wdX11_syllableAt_86 : decode cX11_syllableAt 86 = .ok (.ifCond .eq 7, 3) := dX11_syllableAt_86
theorem wdX11_syllableAt_89 : decode cX11_syllableAt 89 = .ok (.iconst 1, 1) := dX11_syllableAt_89
theorem wdX11_syllableAt_90 : decode cX11_syllableAt 90 = .ok (.goto 4, 3) := dX11_syllableAt_90
theorem wdX11_syllableAt_94 : decode cX11_syllableAt 94 = .ok (.ireturn, 1) := dX11_syllableAt_94
theorem wdX11_syllableAt_93 : decode cX11_syllableAt 93 = .ok (.iconst 0, 1) := dX11_syllableAt_93
theorem wdX11_syllableAt_95 : decode cX11_syllableAt 95 = .ok (.aload 4, 2) := dX11_syllableAt_95
theorem wdX11_syllableAt_97 : decode cX11_syllableAt 97 = .ok (.iload_n 2, 1) := dX11_syllableAt_97
theorem wdX11_syllableAt_98 : decode cX11_syllableAt 98 = .ok (.invokevirtual 166, 3) := dX11_syllableAt_98
theorem wdX11_syllableAt_101 : decode cX11_syllableAt 101 = .ok (.ifCond .eq 7, 3) := dX11_syllableAt_101
theorem wdX11_syllableAt_104 : decode cX11_syllableAt 104 = .ok (.iconst 1, 1) := dX11_syllableAt_104
theorem wdX11_syllableAt_105 : decode cX11_syllableAt 105 = .ok (.goto 4, 3) := dX11_syllableAt_105
theorem wdX11_syllableAt_109 : decode cX11_syllableAt 109 = .ok (.ireturn, 1) := dX11_syllableAt_109
theorem wdX11_syllableAt_108 : decode cX11_syllableAt 108 = .ok (.iconst 0, 1) := dX11_syllableAt_108
theorem wdX11_syllableAt_110 : decode cX11_syllableAt 110 = .ok (.iload 5, 2) := dX11_syllableAt_110
theorem wdX11_syllableAt_112 : decode cX11_syllableAt 112 = .ok (.invokestatic 234, 3) := dX11_syllableAt_112
theorem wdX11_syllableAt_115 : decode cX11_syllableAt 115 = .ok (.ireturn, 1) := dX11_syllableAt_115
theorem wdX11_syllableAt_116 : decode cX11_syllableAt 116 = .ok (.iload 5, 2) := dX11_syllableAt_116
theorem wdX11_syllableAt_118 : decode cX11_syllableAt 118 = .ok (.ifCond .ne 8, 3) := dX11_syllableAt_118
theorem wdX11_syllableAt_126 : decode cX11_syllableAt 126 = .ok (.iload 5, 2) := dX11_syllableAt_126
theorem wdX11_syllableAt_128 : decode cX11_syllableAt 128 = .ok (.invokestatic 228, 3) := dX11_syllableAt_128
theorem wdX11_syllableAt_131 : decode cX11_syllableAt 131 = .ok (.ireturn, 1) := dX11_syllableAt_131
theorem wdX11_syllableAt_121 : decode cX11_syllableAt 121 = .ok (.bipush (-2), 2) := dX11_syllableAt_121
theorem wdX11_syllableAt_123 : decode cX11_syllableAt 123 = .ok (.goto 8, 3) := dX11_syllableAt_123
theorem wdX11_syllableAt_132 : decode cX11_syllableAt 132 = .ok (.iload 5, 2) := dX11_syllableAt_132
theorem wdX11_syllableAt_134 : decode cX11_syllableAt 134 = .ok (.ifCond .ne 8, 3) := dX11_syllableAt_134
theorem wdX11_syllableAt_142 : decode cX11_syllableAt 142 = .ok (.iload 5, 2) := dX11_syllableAt_142
theorem wdX11_syllableAt_144 : decode cX11_syllableAt 144 = .ok (.invokestatic 231, 3) := dX11_syllableAt_144
theorem wdX11_syllableAt_147 : decode cX11_syllableAt 147 = .ok (.ireturn, 1) := dX11_syllableAt_147
theorem wdX11_syllableAt_137 : decode cX11_syllableAt 137 = .ok (.bipush (-2), 2) := dX11_syllableAt_137
theorem wdX11_syllableAt_139 : decode cX11_syllableAt 139 = .ok (.goto 8, 3) := dX11_syllableAt_139
theorem wdX11_syllableAt_148 : decode cX11_syllableAt 148 = .ok (.aload 4, 2) := dX11_syllableAt_148
theorem wdX11_syllableAt_150 : decode cX11_syllableAt 150 = .ok (.iload_n 2, 1) := dX11_syllableAt_150
theorem wdX11_syllableAt_151 : decode cX11_syllableAt 151 = .ok (.invokevirtual 242, 3) := dX11_syllableAt_151
theorem wtk_X9_readOf : Cond.code yX9_readOf cX9_readOf 4 (some .int) ∈ TB := tk_X9_readOf
theorem wgc_X9_readOf : GoodIn TB (cw yX9_readOf cX9_readOf 4 (some .int)) := goodIn_c2 wtk_X9_readOf
theorem wtb_331 : Cond.methodLink "ToneLines" 242 yX9_readOf ∈ TB := tb_364
theorem wtb_332 : Cond.instanceMethod yX9_readOf ∈ TB := tb_365
theorem wtb_333 : Cond.selects "ToneLines$Word" yX9_readOf yX9_readOf ∈ TB := tb_366
theorem wgv_X11_242 : GoodIn TB (wsV RX11 242 RX9 yX9_readOf (cw yX9_readOf cX9_readOf 4 (some .int))) := goodIn_4 wtb_331 wtb_332 wtb_333 wtb_3 wgc_X9_readOf
theorem whv_X9_readOf : yX9_readOf.cls = RX9 ∧ yX9_readOf.cls ≠ "java/lang/invoke/MethodHandle" ∧ yX9_readOf.cls ≠ "java/lang/invoke/VarHandle" ∧ (parseMethodDescriptor yX9_readOf.desc).map (fun d => d.parameters.length) = some 1 := hv_X9_readOf
theorem wdX11_syllableAt_154 : decode cX11_syllableAt 154 = .ok (.ireturn, 1) := dX11_syllableAt_154
theorem wdX11_syllableAt_155 : decode cX11_syllableAt 155 = .ok (.iconst (-1), 1) := dX11_syllableAt_155
theorem wdX11_syllableAt_156 : decode cX11_syllableAt 156 = .ok (.ireturn, 1) := dX11_syllableAt_156
theorem wdX11_syllableAt_32 : decode cX11_syllableAt 32 = .ok (.iconst (-1), 1) := dX11_syllableAt_32
theorem wdX11_syllableAt_33 : decode cX11_syllableAt 33 = .ok (.ireturn, 1) := dX11_syllableAt_33
theorem wdX11_syllableAt_11 : decode cX11_syllableAt 11 = .ok (.iconst (-1), 1) := dX11_syllableAt_11
theorem wdX11_syllableAt_12 : decode cX11_syllableAt 12 = .ok (.ireturn, 1) := dX11_syllableAt_12
set_option maxRecDepth 4000 in
theorem h_syllableAt {l : Launch} {D : va_G} {B : Nat} {cy : Nat → ClassId} {M : Mem} {Ps : Nat → Nat → Int} {mr rd k q hv ed : Nat} {o : Wo} {Hs : Nat → Fw} (hS : CS M Ps mr (q, hv, ed, o) rd Hs k) {n9 u9 w9 : Int} (hn9 : rg n9) (hu9 : rg u9) (hw9 : rg w9) : Ci l D B cy yX11_syllableAt cX11_syllableAt 6 (some .int) 6 155 [.ref (B + 0), .int (zI n9), .int (zI u9), .int (zI w9)] M (fun r M1 => r = zI (ofA Ps mr (q, hv, ed, o) n9 (sylA u9 w9))) := by
  refine s_any (by decide) (Nat.le_of_ble_eq_true rfl) ?_
  intro p e s m below meth c ls F hr hlocks w hl
  have F : CallFix p m c cX11_syllableAt 6 s _ TB RX11 := F
  have hx := F.1
  have hb := F.2.1
  have hl : lv_has ls 6 [(0, .ref (B + 0)), (1, .int (zI n9)), (2, .int (zI u9)), (3, .int (zI w9))] := hl
  have hm8 := hS.1.2.1
  have hC : CW M 44 q hv ed o := hS.t
  have hW : isW M 44 o.1 q hv ed o.2.1 o.2.2 := hC.1
  have hwf := hC.wf
  have hKL := hwf.2.2.2.2
  have hn12 := hwf.1
  have hq12 := hwf.2.1
  have hhv := hwf.2.2.1
  have hed := hwf.2.2.2.1
  refine lv_aload_n hx hb wdX11_syllableAt_0 rfl (lv_at hl 0 rfl) ?_
  refine f_11_3 F w (a := 0) rfl wtb_207 wdX11_syllableAt_1 ?_
  refine lv_iload_n hx hb wdX11_syllableAt_4 rfl (lv_at hl 1 rfl) ?_
  refine k_Vi F w (As := [.int (zI n9)]) (rest := []) (a := 22) (kd_lt (a := 22) (show kd 22 = (0, 0, 0) from rfl) (by decide)) (sh_0 rfl _ _) rfl (g_covers hS (n9 := n9) (by omega)) wgv_X11_193 whv_X0_covers ⟨(Nat.le_of_ble_eq_true rfl), (Nat.le_of_ble_eq_true rfl)⟩ hl.1 rfl (Nat.le_of_ble_eq_true rfl) ⟨Nat.zero_le _, Nat.zero_le _⟩ wdX11_syllableAt_5 (fun r Ma2 H locs hp w => ?_)
  rcases hp with ⟨⟨hb1, rfl⟩ | ⟨hb1, rfl⟩, hMe⟩
  · rw [hMe] at w
    obtain ⟨nn, rfl⟩ : ∃ n8 : Nat, n9 = (n8 : Int) := ⟨Int.toNat n9, by omega⟩
    have hnn : nn ≤ mr := by omega
    refine z_if_ne (tgt := 13) hx hb (by omega) wdX11_syllableAt_8 (by decide) (fun c3 => ?_) (fun c3 => False.elim (by omega))
    refine lv_aload_n hx hb wdX11_syllableAt_13 rfl (lv_at hl 0 rfl) ?_
    refine f_11_3 F w (a := 0) rfl wtb_207 wdX11_syllableAt_14 ?_
    refine lv_iload_n hx hb wdX11_syllableAt_17 rfl (lv_at hl 1 rfl) ?_
    refine k_Vr F w (As := [.int (zI (nn : Int))]) (rest := []) (a := 22) (kd_lt (a := 22) (show kd 22 = (0, 0, 0) from rfl) (by decide)) (sh_0 rfl _ _) rfl (g_stageOf hS (n9 := nn) (by omega)) wgv_X11_196 whv_X0_stageOf ⟨(Nat.le_of_ble_eq_true rfl), (Nat.le_of_ble_eq_true rfl)⟩ hl.1 rfl (Nat.le_of_ble_eq_true rfl) ⟨Nat.zero_le _, Nat.zero_le _⟩ wdX11_syllableAt_18 (fun r Ma4 H locs hp w => ?_)
    rcases hp with ⟨rfl, rd1, hnr, _, hS1, _⟩
    have hC9 := hS1.2.1.2.2.1 nn (by omega)
    obtain ⟨o1, ho1⟩ : ∃ o1, o1 = sg9 Ps (q, hv, ed, o) nn := ⟨_, rfl⟩
    have hC1 : CW Ma4 (44 + 3 * nn) q hv ed o1 := by rw [ho1]; exact hC9
    have hW1 := hC1.1
    have hwf1 := hC1.wf
    have hKL1 := hwf1.2.2.2.2
    have hn1 := hwf1.1
    refine lv_astore (lv' := [(4, .ref (B + (44 + 3 * nn))), (0, .ref (B + 0)), (1, .int (zI (nn : Int))), (2, .int (zI u9)), (3, .int (zI w9))]) hx hb wdX11_syllableAt_21 hl (by decide) rfl (fun ls hl => ?_)
    refine lv_aload hx hb wdX11_syllableAt_23 (lv_at hl 0 rfl) ?_
    refine lv_iload_n hx hb wdX11_syllableAt_25 rfl (lv_at hl 3 rfl) ?_
    refine k_Vi F w (As := [.int (zI u9)]) (rest := []) (a := (44 + 3 * nn)) (kd_lt (a := (44 + 3 * nn)) (kd_sg (by omega)) (by decide)) (sh_9 (kd_sg (by omega)) _ _) rfl (s_X9_hasSyllable (a := 44 + 3 * nn) (kd_sg (by omega)) hW1 hwf1 (by omega)) wgv_X11_160 whv_X9_hasSyllable ⟨(Nat.le_of_ble_eq_true rfl), (Nat.le_of_ble_eq_true rfl)⟩ hl.1 rfl (Nat.le_of_ble_eq_true rfl) ⟨Nat.zero_le _, Nat.zero_le _⟩ wdX11_syllableAt_26 (fun r Ma5 H locs hp w => ?_)
    rcases hp with ⟨⟨uu, rfl, huu, rfl⟩ | ⟨nuu, rfl⟩, hMe⟩
    · rw [hMe] at w
      refine z_if_ne (tgt := 34) hx hb (by omega) wdX11_syllableAt_29 (by decide) (fun c6 => ?_) (fun c6 => False.elim (by omega))
      refine lv_aload hx hb wdX11_syllableAt_34 (lv_at hl 0 rfl) ?_
      refine lv_iload_n hx hb wdX11_syllableAt_36 rfl (lv_at hl 3 rfl) ?_
      refine x_Vi F w (As := [.int (zI (uu : Int))]) (rest := []) (a := (44 + 3 * nn)) (kd_lt (a := (44 + 3 * nn)) (kd_sg (by omega)) (by decide)) (sh_9 (kd_sg (by omega)) _ _) rfl (s_X9_tonesOf (a := 44 + 3 * nn) (kd_sg (by omega)) hW1 hwf1 (j := uu) (by omega)) wgv_X11_239 whv_X9_tonesOf ⟨(Nat.le_of_ble_eq_true rfl), (Nat.le_of_ble_eq_true rfl)⟩ hl.1 rfl (Nat.le_of_ble_eq_true rfl) ⟨Nat.zero_le _, Nat.zero_le _⟩ wdX11_syllableAt_37 (fun H locs w => ?_)
      have hm6 := tmk_lt (L := o1.2.2) (j := uu) (n := o1.1) (by omega)
      refine lv_istore (lv' := [(5, .int (zI (((tmk o1.2.2 uu o1.1) : Nat) : Int))), (4, .ref (B + (44 + 3 * nn))), (0, .ref (B + 0)), (1, .int (zI (nn : Int))), (2, .int (zI (uu : Int))), (3, .int (zI w9))]) hx hb wdX11_syllableAt_40 hl (by decide) rfl (fun ls hl => ?_)
      refine lv_iload_n hx hb wdX11_syllableAt_42 rfl (lv_at hl 5 rfl) ?_
      rcases (show (w9 : Int) = 0 ∨ (w9 : Int) = 1 ∨ (w9 : Int) = 2 ∨ (w9 : Int) = 3 ∨ (w9 : Int) = 4 ∨ (w9 : Int) = 5 ∨ (w9 ≠ 0 ∧ w9 ≠ 1 ∧ w9 ≠ 2 ∧ w9 ≠ 3 ∧ w9 ≠ 4 ∧ w9 ≠ 5) by omega) with c8 | c8 | c8 | c8 | c8 | c8 | c8
      · refine r_val (v := zI 0) (congrArg zI c8) ?_
        refine lv_tableIn (tgt := 80) hx hb wdX11_syllableAt_43 (by decide) (by decide) (off := 37) rfl (by decide) ?_
        refine lv_aload hx hb wdX11_syllableAt_80 (lv_at hl 1 rfl) ?_
        refine lv_iload_n hx hb wdX11_syllableAt_82 rfl (lv_at hl 4 rfl) ?_
        refine k_Vi F w (As := [.int (zI (uu : Int))]) (rest := []) (a := (44 + 3 * nn)) (kd_lt (a := (44 + 3 * nn)) (kd_sg (by omega)) (by decide)) (sh_9 (kd_sg (by omega)) _ _) rfl (s_X9_isHeavy (a := 44 + 3 * nn) (kd_sg (by omega)) hW1 hwf1 (by omega)) wgv_X11_163 whv_X9_isHeavy ⟨(Nat.le_of_ble_eq_true rfl), (Nat.le_of_ble_eq_true rfl)⟩ hl.1 rfl (Nat.le_of_ble_eq_true rfl) ⟨Nat.zero_le _, Nat.zero_le _⟩ wdX11_syllableAt_83 (fun r Ma9 H locs hp w => ?_)
        rcases hp with ⟨⟨k7, e7, h7, b7, rfl⟩ | ⟨b7, rfl⟩, hMe⟩
        · obtain rfl : uu = k7 := by omega
          rw [hMe] at w
          refine z_if_eq (tgt := 93) hx hb (by omega) wdX11_syllableAt_86 (by decide) (fun c10 => False.elim (by omega)) (fun c10 => ?_)
          refine lv_iconst (v := zI 1) hx hb wdX11_syllableAt_89 rfl ?_
          refine lv_goto (tgt := 94) hx hb wdX11_syllableAt_90 (by decide) ?_
          exact e_i F w hr hlocks (congrArg zI ((ofA_y hnn).trans (by rw [← ho1]; exact (sylA_0 huu c8).trans (congrArg _ (tb_h b7 rfl)))).symm) wdX11_syllableAt_94
        · replace b7 : ¬ hv.testBit uu = true := fun h8 => b7 ⟨uu, rfl, huu, h8⟩
          rw [hMe] at w
          refine z_if_eq (tgt := 93) hx hb (by omega) wdX11_syllableAt_86 (by decide) (fun c11 => ?_) (fun c11 => False.elim (by omega))
          refine lv_iconst (v := zI 0) hx hb wdX11_syllableAt_93 rfl ?_
          exact e_i F w hr hlocks (congrArg zI ((ofA_y hnn).trans (by rw [← ho1]; exact (sylA_0 huu c8).trans (congrArg _ (tb_n b7 rfl)))).symm) wdX11_syllableAt_94
      · refine r_val (v := zI 1) (congrArg zI c8) ?_
        refine lv_tableIn (tgt := 95) hx hb wdX11_syllableAt_43 (by decide) (by decide) (off := 52) rfl (by decide) ?_
        refine lv_aload hx hb wdX11_syllableAt_95 (lv_at hl 1 rfl) ?_
        refine lv_iload_n hx hb wdX11_syllableAt_97 rfl (lv_at hl 4 rfl) ?_
        refine k_Vi F w (As := [.int (zI (uu : Int))]) (rest := []) (a := (44 + 3 * nn)) (kd_lt (a := (44 + 3 * nn)) (kd_sg (by omega)) (by decide)) (sh_9 (kd_sg (by omega)) _ _) rfl (s_X9_hasEdge (a := 44 + 3 * nn) (kd_sg (by omega)) hW1 hwf1 (by omega)) wgv_X11_166 whv_X9_hasEdge ⟨(Nat.le_of_ble_eq_true rfl), (Nat.le_of_ble_eq_true rfl)⟩ hl.1 rfl (Nat.le_of_ble_eq_true rfl) ⟨Nat.zero_le _, Nat.zero_le _⟩ wdX11_syllableAt_98 (fun r Ma12 H locs hp w => ?_)
        rcases hp with ⟨⟨k8, e8, h8, b8, rfl⟩ | ⟨b8, rfl⟩, hMe⟩
        · obtain rfl : uu = k8 := by omega
          rw [hMe] at w
          refine z_if_eq (tgt := 108) hx hb (by omega) wdX11_syllableAt_101 (by decide) (fun c13 => False.elim (by omega)) (fun c13 => ?_)
          refine lv_iconst (v := zI 1) hx hb wdX11_syllableAt_104 rfl ?_
          refine lv_goto (tgt := 109) hx hb wdX11_syllableAt_105 (by decide) ?_
          exact e_i F w hr hlocks (congrArg zI ((ofA_y hnn).trans (by rw [← ho1]; exact (sylA_1 huu c8).trans (congrArg _ (tb_h b8 rfl)))).symm) wdX11_syllableAt_109
        · replace b8 : ¬ ed.testBit uu = true := fun h8 => b8 ⟨uu, rfl, huu, h8⟩
          rw [hMe] at w
          refine z_if_eq (tgt := 108) hx hb (by omega) wdX11_syllableAt_101 (by decide) (fun c14 => ?_) (fun c14 => False.elim (by omega))
          refine lv_iconst (v := zI 0) hx hb wdX11_syllableAt_108 rfl ?_
          exact e_i F w hr hlocks (congrArg zI ((ofA_y hnn).trans (by rw [← ho1]; exact (sylA_1 huu c8).trans (congrArg _ (tb_n b8 rfl)))).symm) wdX11_syllableAt_109
      · refine r_val (v := zI 2) (congrArg zI c8) ?_
        refine lv_tableIn (tgt := 110) hx hb wdX11_syllableAt_43 (by decide) (by decide) (off := 67) rfl (by decide) ?_
        refine lv_iload hx hb wdX11_syllableAt_110 (lv_at hl 0 rfl) ?_
        refine x_Si F w (As := [.int (zI (((tmk o1.2.2 uu o1.1) : Nat) : Int))]) (rest := []) (s_bitCountN (m := (tmk o1.2.2 uu o1.1)) (by omega)) wgs_X11_234 whs_J6_bitCount_0f7a4 ⟨(Nat.le_of_ble_eq_true rfl), (Nat.le_of_ble_eq_true rfl)⟩ hl.1 rfl (Nat.le_of_ble_eq_true rfl) ⟨Nat.zero_le _, Nat.zero_le _⟩ wdX11_syllableAt_112 (fun H locs w => ?_)
        have hp14 := (pop_le (tmk o1.2.2 uu o1.1) (by omega)).1
        exact e_i F w hr hlocks (congrArg zI ((ofA_y hnn).trans (by rw [← ho1]; exact sylA_2 huu c8)).symm) wdX11_syllableAt_115
      · refine r_val (v := zI 3) (congrArg zI c8) ?_
        refine lv_tableIn (tgt := 116) hx hb wdX11_syllableAt_43 (by decide) (by decide) (off := 73) rfl (by decide) ?_
        refine lv_iload hx hb wdX11_syllableAt_116 (lv_at hl 0 rfl) ?_
        refine z_if_ne (tgt := 126) hx hb (by omega) wdX11_syllableAt_118 (by decide) (fun c16 => ?_) (fun c16 => ?_)
        · refine lv_iload hx hb wdX11_syllableAt_126 (lv_at hl 0 rfl) ?_
          refine x_Si F w (As := [.int (zI (((tmk o1.2.2 uu o1.1) : Nat) : Int))]) (rest := []) (s_X11_lowest (m9 := (tmk o1.2.2 uu o1.1)) (by omega)) wgs_X11_228 whs_X11_lowest ⟨(Nat.le_of_ble_eq_true rfl), (Nat.le_of_ble_eq_true rfl)⟩ hl.1 rfl (Nat.le_of_ble_eq_true rfl) ⟨Nat.zero_le _, Nat.zero_le _⟩ wdX11_syllableAt_128 (fun H locs w => ?_)
          have hw16 := lowI_rg (tmk o1.2.2 uu o1.1) (by omega)
          exact e_i F w hr hlocks (congrArg zI ((ofA_y hnn).trans (by rw [← ho1]; exact (sylA_3 huu c8).trans (orN_z (by omega)).1)).symm) wdX11_syllableAt_131
        · refine lv_bipush (v := zI (-2)) hx hb wdX11_syllableAt_121 (by decide) ?_
          refine lv_goto (tgt := 131) hx hb wdX11_syllableAt_123 (by decide) ?_
          exact e_i F w hr hlocks (congrArg zI ((ofA_y hnn).trans (by rw [← ho1]; exact (sylA_3 huu c8).trans (orN_0 (by omega)).1)).symm) wdX11_syllableAt_131
      · refine r_val (v := zI 4) (congrArg zI c8) ?_
        refine lv_tableIn (tgt := 132) hx hb wdX11_syllableAt_43 (by decide) (by decide) (off := 89) rfl (by decide) ?_
        refine lv_iload hx hb wdX11_syllableAt_132 (lv_at hl 0 rfl) ?_
        refine z_if_ne (tgt := 142) hx hb (by omega) wdX11_syllableAt_134 (by decide) (fun c18 => ?_) (fun c18 => ?_)
        · refine lv_iload hx hb wdX11_syllableAt_142 (lv_at hl 0 rfl) ?_
          refine x_Si F w (As := [.int (zI (((tmk o1.2.2 uu o1.1) : Nat) : Int))]) (rest := []) (s_X11_highest (m9 := (tmk o1.2.2 uu o1.1)) (by omega)) wgs_X11_231 whs_X11_highest ⟨(Nat.le_of_ble_eq_true rfl), (Nat.le_of_ble_eq_true rfl)⟩ hl.1 rfl (Nat.le_of_ble_eq_true rfl) ⟨Nat.zero_le _, Nat.zero_le _⟩ wdX11_syllableAt_144 (fun H locs w => ?_)
          have hw18 := higI_rg (tmk o1.2.2 uu o1.1) (by omega)
          exact e_i F w hr hlocks (congrArg zI ((ofA_y hnn).trans (by rw [← ho1]; exact (sylA_4 huu c8).trans (orN_z (by omega)).2)).symm) wdX11_syllableAt_147
        · refine lv_bipush (v := zI (-2)) hx hb wdX11_syllableAt_137 (by decide) ?_
          refine lv_goto (tgt := 147) hx hb wdX11_syllableAt_139 (by decide) ?_
          exact e_i F w hr hlocks (congrArg zI ((ofA_y hnn).trans (by rw [← ho1]; exact (sylA_4 huu c8).trans (orN_0 (by omega)).2)).symm) wdX11_syllableAt_147
      · refine r_val (v := zI 5) (congrArg zI c8) ?_
        refine lv_tableIn (tgt := 148) hx hb wdX11_syllableAt_43 (by decide) (by decide) (off := 105) rfl (by decide) ?_
        refine lv_aload hx hb wdX11_syllableAt_148 (lv_at hl 1 rfl) ?_
        refine lv_iload_n hx hb wdX11_syllableAt_150 rfl (lv_at hl 4 rfl) ?_
        refine x_Vi F w (As := [.int (zI (uu : Int))]) (rest := []) (a := (44 + 3 * nn)) (kd_lt (a := (44 + 3 * nn)) (kd_sg (by omega)) (by decide)) (sh_9 (kd_sg (by omega)) _ _) rfl (h_readOf (a := 44 + 3 * nn) (kd_sg (by omega)) hC1 (j9 := uu) (by omega)) wgv_X11_242 whv_X9_readOf ⟨(Nat.le_of_ble_eq_true rfl), (Nat.le_of_ble_eq_true rfl)⟩ hl.1 rfl (Nat.le_of_ble_eq_true rfl) ⟨Nat.zero_le _, Nat.zero_le _⟩ wdX11_syllableAt_151 (fun H locs w => ?_)
        have hrw := rdW_b (s := uu) hC1.2.1
        exact e_i F w hr hlocks (congrArg zI ((ofA_y hnn).trans (by rw [← ho1]; exact sylA_5 huu c8)).symm) wdX11_syllableAt_154
      · refine lv_tableOut (tgt := 155) hx hb wdX11_syllableAt_43 (by rw [zI_toInt (by omega)]; omega) (by decide) ?_
        refine lv_iconst (v := zI (-1)) hx hb wdX11_syllableAt_155 rfl ?_
        exact e_i F w hr hlocks (congrArg zI ((ofA_y hnn).trans (by rw [← ho1]; exact sylA_d huu c8)).symm) wdX11_syllableAt_156
    · rw [hMe] at w
      refine z_if_ne (tgt := 34) hx hb (by omega) wdX11_syllableAt_29 (by decide) (fun c21 => False.elim (by omega)) (fun c21 => ?_)
      refine lv_iconst (v := zI (-1)) hx hb wdX11_syllableAt_32 rfl ?_
      exact e_i F w hr hlocks (congrArg zI ((ofA_y hnn).trans (by rw [← ho1]; exact sylA_n nuu)).symm) wdX11_syllableAt_33
  · rw [hMe] at w
    refine z_if_ne (tgt := 13) hx hb (by omega) wdX11_syllableAt_8 (by decide) (fun c22 => False.elim (by omega)) (fun c22 => ?_)
    refine lv_iconst (v := zI (-1)) hx hb wdX11_syllableAt_11 rfl ?_
    exact e_i F w hr hlocks (congrArg zI (ofA_n hb1).symm) wdX11_syllableAt_12
