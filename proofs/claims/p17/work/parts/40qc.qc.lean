theorem wdX11_has_0 : decode cX11_has 0 = .ok (.aload_n 0, 1) := by decide +kernel
theorem wdX11_has_1 : decode cX11_has 1 = .ok (.getfield 35, 3) := by decide +kernel
theorem wdX11_has_4 : decode cX11_has 4 = .ok (.iload_n 1, 1) := by decide +kernel
theorem wdX11_has_5 : decode cX11_has 5 = .ok (.invokevirtual 193, 3) := by decide +kernel
theorem wdX11_has_8 : decode cX11_has 8 = .ok (.ifCond .ne 5, 3) := by decide +kernel
theorem wdX11_has_13 : decode cX11_has 13 = .ok (.aload_n 0, 1) := by decide +kernel
theorem wdX11_has_14 : decode cX11_has 14 = .ok (.getfield 35, 3) := by decide +kernel
theorem wdX11_has_17 : decode cX11_has 17 = .ok (.iload_n 1, 1) := by decide +kernel
theorem wdX11_has_18 : decode cX11_has 18 = .ok (.invokevirtual 196, 3) := by decide +kernel
theorem wdX11_has_21 : decode cX11_has 21 = .ok (.astore_n 3, 1) := by decide +kernel
theorem wdX11_has_22 : decode cX11_has 22 = .ok (.iload_n 2, 1) := by decide +kernel
theorem wdX11_has_23 : decode cX11_has 23 = .ok (.tableswitch 100 0 8 #[49, 54, 59, 64, 69, 74, 85, 90, 95], 49) := by decide +kernel
theorem wdX11_has_72 : decode cX11_has 72 = .ok (.aload_n 3, 1) := by decide +kernel
theorem wdX11_has_73 : decode cX11_has 73 = .ok (.getfield 100, 3) := by decide +kernel
theorem wdX11_has_76 : decode cX11_has 76 = .ok (.ireturn, 1) := by decide +kernel
theorem wdX11_has_77 : decode cX11_has 77 = .ok (.aload_n 3, 1) := by decide +kernel
theorem wdX11_has_78 : decode cX11_has 78 = .ok (.getfield 150, 3) := by decide +kernel
theorem wdX11_has_81 : decode cX11_has 81 = .ok (.ireturn, 1) := by decide +kernel
theorem wdX11_has_82 : decode cX11_has 82 = .ok (.aload_n 3, 1) := by decide +kernel
theorem wdX11_has_83 : decode cX11_has 83 = .ok (.invokevirtual 207, 3) := by decide +kernel
theorem wtk_X9_lineCount : Cond.code yX9_lineCount cX9_lineCount 3 (some .int) ∈ TB := tbm (tc4 (List.mem_of_getElem? (i := 128) rfl)) rfl
theorem wgc_X9_lineCount : GoodIn TB (cw yX9_lineCount cX9_lineCount 3 (some .int)) := goodIn_c2 wtk_X9_lineCount
theorem wtb_308 : Cond.methodLink "ToneLines" 207 yX9_lineCount ∈ TB := tbm (tc4 (List.mem_of_getElem? (i := 125) rfl)) rfl
theorem wtb_309 : Cond.instanceMethod yX9_lineCount ∈ TB := tbm (tc4 (List.mem_of_getElem? (i := 126) rfl)) rfl
theorem wtb_310 : Cond.selects "ToneLines$Word" yX9_lineCount yX9_lineCount ∈ TB := tbm (tc4 (List.mem_of_getElem? (i := 127) rfl)) rfl
theorem wgv_X11_207 : GoodIn TB (wsV RX11 207 RX9 yX9_lineCount (cw yX9_lineCount cX9_lineCount 3 (some .int))) := goodIn_4 wtb_308 wtb_309 wtb_310 wtb_3 wgc_X9_lineCount
theorem whv_X9_lineCount : yX9_lineCount.cls = RX9 ∧ yX9_lineCount.cls ≠ "java/lang/invoke/MethodHandle" ∧ yX9_lineCount.cls ≠ "java/lang/invoke/VarHandle" ∧ (parseMethodDescriptor yX9_lineCount.desc).map (fun d => d.parameters.length) = some 0 := by decide +kernel
theorem wdX11_has_86 : decode cX11_has 86 = .ok (.ireturn, 1) := by decide +kernel
theorem wdX11_has_87 : decode cX11_has 87 = .ok (.aload_n 3, 1) := by decide +kernel
theorem wdX11_has_88 : decode cX11_has 88 = .ok (.invokevirtual 210, 3) := by decide +kernel
theorem wtk_X9_floating : Cond.code yX9_floating cX9_floating 3 (some .int) ∈ TB := tbm (tc4 (List.mem_of_getElem? (i := 133) rfl)) rfl
theorem wgc_X9_floating : GoodIn TB (cw yX9_floating cX9_floating 3 (some .int)) := goodIn_c2 wtk_X9_floating
theorem wtb_311 : Cond.methodLink "ToneLines" 210 yX9_floating ∈ TB := tbm (tc4 (List.mem_of_getElem? (i := 130) rfl)) rfl
theorem wtb_312 : Cond.instanceMethod yX9_floating ∈ TB := tbm (tc4 (List.mem_of_getElem? (i := 131) rfl)) rfl
theorem wtb_313 : Cond.selects "ToneLines$Word" yX9_floating yX9_floating ∈ TB := tbm (tc4 (List.mem_of_getElem? (i := 132) rfl)) rfl
theorem wgv_X11_210 : GoodIn TB (wsV RX11 210 RX9 yX9_floating (cw yX9_floating cX9_floating 3 (some .int))) := goodIn_4 wtb_311 wtb_312 wtb_313 wtb_3 wgc_X9_floating
theorem whv_X9_floating : yX9_floating.cls = RX9 ∧ yX9_floating.cls ≠ "java/lang/invoke/MethodHandle" ∧ yX9_floating.cls ≠ "java/lang/invoke/VarHandle" ∧ (parseMethodDescriptor yX9_floating.desc).map (fun d => d.parameters.length) = some 0 := by decide +kernel
theorem wdX11_has_91 : decode cX11_has 91 = .ok (.ireturn, 1) := by decide +kernel
theorem wdX11_has_92 : decode cX11_has 92 = .ok (.aload_n 3, 1) := by decide +kernel
theorem wdX11_has_93 : decode cX11_has 93 = .ok (.invokevirtual 213, 3) := by decide +kernel
theorem wtb_314 : Cond.methodLink "ToneLines" 213 yX9_bare ∈ TB := tbm (tc4 (List.mem_of_getElem? (i := 134) rfl)) rfl
theorem wgv_X11_213 : GoodIn TB (wsV RX11 213 RX9 yX9_bare (cw yX9_bare cX9_bare 3 (some .int))) := goodIn_4 wtb_314 wtb_306 wtb_307 wtb_3 wgc_X9_bare
theorem wdX11_has_96 : decode cX11_has 96 = .ok (.ireturn, 1) := by decide +kernel
theorem wdX11_has_97 : decode cX11_has 97 = .ok (.aload_n 3, 1) := by decide +kernel
theorem wdX11_has_98 : decode cX11_has 98 = .ok (.aload_n 3, 1) := by decide +kernel
theorem wdX11_has_99 : decode cX11_has 99 = .ok (.getfield 100, 3) := by decide +kernel
theorem wdX11_has_102 : decode cX11_has 102 = .ok (.iconst 1, 1) := by decide +kernel
theorem wdX11_has_103 : decode cX11_has 103 = .ok (.isub, 1) := by decide +kernel
theorem wdX11_has_104 : decode cX11_has 104 = .ok (.invokevirtual 216, 3) := by decide +kernel
theorem wtk_X9_fallsUpTo : Cond.code yX9_fallsUpTo cX9_fallsUpTo 6 (some .int) ∈ TB := tbm (tc4 (List.mem_of_getElem? (i := 138) rfl)) rfl
theorem wgc_X9_fallsUpTo : GoodIn TB (cw yX9_fallsUpTo cX9_fallsUpTo 6 (some .int)) := goodIn_c2 wtk_X9_fallsUpTo
theorem wtb_315 : Cond.methodLink "ToneLines" 216 yX9_fallsUpTo ∈ TB := tbm (tc4 (List.mem_of_getElem? (i := 135) rfl)) rfl
theorem wtb_316 : Cond.instanceMethod yX9_fallsUpTo ∈ TB := tbm (tc4 (List.mem_of_getElem? (i := 136) rfl)) rfl
theorem wtb_317 : Cond.selects "ToneLines$Word" yX9_fallsUpTo yX9_fallsUpTo ∈ TB := tbm (tc4 (List.mem_of_getElem? (i := 137) rfl)) rfl
theorem wgv_X11_216 : GoodIn TB (wsV RX11 216 RX9 yX9_fallsUpTo (cw yX9_fallsUpTo cX9_fallsUpTo 6 (some .int))) := goodIn_4 wtb_315 wtb_316 wtb_317 wtb_3 wgc_X9_fallsUpTo
theorem whv_X9_fallsUpTo : yX9_fallsUpTo.cls = RX9 ∧ yX9_fallsUpTo.cls ≠ "java/lang/invoke/MethodHandle" ∧ yX9_fallsUpTo.cls ≠ "java/lang/invoke/VarHandle" ∧ (parseMethodDescriptor yX9_fallsUpTo.desc).map (fun d => d.parameters.length) = some 1 := by decide +kernel
theorem wdX11_has_107 : decode cX11_has 107 = .ok (.ireturn, 1) := by decide +kernel
theorem wdX11_has_108 : decode cX11_has 108 = .ok (.aload_n 3, 1) := by decide +kernel
theorem wdX11_has_109 : decode cX11_has 109 = .ok (.invokevirtual 219, 3) := by decide +kernel
theorem wtk_X9_mostTones : Cond.code yX9_mostTones cX9_mostTones 3 (some .int) ∈ TB := tbm (tc4 (List.mem_of_getElem? (i := 142) rfl)) rfl
theorem wgc_X9_mostTones : GoodIn TB (cw yX9_mostTones cX9_mostTones 3 (some .int)) := goodIn_c2 wtk_X9_mostTones
theorem wtb_318 : Cond.methodLink "ToneLines" 219 yX9_mostTones ∈ TB := tbm (tc4 (List.mem_of_getElem? (i := 139) rfl)) rfl
theorem wtb_319 : Cond.instanceMethod yX9_mostTones ∈ TB := tbm (tc4 (List.mem_of_getElem? (i := 140) rfl)) rfl
theorem wtb_320 : Cond.selects "ToneLines$Word" yX9_mostTones yX9_mostTones ∈ TB := tbm (tc4 (List.mem_of_getElem? (i := 141) rfl)) rfl
theorem wgv_X11_219 : GoodIn TB (wsV RX11 219 RX9 yX9_mostTones (cw yX9_mostTones cX9_mostTones 3 (some .int))) := goodIn_4 wtb_318 wtb_319 wtb_320 wtb_3 wgc_X9_mostTones
theorem whv_X9_mostTones : yX9_mostTones.cls = RX9 ∧ yX9_mostTones.cls ≠ "java/lang/invoke/MethodHandle" ∧ yX9_mostTones.cls ≠ "java/lang/invoke/VarHandle" ∧ (parseMethodDescriptor yX9_mostTones.desc).map (fun d => d.parameters.length) = some 0 := by decide +kernel
theorem wdX11_has_112 : decode cX11_has 112 = .ok (.ireturn, 1) := by decide +kernel
theorem wdX11_has_113 : decode cX11_has 113 = .ok (.aload_n 3, 1) := by decide +kernel
theorem wdX11_has_114 : decode cX11_has 114 = .ok (.invokevirtual 222, 3) := by decide +kernel
theorem wtk_X9_mostSyllables : Cond.code yX9_mostSyllables cX9_mostSyllables 3 (some .int) ∈ TB := tbm (tc4 (List.mem_of_getElem? (i := 148) rfl)) rfl
theorem wgc_X9_mostSyllables : GoodIn TB (cw yX9_mostSyllables cX9_mostSyllables 3 (some .int)) := goodIn_c2 wtk_X9_mostSyllables
theorem wtb_321 : Cond.methodLink "ToneLines" 222 yX9_mostSyllables ∈ TB := tbm (tc4 (List.mem_of_getElem? (i := 145) rfl)) rfl
theorem wtb_322 : Cond.instanceMethod yX9_mostSyllables ∈ TB := tbm (tc4 (List.mem_of_getElem? (i := 146) rfl)) rfl
theorem wtb_323 : Cond.selects "ToneLines$Word" yX9_mostSyllables yX9_mostSyllables ∈ TB := tbm (tc4 (List.mem_of_getElem? (i := 147) rfl)) rfl
theorem wgv_X11_222 : GoodIn TB (wsV RX11 222 RX9 yX9_mostSyllables (cw yX9_mostSyllables cX9_mostSyllables 3 (some .int))) := goodIn_4 wtb_321 wtb_322 wtb_323 wtb_3 wgc_X9_mostSyllables
theorem whv_X9_mostSyllables : yX9_mostSyllables.cls = RX9 ∧ yX9_mostSyllables.cls ≠ "java/lang/invoke/MethodHandle" ∧ yX9_mostSyllables.cls ≠ "java/lang/invoke/VarHandle" ∧ (parseMethodDescriptor yX9_mostSyllables.desc).map (fun d => d.parameters.length) = some 0 := by decide +kernel
theorem wdX11_has_117 : decode cX11_has 117 = .ok (.ireturn, 1) := by decide +kernel
theorem wdX11_has_118 : decode cX11_has 118 = .ok (.aload_n 3, 1) := by decide +kernel
theorem wdX11_has_119 : decode cX11_has 119 = .ok (.invokevirtual 225, 3) := by decide +kernel
theorem wtk_X9_linkedFromFirst : Cond.code yX9_linkedFromFirst cX9_linkedFromFirst 2 (some .int) ∈ TB := tbm (tc4 (List.mem_of_getElem? (i := 152) rfl)) rfl
theorem wgc_X9_linkedFromFirst : GoodIn TB (cw yX9_linkedFromFirst cX9_linkedFromFirst 2 (some .int)) := goodIn_c2 wtk_X9_linkedFromFirst
theorem wtb_324 : Cond.methodLink "ToneLines" 225 yX9_linkedFromFirst ∈ TB := tbm (tc4 (List.mem_of_getElem? (i := 149) rfl)) rfl
theorem wtb_325 : Cond.instanceMethod yX9_linkedFromFirst ∈ TB := tbm (tc4 (List.mem_of_getElem? (i := 150) rfl)) rfl
theorem wtb_326 : Cond.selects "ToneLines$Word" yX9_linkedFromFirst yX9_linkedFromFirst ∈ TB := tbm (tc4 (List.mem_of_getElem? (i := 151) rfl)) rfl
theorem wgv_X11_225 : GoodIn TB (wsV RX11 225 RX9 yX9_linkedFromFirst (cw yX9_linkedFromFirst cX9_linkedFromFirst 2 (some .int))) := goodIn_4 wtb_324 wtb_325 wtb_326 wtb_3 wgc_X9_linkedFromFirst
theorem whv_X9_linkedFromFirst : yX9_linkedFromFirst.cls = RX9 ∧ yX9_linkedFromFirst.cls ≠ "java/lang/invoke/MethodHandle" ∧ yX9_linkedFromFirst.cls ≠ "java/lang/invoke/VarHandle" ∧ (parseMethodDescriptor yX9_linkedFromFirst.desc).map (fun d => d.parameters.length) = some 0 := by decide +kernel
theorem wdX11_has_122 : decode cX11_has 122 = .ok (.ireturn, 1) := by decide +kernel
theorem wdX11_has_123 : decode cX11_has 123 = .ok (.iconst (-1), 1) := by decide +kernel
theorem wdX11_has_124 : decode cX11_has 124 = .ok (.ireturn, 1) := by decide +kernel
theorem wdX11_has_11 : decode cX11_has 11 = .ok (.iconst (-1), 1) := by decide +kernel
theorem wdX11_has_12 : decode cX11_has 12 = .ok (.ireturn, 1) := by decide +kernel
set_option maxRecDepth 4000 in
theorem h_has {l : Launch} {D : va_G} {B : Nat} {cy : Nat → ClassId} {M : Mem} {Ps : Nat → Nat → Int} {mr rd k q hv ed : Nat} {o : Wo} {Hs : Nat → Fw} (hS : CS M Ps mr (q, hv, ed, o) rd Hs k) {n9 w9 : Int} (hn9 : rg n9) (hw9 : rg w9) : Ci l D B cy yX11_has cX11_has 4 (some .int) 6 155 [.ref (B + 0), .int (zI n9), .int (zI w9)] M (fun r M1 => r = zI (ofA Ps mr (q, hv, ed, o) n9 (hasA w9))) := by
  refine s_any (by decide) (Nat.le_of_ble_eq_true rfl) ?_
  intro p e s m below meth c ls F hr hlocks w hl
  have F : CallFix p m c cX11_has 4 s _ TB RX11 := F
  have hx := F.1
  have hb := F.2.1
  have hl : lv_has ls 4 [(0, .ref (B + 0)), (1, .int (zI n9)), (2, .int (zI w9))] := hl
  have hm8 := hS.1.2.1
  have hC : CW M 44 q hv ed o := hS.t
  have hW : isW M 44 o.1 q hv ed o.2.1 o.2.2 := hC.1
  have hwf := hC.wf
  have hKL := hwf.2.2.2.2
  have hn12 := hwf.1
  have hq12 := hwf.2.1
  have hhv := hwf.2.2.1
  have hed := hwf.2.2.2.1
  refine lv_aload_n hx hb wdX11_has_0 rfl (lv_at hl 0 rfl) ?_
  refine f_11_3 F w (a := 0) rfl wtb_207 wdX11_has_1 ?_
  refine lv_iload_n hx hb wdX11_has_4 rfl (lv_at hl 1 rfl) ?_
  refine k_Vi F w (As := [.int (zI n9)]) (rest := []) (a := 22) (kd_lt (a := 22) (show kd 22 = (0, 0, 0) from rfl) (by decide)) (sh_0 rfl _ _) rfl (g_covers hS (n9 := n9) (by omega)) wgv_X11_193 whv_X0_covers ⟨(Nat.le_of_ble_eq_true rfl), (Nat.le_of_ble_eq_true rfl)⟩ hl.1 rfl (Nat.le_of_ble_eq_true rfl) ⟨Nat.zero_le _, Nat.zero_le _⟩ wdX11_has_5 (fun r Ma2 H locs hp w => ?_)
  rcases hp with ⟨⟨hb1, rfl⟩ | ⟨hb1, rfl⟩, hMe⟩
  · rw [hMe] at w
    obtain ⟨nn, rfl⟩ : ∃ n8 : Nat, n9 = (n8 : Int) := ⟨Int.toNat n9, by omega⟩
    have hnn : nn ≤ mr := by omega
    refine z_if_ne (tgt := 13) hx hb (by omega) wdX11_has_8 (by decide) (fun c3 => ?_) (fun c3 => False.elim (by omega))
    refine lv_aload_n hx hb wdX11_has_13 rfl (lv_at hl 0 rfl) ?_
    refine f_11_3 F w (a := 0) rfl wtb_207 wdX11_has_14 ?_
    refine lv_iload_n hx hb wdX11_has_17 rfl (lv_at hl 1 rfl) ?_
    refine k_Vr F w (As := [.int (zI (nn : Int))]) (rest := []) (a := 22) (kd_lt (a := 22) (show kd 22 = (0, 0, 0) from rfl) (by decide)) (sh_0 rfl _ _) rfl (g_stageOf hS (n9 := nn) (by omega)) wgv_X11_196 whv_X0_stageOf ⟨(Nat.le_of_ble_eq_true rfl), (Nat.le_of_ble_eq_true rfl)⟩ hl.1 rfl (Nat.le_of_ble_eq_true rfl) ⟨Nat.zero_le _, Nat.zero_le _⟩ wdX11_has_18 (fun r Ma4 H locs hp w => ?_)
    rcases hp with ⟨rfl, rd1, hnr, _, hS1, _⟩
    have hC9 := hS1.2.1.2.2.1 nn (by omega)
    obtain ⟨o1, ho1⟩ : ∃ o1, o1 = sg9 Ps (q, hv, ed, o) nn := ⟨_, rfl⟩
    have hC1 : CW Ma4 (44 + 3 * nn) q hv ed o1 := by rw [ho1]; exact hC9
    have hW1 := hC1.1
    have hwf1 := hC1.wf
    have hKL1 := hwf1.2.2.2.2
    have hn1 := hwf1.1
    refine lv_astore_n (lv' := [(3, .ref (B + (44 + 3 * nn))), (0, .ref (B + 0)), (1, .int (zI (nn : Int))), (2, .int (zI w9))]) hx hb wdX11_has_21 rfl hl (by decide) rfl (fun ls hl => ?_)
    refine lv_iload_n hx hb wdX11_has_22 rfl (lv_at hl 3 rfl) ?_
    rcases (show (w9 : Int) = 0 ∨ (w9 : Int) = 1 ∨ (w9 : Int) = 2 ∨ (w9 : Int) = 3 ∨ (w9 : Int) = 4 ∨ (w9 : Int) = 5 ∨ (w9 : Int) = 6 ∨ (w9 : Int) = 7 ∨ (w9 : Int) = 8 ∨ (w9 ≠ 0 ∧ w9 ≠ 1 ∧ w9 ≠ 2 ∧ w9 ≠ 3 ∧ w9 ≠ 4 ∧ w9 ≠ 5 ∧ w9 ≠ 6 ∧ w9 ≠ 7 ∧ w9 ≠ 8) by omega) with c5 | c5 | c5 | c5 | c5 | c5 | c5 | c5 | c5 | c5
    · refine r_val (v := zI 0) (congrArg zI c5) ?_
      refine lv_tableIn (tgt := 72) hx hb wdX11_has_23 (by decide) (by decide) (off := 49) rfl (by decide) ?_
      refine lv_aload_n hx hb wdX11_has_72 rfl (lv_at hl 0 rfl) ?_
      refine f_9_0 F w (a := (44 + 3 * nn)) (kd_sg (by omega)) wtb_234 wdX11_has_73 ?_
      refine r_val (v := (zI ((o1.1 : Nat) : Int))) (hW1.1) ?_
      exact e_i F w hr hlocks (congrArg zI ((ofA_y hnn).trans (by rw [← ho1]; exact hasA_0 c5)).symm) wdX11_has_76
    · refine r_val (v := zI 1) (congrArg zI c5) ?_
      refine lv_tableIn (tgt := 77) hx hb wdX11_has_23 (by decide) (by decide) (off := 54) rfl (by decide) ?_
      refine lv_aload_n hx hb wdX11_has_77 rfl (lv_at hl 0 rfl) ?_
      refine f_9_1 F w (a := (44 + 3 * nn)) (kd_sg (by omega)) wtb_241 wdX11_has_78 ?_
      refine r_val (v := (zI (q : Int))) (hW1.2.1) ?_
      exact e_i F w hr hlocks (congrArg zI ((ofA_y hnn).trans (by rw [← ho1]; exact hasA_1 c5)).symm) wdX11_has_81
    · refine r_val (v := zI 2) (congrArg zI c5) ?_
      refine lv_tableIn (tgt := 82) hx hb wdX11_has_23 (by decide) (by decide) (off := 59) rfl (by decide) ?_
      refine lv_aload_n hx hb wdX11_has_82 rfl (lv_at hl 0 rfl) ?_
      refine x_Vi F w (As := []) (rest := []) (a := (44 + 3 * nn)) (kd_lt (a := (44 + 3 * nn)) (kd_sg (by omega)) (by decide)) (sh_9 (kd_sg (by omega)) _ _) rfl (s_X9_lineCount (a := 44 + 3 * nn) (kd_sg (by omega)) hW1 hwf1) wgv_X11_207 whv_X9_lineCount ⟨(Nat.le_of_ble_eq_true rfl), (Nat.le_of_ble_eq_true rfl)⟩ hl.1 rfl (Nat.le_of_ble_eq_true rfl) ⟨Nat.zero_le _, Nat.zero_le _⟩ wdX11_has_83 (fun H locs w => ?_)
      have hsp := sumP_le (F := fun t => pop (o1.2.2 t)) (b := 12) (n := o1.1) (fun k hk9 => (pop_le _ (hKL1 k hk9).2).1)
      exact e_i F w hr hlocks (congrArg zI ((ofA_y hnn).trans (by rw [← ho1]; exact hasA_2 c5)).symm) wdX11_has_86
    · refine r_val (v := zI 3) (congrArg zI c5) ?_
      refine lv_tableIn (tgt := 87) hx hb wdX11_has_23 (by decide) (by decide) (off := 64) rfl (by decide) ?_
      refine lv_aload_n hx hb wdX11_has_87 rfl (lv_at hl 0 rfl) ?_
      refine x_Vi F w (As := []) (rest := []) (a := (44 + 3 * nn)) (kd_lt (a := (44 + 3 * nn)) (kd_sg (by omega)) (by decide)) (sh_9 (kd_sg (by omega)) _ _) rfl (s_X9_floating (a := 44 + 3 * nn) (kd_sg (by omega)) hW1 hwf1) wgv_X11_210 whv_X9_floating ⟨(Nat.le_of_ble_eq_true rfl), (Nat.le_of_ble_eq_true rfl)⟩ hl.1 rfl (Nat.le_of_ble_eq_true rfl) ⟨Nat.zero_le _, Nat.zero_le _⟩ wdX11_has_88 (fun H locs w => ?_)
      have hfl := flt_lt (L := o1.2.2) (n := o1.1) (by omega)
      exact e_i F w hr hlocks (congrArg zI ((ofA_y hnn).trans (by rw [← ho1]; exact hasA_3 c5)).symm) wdX11_has_91
    · refine r_val (v := zI 4) (congrArg zI c5) ?_
      refine lv_tableIn (tgt := 92) hx hb wdX11_has_23 (by decide) (by decide) (off := 69) rfl (by decide) ?_
      refine lv_aload_n hx hb wdX11_has_92 rfl (lv_at hl 0 rfl) ?_
      refine x_Vi F w (As := []) (rest := []) (a := (44 + 3 * nn)) (kd_lt (a := (44 + 3 * nn)) (kd_sg (by omega)) (by decide)) (sh_9 (kd_sg (by omega)) _ _) rfl (s_X9_bare (a := 44 + 3 * nn) (kd_sg (by omega)) hW1 hwf1) wgv_X11_213 whv_X9_bare ⟨(Nat.le_of_ble_eq_true rfl), (Nat.le_of_ble_eq_true rfl)⟩ hl.1 rfl (Nat.le_of_ble_eq_true rfl) ⟨Nat.zero_le _, Nat.zero_le _⟩ wdX11_has_93 (fun H locs w => ?_)
      have hbl := fb_lt (n := o1.1) (L := o1.2.2) hq12
      exact e_i F w hr hlocks (congrArg zI ((ofA_y hnn).trans (by rw [← ho1]; exact hasA_4 c5)).symm) wdX11_has_96
    · refine r_val (v := zI 5) (congrArg zI c5) ?_
      refine lv_tableIn (tgt := 97) hx hb wdX11_has_23 (by decide) (by decide) (off := 74) rfl (by decide) ?_
      refine lv_aload_n hx hb wdX11_has_97 rfl (lv_at hl 0 rfl) ?_
      refine lv_aload_n hx hb wdX11_has_98 rfl (lv_at hl 0 rfl) ?_
      refine f_9_0 F w (a := (44 + 3 * nn)) (kd_sg (by omega)) wtb_234 wdX11_has_99 ?_
      refine r_val (v := (zI ((o1.1 : Nat) : Int))) (hW1.1) ?_
      refine lv_iconst (v := zI 1) hx hb wdX11_has_102 rfl ?_
      refine z_isub (z := (((o1.1 : Nat) : Int) - 1)) hx hb wdX11_has_103 (by omega) ?_
      refine x_Vi F w (As := [.int (zI (((o1.1 : Nat) : Int) - 1))]) (rest := []) (a := (44 + 3 * nn)) (kd_lt (a := (44 + 3 * nn)) (kd_sg (by omega)) (by decide)) (sh_9 (kd_sg (by omega)) _ _) rfl (h_fallsUpTo (a := 44 + 3 * nn) (kd_sg (by omega)) hC1 (m9 := o1.1) (by omega)) wgv_X11_216 whv_X9_fallsUpTo ⟨(Nat.le_of_ble_eq_true rfl), (Nat.le_of_ble_eq_true rfl)⟩ hl.1 rfl (Nat.le_of_ble_eq_true rfl) ⟨Nat.zero_le _, Nat.zero_le _⟩ wdX11_has_104 (fun H locs w => ?_)
      have hfm := fw_b (K := o1.2.1) o1.1
      exact e_i F w hr hlocks (congrArg zI ((ofA_y hnn).trans (by rw [← ho1]; exact hasA_5 c5)).symm) wdX11_has_107
    · refine r_val (v := zI 6) (congrArg zI c5) ?_
      refine lv_tableIn (tgt := 108) hx hb wdX11_has_23 (by decide) (by decide) (off := 85) rfl (by decide) ?_
      refine lv_aload_n hx hb wdX11_has_108 rfl (lv_at hl 0 rfl) ?_
      refine x_Vi F w (As := []) (rest := []) (a := (44 + 3 * nn)) (kd_lt (a := (44 + 3 * nn)) (kd_sg (by omega)) (by decide)) (sh_9 (kd_sg (by omega)) _ _) rfl (h_mostTones (a := 44 + 3 * nn) (kd_sg (by omega)) hC1) wgv_X11_219 whv_X9_mostTones ⟨(Nat.le_of_ble_eq_true rfl), (Nat.le_of_ble_eq_true rfl)⟩ hl.1 rfl (Nat.le_of_ble_eq_true rfl) ⟨Nat.zero_le _, Nat.zero_le _⟩ wdX11_has_109 (fun H locs w => ?_)
      have hmt : maxP (fun s => pop (tmk o1.2.2 s o1.1)) q ≤ 12 := maxP_le (fun k _ => (pop_le _ (tmk_lt hn1)).1)
      exact e_i F w hr hlocks (congrArg zI ((ofA_y hnn).trans (by rw [← ho1]; exact hasA_6 c5)).symm) wdX11_has_112
    · refine r_val (v := zI 7) (congrArg zI c5) ?_
      refine lv_tableIn (tgt := 113) hx hb wdX11_has_23 (by decide) (by decide) (off := 90) rfl (by decide) ?_
      refine lv_aload_n hx hb wdX11_has_113 rfl (lv_at hl 0 rfl) ?_
      refine x_Vi F w (As := []) (rest := []) (a := (44 + 3 * nn)) (kd_lt (a := (44 + 3 * nn)) (kd_sg (by omega)) (by decide)) (sh_9 (kd_sg (by omega)) _ _) rfl (s_X9_mostSyllables (a := 44 + 3 * nn) (kd_sg (by omega)) hW1 hwf1) wgv_X11_222 whv_X9_mostSyllables ⟨(Nat.le_of_ble_eq_true rfl), (Nat.le_of_ble_eq_true rfl)⟩ hl.1 rfl (Nat.le_of_ble_eq_true rfl) ⟨Nat.zero_le _, Nat.zero_le _⟩ wdX11_has_114 (fun H locs w => ?_)
      have hms : maxP (fun t => pop (o1.2.2 t)) o1.1 ≤ 12 := maxP_le (fun k hk9 => (pop_le _ (hKL1 k hk9).2).1)
      exact e_i F w hr hlocks (congrArg zI ((ofA_y hnn).trans (by rw [← ho1]; exact hasA_7 c5)).symm) wdX11_has_117
    · refine r_val (v := zI 8) (congrArg zI c5) ?_
      refine lv_tableIn (tgt := 118) hx hb wdX11_has_23 (by decide) (by decide) (off := 95) rfl (by decide) ?_
      refine lv_aload_n hx hb wdX11_has_118 rfl (lv_at hl 0 rfl) ?_
      refine x_Vi F w (As := []) (rest := []) (a := (44 + 3 * nn)) (kd_lt (a := (44 + 3 * nn)) (kd_sg (by omega)) (by decide)) (sh_9 (kd_sg (by omega)) _ _) rfl (h_linkedFromFirst (a := 44 + 3 * nn) (kd_sg (by omega)) hC1) wgv_X11_225 whv_X9_linkedFromFirst ⟨(Nat.le_of_ble_eq_true rfl), (Nat.le_of_ble_eq_true rfl)⟩ hl.1 rfl (Nat.le_of_ble_eq_true rfl) ⟨Nat.zero_le _, Nat.zero_le _⟩ wdX11_has_119 (fun H locs w => ?_)
      have hff := fb_le (n := o1.1) (L := o1.2.2) hq12
      exact e_i F w hr hlocks (congrArg zI ((ofA_y hnn).trans (by rw [← ho1]; exact hasA_8 c5)).symm) wdX11_has_122
    · refine lv_tableOut (tgt := 123) hx hb wdX11_has_23 (by rw [zI_toInt (by omega)]; omega) (by decide) ?_
      refine lv_iconst (v := zI (-1)) hx hb wdX11_has_123 rfl ?_
      exact e_i F w hr hlocks (congrArg zI ((ofA_y hnn).trans (by rw [← ho1]; exact hasA_d c5)).symm) wdX11_has_124
  · rw [hMe] at w
    refine z_if_ne (tgt := 13) hx hb (by omega) wdX11_has_8 (by decide) (fun c13 => False.elim (by omega)) (fun c13 => ?_)
    refine lv_iconst (v := zI (-1)) hx hb wdX11_has_11 rfl ?_
    exact e_i F w hr hlocks (congrArg zI (ofA_n hb1).symm) wdX11_has_12
theorem wdX11_toneAt_0 : decode cX11_toneAt 0 = .ok (.aload_n 0, 1) := by decide +kernel
theorem wdX11_toneAt_1 : decode cX11_toneAt 1 = .ok (.getfield 35, 3) := by decide +kernel
theorem wdX11_toneAt_4 : decode cX11_toneAt 4 = .ok (.iload_n 1, 1) := by decide +kernel
theorem wdX11_toneAt_5 : decode cX11_toneAt 5 = .ok (.invokevirtual 193, 3) := by decide +kernel
theorem wdX11_toneAt_8 : decode cX11_toneAt 8 = .ok (.ifCond .ne 5, 3) := by decide +kernel
theorem wdX11_toneAt_13 : decode cX11_toneAt 13 = .ok (.aload_n 0, 1) := by decide +kernel
theorem wdX11_toneAt_14 : decode cX11_toneAt 14 = .ok (.getfield 35, 3) := by decide +kernel
theorem wdX11_toneAt_17 : decode cX11_toneAt 17 = .ok (.iload_n 1, 1) := by decide +kernel
theorem wdX11_toneAt_18 : decode cX11_toneAt 18 = .ok (.invokevirtual 196, 3) := by decide +kernel
theorem wdX11_toneAt_21 : decode cX11_toneAt 21 = .ok (.astore 4, 2) := by decide +kernel
theorem wdX11_toneAt_23 : decode cX11_toneAt 23 = .ok (.aload 4, 2) := by decide +kernel
theorem wdX11_toneAt_25 : decode cX11_toneAt 25 = .ok (.iload_n 2, 1) := by decide +kernel
theorem wdX11_toneAt_26 : decode cX11_toneAt 26 = .ok (.invokevirtual 141, 3) := by decide +kernel
theorem wdX11_toneAt_29 : decode cX11_toneAt 29 = .ok (.ifCond .ne 15, 3) := by decide +kernel
theorem wdX11_toneAt_44 : decode cX11_toneAt 44 = .ok (.aload 4, 2) := by decide +kernel
theorem wdX11_toneAt_46 : decode cX11_toneAt 46 = .ok (.getfield 126, 3) := by decide +kernel
theorem wdX11_toneAt_49 : decode cX11_toneAt 49 = .ok (.iload_n 2, 1) := by decide +kernel
theorem wdX11_toneAt_50 : decode cX11_toneAt 50 = .ok (.iaload, 1) := by decide +kernel
theorem wdX11_toneAt_51 : decode cX11_toneAt 51 = .ok (.ifCond .ne 7, 3) := by decide +kernel
theorem wdX11_toneAt_58 : decode cX11_toneAt 58 = .ok (.iconst 0, 1) := by decide +kernel
theorem wdX11_toneAt_59 : decode cX11_toneAt 59 = .ok (.istore 5, 2) := by decide +kernel
theorem wdX11_toneAt_61 : decode cX11_toneAt 61 = .ok (.iload_n 3, 1) := by decide +kernel
theorem wdX11_toneAt_62 : decode cX11_toneAt 62 = .ok (.tableswitch 114 0 4 #[34, 42, 63, 84, 95], 34) := by decide +kernel
theorem wdX11_toneAt_96 : decode cX11_toneAt 96 = .ok (.aload 4, 2) := by decide +kernel
theorem wdX11_toneAt_98 : decode cX11_toneAt 98 = .ok (.getfield 147, 3) := by decide +kernel
theorem wdX11_toneAt_101 : decode cX11_toneAt 101 = .ok (.iload_n 2, 1) := by decide +kernel
theorem wdX11_toneAt_102 : decode cX11_toneAt 102 = .ok (.iaload, 1) := by decide +kernel
theorem wdX11_toneAt_103 : decode cX11_toneAt 103 = .ok (.ireturn, 1) := by decide +kernel
theorem wdX11_toneAt_104 : decode cX11_toneAt 104 = .ok (.iload 5, 2) := by decide +kernel
theorem wdX11_toneAt_106 : decode cX11_toneAt 106 = .ok (.ifCond .eq 8, 3) := by decide +kernel
theorem wdX11_toneAt_114 : decode cX11_toneAt 114 = .ok (.aload 4, 2) := by decide +kernel
theorem wdX11_toneAt_116 : decode cX11_toneAt 116 = .ok (.getfield 126, 3) := by decide +kernel
theorem wdX11_toneAt_119 : decode cX11_toneAt 119 = .ok (.iload_n 2, 1) := by decide +kernel
theorem wdX11_toneAt_120 : decode cX11_toneAt 120 = .ok (.iaload, 1) := by decide +kernel
theorem wdX11_toneAt_121 : decode cX11_toneAt 121 = .ok (.invokestatic 228, 3) := by decide +kernel
theorem wtb_327 : Cond.methodLink "ToneLines" 228 yX11_lowest ∈ TB := tbm (tc4 (List.mem_of_getElem? (i := 158) rfl)) rfl
theorem wgs_X11_228 : GoodIn TB (va_wsS RX11 228 yX11_lowest (cw yX11_lowest cX11_lowest 1 (some .int))) := goodIn_3 wtb_327 wtb_6 wtb_5 wgc_X11_lowest
theorem wdX11_toneAt_124 : decode cX11_toneAt 124 = .ok (.ireturn, 1) := by decide +kernel
theorem wdX11_toneAt_125 : decode cX11_toneAt 125 = .ok (.iload 5, 2) := by decide +kernel
theorem wdX11_toneAt_127 : decode cX11_toneAt 127 = .ok (.ifCond .eq 8, 3) := by decide +kernel
theorem wdX11_toneAt_135 : decode cX11_toneAt 135 = .ok (.aload 4, 2) := by decide +kernel
theorem wdX11_toneAt_137 : decode cX11_toneAt 137 = .ok (.getfield 126, 3) := by decide +kernel
theorem wdX11_toneAt_140 : decode cX11_toneAt 140 = .ok (.iload_n 2, 1) := by decide +kernel
theorem wdX11_toneAt_141 : decode cX11_toneAt 141 = .ok (.iaload, 1) := by decide +kernel
theorem wdX11_toneAt_142 : decode cX11_toneAt 142 = .ok (.invokestatic 231, 3) := by decide +kernel
theorem wtb_328 : Cond.methodLink "ToneLines" 231 yX11_highest ∈ TB := tbm (tc4 (List.mem_of_getElem? (i := 159) rfl)) rfl
theorem wgs_X11_231 : GoodIn TB (va_wsS RX11 231 yX11_highest (cw yX11_highest cX11_highest 2 (some .int))) := goodIn_3 wtb_328 wtb_7 wtb_5 wgc_X11_highest
theorem wdX11_toneAt_145 : decode cX11_toneAt 145 = .ok (.ireturn, 1) := by decide +kernel
theorem wdX11_toneAt_146 : decode cX11_toneAt 146 = .ok (.aload 4, 2) := by decide +kernel
theorem wdX11_toneAt_148 : decode cX11_toneAt 148 = .ok (.getfield 126, 3) := by decide +kernel
theorem wdX11_toneAt_151 : decode cX11_toneAt 151 = .ok (.iload_n 2, 1) := by decide +kernel
theorem wdX11_toneAt_152 : decode cX11_toneAt 152 = .ok (.iaload, 1) := by decide +kernel
theorem wdX11_toneAt_153 : decode cX11_toneAt 153 = .ok (.invokestatic 234, 3) := by decide +kernel
theorem wtb_329 : Cond.methodLink "ToneLines" 234 yJ6_bitCount_0f7a4 ∈ TB := tbm (tc4 (List.mem_of_getElem? (i := 18) rfl)) rfl
theorem wgs_X11_234 : GoodIn TB (va_wsS RX11 234 yJ6_bitCount_0f7a4 (cw yJ6_bitCount_0f7a4 cJ6_bitCount_0f7a4 1 (some .int))) := goodIn_3 wtb_329 wtb_13 wtb_14 wgc_J6_bitCount_0f7a4
theorem wdX11_toneAt_156 : decode cX11_toneAt 156 = .ok (.ireturn, 1) := by decide +kernel
theorem wdX11_toneAt_157 : decode cX11_toneAt 157 = .ok (.iconst 3, 1) := by decide +kernel
theorem wdX11_toneAt_158 : decode cX11_toneAt 158 = .ok (.aload 4, 2) := by decide +kernel
theorem wdX11_toneAt_160 : decode cX11_toneAt 160 = .ok (.getfield 147, 3) := by decide +kernel
theorem wdX11_toneAt_163 : decode cX11_toneAt 163 = .ok (.iload_n 2, 1) := by decide +kernel
theorem wdX11_toneAt_164 : decode cX11_toneAt 164 = .ok (.iaload, 1) := by decide +kernel
theorem wdX11_toneAt_165 : decode cX11_toneAt 165 = .ok (.iconst 1, 1) := by decide +kernel
theorem wdX11_toneAt_166 : decode cX11_toneAt 166 = .ok (.iadd, 1) := by decide +kernel
theorem wdX11_toneAt_167 : decode cX11_toneAt 167 = .ok (.imul, 1) := by decide +kernel
theorem wdX11_toneAt_168 : decode cX11_toneAt 168 = .ok (.aload 4, 2) := by decide +kernel
theorem wdX11_toneAt_170 : decode cX11_toneAt 170 = .ok (.iload_n 2, 1) := by decide +kernel
theorem wdX11_toneAt_171 : decode cX11_toneAt 171 = .ok (.invokevirtual 216, 3) := by decide +kernel
theorem wdX11_toneAt_174 : decode cX11_toneAt 174 = .ok (.isub, 1) := by decide +kernel
theorem wdX11_toneAt_175 : decode cX11_toneAt 175 = .ok (.ireturn, 1) := by decide +kernel
theorem wdX11_toneAt_176 : decode cX11_toneAt 176 = .ok (.iconst (-1), 1) := by decide +kernel
theorem wdX11_toneAt_177 : decode cX11_toneAt 177 = .ok (.ireturn, 1) := by decide +kernel
theorem wdX11_toneAt_54 : decode cX11_toneAt 54 = .ok (.iconst 1, 1) := by decide +kernel
theorem wdX11_toneAt_55 : decode cX11_toneAt 55 = .ok (.goto 4, 3) := by decide +kernel
theorem wdX11_toneAt_109 : decode cX11_toneAt 109 = .ok (.bipush (-2), 2) := by decide +kernel
theorem wdX11_toneAt_111 : decode cX11_toneAt 111 = .ok (.goto 13, 3) := by decide +kernel
theorem wdX11_toneAt_130 : decode cX11_toneAt 130 = .ok (.bipush (-2), 2) := by decide +kernel
theorem wdX11_toneAt_132 : decode cX11_toneAt 132 = .ok (.goto 13, 3) := by decide +kernel
theorem wdX11_toneAt_32 : decode cX11_toneAt 32 = .ok (.iload_n 3, 1) := by decide +kernel
theorem wdX11_toneAt_33 : decode cX11_toneAt 33 = .ok (.iconst 4, 1) := by decide +kernel
theorem wdX11_toneAt_34 : decode cX11_toneAt 34 = .ok (.if_icmp .ne 8, 3) := by decide +kernel
theorem wdX11_toneAt_42 : decode cX11_toneAt 42 = .ok (.iconst (-1), 1) := by decide +kernel
theorem wdX11_toneAt_43 : decode cX11_toneAt 43 = .ok (.ireturn, 1) := by decide +kernel
theorem wdX11_toneAt_37 : decode cX11_toneAt 37 = .ok (.bipush (-100), 2) := by decide +kernel
theorem wdX11_toneAt_39 : decode cX11_toneAt 39 = .ok (.goto 4, 3) := by decide +kernel
theorem wdX11_toneAt_11 : decode cX11_toneAt 11 = .ok (.iconst (-1), 1) := by decide +kernel
theorem wdX11_toneAt_12 : decode cX11_toneAt 12 = .ok (.ireturn, 1) := by decide +kernel
set_option maxRecDepth 4000 in
theorem h_toneAt {l : Launch} {D : va_G} {B : Nat} {cy : Nat → ClassId} {M : Mem} {Ps : Nat → Nat → Int} {mr rd k q hv ed : Nat} {o : Wo} {Hs : Nat → Fw} (hS : CS M Ps mr (q, hv, ed, o) rd Hs k) {n9 t9 w9 : Int} (hn9 : rg n9) (ht9 : rg t9) (hw9 : rg w9) : Ci l D B cy yX11_toneAt cX11_toneAt 6 (some .int) 6 155 [.ref (B + 0), .int (zI n9), .int (zI t9), .int (zI w9)] M (fun r M1 => r = zI (ofA Ps mr (q, hv, ed, o) n9 (toneA t9 w9))) := by
  refine s_any (by decide) (Nat.le_of_ble_eq_true rfl) ?_
  intro p e s m below meth c ls F hr hlocks w hl
  have F : CallFix p m c cX11_toneAt 6 s _ TB RX11 := F
  have hx := F.1
  have hb := F.2.1
  have hl : lv_has ls 6 [(0, .ref (B + 0)), (1, .int (zI n9)), (2, .int (zI t9)), (3, .int (zI w9))] := hl
  have hm8 := hS.1.2.1
  have hC : CW M 44 q hv ed o := hS.t
  have hW : isW M 44 o.1 q hv ed o.2.1 o.2.2 := hC.1
  have hwf := hC.wf
  have hKL := hwf.2.2.2.2
  have hn12 := hwf.1
  have hq12 := hwf.2.1
  have hhv := hwf.2.2.1
  have hed := hwf.2.2.2.1
  refine lv_aload_n hx hb wdX11_toneAt_0 rfl (lv_at hl 0 rfl) ?_
  refine f_11_3 F w (a := 0) rfl wtb_207 wdX11_toneAt_1 ?_
  refine lv_iload_n hx hb wdX11_toneAt_4 rfl (lv_at hl 1 rfl) ?_
  refine k_Vi F w (As := [.int (zI n9)]) (rest := []) (a := 22) (kd_lt (a := 22) (show kd 22 = (0, 0, 0) from rfl) (by decide)) (sh_0 rfl _ _) rfl (g_covers hS (n9 := n9) (by omega)) wgv_X11_193 whv_X0_covers ⟨(Nat.le_of_ble_eq_true rfl), (Nat.le_of_ble_eq_true rfl)⟩ hl.1 rfl (Nat.le_of_ble_eq_true rfl) ⟨Nat.zero_le _, Nat.zero_le _⟩ wdX11_toneAt_5 (fun r Ma2 H locs hp w => ?_)
  rcases hp with ⟨⟨hb1, rfl⟩ | ⟨hb1, rfl⟩, hMe⟩
  · rw [hMe] at w
    obtain ⟨nn, rfl⟩ : ∃ n8 : Nat, n9 = (n8 : Int) := ⟨Int.toNat n9, by omega⟩
    have hnn : nn ≤ mr := by omega
    refine z_if_ne (tgt := 13) hx hb (by omega) wdX11_toneAt_8 (by decide) (fun c3 => ?_) (fun c3 => False.elim (by omega))
    refine lv_aload_n hx hb wdX11_toneAt_13 rfl (lv_at hl 0 rfl) ?_
    refine f_11_3 F w (a := 0) rfl wtb_207 wdX11_toneAt_14 ?_
    refine lv_iload_n hx hb wdX11_toneAt_17 rfl (lv_at hl 1 rfl) ?_
    refine k_Vr F w (As := [.int (zI (nn : Int))]) (rest := []) (a := 22) (kd_lt (a := 22) (show kd 22 = (0, 0, 0) from rfl) (by decide)) (sh_0 rfl _ _) rfl (g_stageOf hS (n9 := nn) (by omega)) wgv_X11_196 whv_X0_stageOf ⟨(Nat.le_of_ble_eq_true rfl), (Nat.le_of_ble_eq_true rfl)⟩ hl.1 rfl (Nat.le_of_ble_eq_true rfl) ⟨Nat.zero_le _, Nat.zero_le _⟩ wdX11_toneAt_18 (fun r Ma4 H locs hp w => ?_)
    rcases hp with ⟨rfl, rd1, hnr, _, hS1, _⟩
    have hC9 := hS1.2.1.2.2.1 nn (by omega)
    obtain ⟨o1, ho1⟩ : ∃ o1, o1 = sg9 Ps (q, hv, ed, o) nn := ⟨_, rfl⟩
    have hC1 : CW Ma4 (44 + 3 * nn) q hv ed o1 := by rw [ho1]; exact hC9
    have hW1 := hC1.1
    have hwf1 := hC1.wf
    have hKL1 := hwf1.2.2.2.2
    have hn1 := hwf1.1
    refine lv_astore (lv' := [(4, .ref (B + (44 + 3 * nn))), (0, .ref (B + 0)), (1, .int (zI (nn : Int))), (2, .int (zI t9)), (3, .int (zI w9))]) hx hb wdX11_toneAt_21 hl (by decide) rfl (fun ls hl => ?_)
    refine lv_aload hx hb wdX11_toneAt_23 (lv_at hl 0 rfl) ?_
    refine lv_iload_n hx hb wdX11_toneAt_25 rfl (lv_at hl 3 rfl) ?_
    refine k_Vi F w (As := [.int (zI t9)]) (rest := []) (a := (44 + 3 * nn)) (kd_lt (a := (44 + 3 * nn)) (kd_sg (by omega)) (by decide)) (sh_9 (kd_sg (by omega)) _ _) rfl (s_X9_hasTone (a := 44 + 3 * nn) (kd_sg (by omega)) hW1 hwf1 (by omega)) wgv_X11_141 whv_X9_hasTone ⟨(Nat.le_of_ble_eq_true rfl), (Nat.le_of_ble_eq_true rfl)⟩ hl.1 rfl (Nat.le_of_ble_eq_true rfl) ⟨Nat.zero_le _, Nat.zero_le _⟩ wdX11_toneAt_26 (fun r Ma5 H locs hp w => ?_)
    rcases hp with ⟨⟨tt, rfl, htt, rfl⟩ | ⟨ntt, rfl⟩, hMe⟩
    · rw [hMe] at w
      refine z_if_ne (tgt := 44) hx hb (by omega) wdX11_toneAt_29 (by decide) (fun c6 => ?_) (fun c6 => False.elim (by omega))
      refine lv_aload hx hb wdX11_toneAt_44 (lv_at hl 0 rfl) ?_
      refine f_9_5 F w (a := (44 + 3 * nn)) (kd_sg (by omega)) wtb_230 wdX11_toneAt_46 ?_
      refine lv_iload_n hx hb wdX11_toneAt_49 rfl (lv_at hl 3 rfl) ?_
      refine g_iald F w (a := ((44 + 3 * nn) + 2)) (kd_w2 (kd_sg (by omega))) (j := tt) (ix_n (by omega)) (by omega) wdX11_toneAt_50 ?_
      have hL6 := (hKL1 tt (by omega)).2
      refine r_val (v := (zI (((o1.2.2 tt) : Nat) : Int))) (hW1.2.2.2.2.2 tt (by omega)) ?_
      refine z_if_ne (tgt := 58) hx hb (by omega) wdX11_toneAt_51 (by decide) (fun c7 => ?_) (fun c7 => ?_)
      · refine lv_iconst (v := zI 0) hx hb wdX11_toneAt_58 rfl ?_
        refine lv_istore (lv' := [(5, .int (zI 0)), (4, .ref (B + (44 + 3 * nn))), (0, .ref (B + 0)), (1, .int (zI (nn : Int))), (2, .int (zI (tt : Int))), (3, .int (zI w9))]) hx hb wdX11_toneAt_59 hl (by decide) rfl (fun ls hl => ?_)
        refine lv_iload_n hx hb wdX11_toneAt_61 rfl (lv_at hl 5 rfl) ?_
        rcases (show (w9 : Int) = 0 ∨ (w9 : Int) = 1 ∨ (w9 : Int) = 2 ∨ (w9 : Int) = 3 ∨ (w9 : Int) = 4 ∨ (w9 ≠ 0 ∧ w9 ≠ 1 ∧ w9 ≠ 2 ∧ w9 ≠ 3 ∧ w9 ≠ 4) by omega) with c8 | c8 | c8 | c8 | c8 | c8
        · refine r_val (v := zI 0) (congrArg zI c8) ?_
          refine lv_tableIn (tgt := 96) hx hb wdX11_toneAt_62 (by decide) (by decide) (off := 34) rfl (by decide) ?_
          refine lv_aload hx hb wdX11_toneAt_96 (lv_at hl 1 rfl) ?_
          refine f_9_4 F w (a := (44 + 3 * nn)) (kd_sg (by omega)) wtb_240 wdX11_toneAt_98 ?_
          refine lv_iload_n hx hb wdX11_toneAt_101 rfl (lv_at hl 4 rfl) ?_
          refine g_iald F w (a := ((44 + 3 * nn) + 1)) (kd_w1 (kd_sg (by omega))) (j := tt) (ix_n (by omega)) (by omega) wdX11_toneAt_102 ?_
          have hK8 := (hKL1 tt (by omega)).1
          refine r_val (v := (zI (((o1.2.1 tt) : Nat) : Int))) (hW1.2.2.2.2.1 tt (by omega)) ?_
          exact e_i F w hr hlocks (congrArg zI ((ofA_y hnn).trans (by rw [← ho1]; exact toneA_0 htt c8)).symm) wdX11_toneAt_103
        · refine r_val (v := zI 1) (congrArg zI c8) ?_
          refine lv_tableIn (tgt := 104) hx hb wdX11_toneAt_62 (by decide) (by decide) (off := 42) rfl (by decide) ?_
          refine lv_iload hx hb wdX11_toneAt_104 (lv_at hl 0 rfl) ?_
          refine z_if_eq (tgt := 114) hx hb (by omega) wdX11_toneAt_106 (by decide) (fun c9 => ?_) (fun c9 => False.elim (by omega))
          refine lv_aload hx hb wdX11_toneAt_114 (lv_at hl 1 rfl) ?_
          refine f_9_5 F w (a := (44 + 3 * nn)) (kd_sg (by omega)) wtb_230 wdX11_toneAt_116 ?_
          refine lv_iload_n hx hb wdX11_toneAt_119 rfl (lv_at hl 4 rfl) ?_
          refine g_iald F w (a := ((44 + 3 * nn) + 2)) (kd_w2 (kd_sg (by omega))) (j := tt) (ix_n (by omega)) (by omega) wdX11_toneAt_120 ?_
          have hL9 := (hKL1 tt (by omega)).2
          refine r_val (v := (zI (((o1.2.2 tt) : Nat) : Int))) (hW1.2.2.2.2.2 tt (by omega)) ?_
          refine x_Si F w (As := [.int (zI (((o1.2.2 tt) : Nat) : Int))]) (rest := []) (s_X11_lowest (m9 := (o1.2.2 tt)) (by omega)) wgs_X11_228 whs_X11_lowest ⟨(Nat.le_of_ble_eq_true rfl), (Nat.le_of_ble_eq_true rfl)⟩ hl.1 rfl (Nat.le_of_ble_eq_true rfl) ⟨Nat.zero_le _, Nat.zero_le _⟩ wdX11_toneAt_121 (fun H locs w => ?_)
          have hw9 := lowI_rg (o1.2.2 tt) (by omega)
          exact e_i F w hr hlocks (congrArg zI ((ofA_y hnn).trans (by rw [← ho1]; exact (toneA_1 htt c8).trans (orN_z (by omega)).1)).symm) wdX11_toneAt_124
        · refine r_val (v := zI 2) (congrArg zI c8) ?_
          refine lv_tableIn (tgt := 125) hx hb wdX11_toneAt_62 (by decide) (by decide) (off := 63) rfl (by decide) ?_
          refine lv_iload hx hb wdX11_toneAt_125 (lv_at hl 0 rfl) ?_
          refine z_if_eq (tgt := 135) hx hb (by omega) wdX11_toneAt_127 (by decide) (fun c11 => ?_) (fun c11 => False.elim (by omega))
          refine lv_aload hx hb wdX11_toneAt_135 (lv_at hl 1 rfl) ?_
          refine f_9_5 F w (a := (44 + 3 * nn)) (kd_sg (by omega)) wtb_230 wdX11_toneAt_137 ?_
          refine lv_iload_n hx hb wdX11_toneAt_140 rfl (lv_at hl 4 rfl) ?_
          refine g_iald F w (a := ((44 + 3 * nn) + 2)) (kd_w2 (kd_sg (by omega))) (j := tt) (ix_n (by omega)) (by omega) wdX11_toneAt_141 ?_
          have hL11 := (hKL1 tt (by omega)).2
          refine r_val (v := (zI (((o1.2.2 tt) : Nat) : Int))) (hW1.2.2.2.2.2 tt (by omega)) ?_
          refine x_Si F w (As := [.int (zI (((o1.2.2 tt) : Nat) : Int))]) (rest := []) (s_X11_highest (m9 := (o1.2.2 tt)) (by omega)) wgs_X11_231 whs_X11_highest ⟨(Nat.le_of_ble_eq_true rfl), (Nat.le_of_ble_eq_true rfl)⟩ hl.1 rfl (Nat.le_of_ble_eq_true rfl) ⟨Nat.zero_le _, Nat.zero_le _⟩ wdX11_toneAt_142 (fun H locs w => ?_)
          have hw11 := higI_rg (o1.2.2 tt) (by omega)
          exact e_i F w hr hlocks (congrArg zI ((ofA_y hnn).trans (by rw [← ho1]; exact (toneA_2 htt c8).trans (orN_z (by omega)).2)).symm) wdX11_toneAt_145
        · refine r_val (v := zI 3) (congrArg zI c8) ?_
          refine lv_tableIn (tgt := 146) hx hb wdX11_toneAt_62 (by decide) (by decide) (off := 84) rfl (by decide) ?_
          refine lv_aload hx hb wdX11_toneAt_146 (lv_at hl 1 rfl) ?_
          refine f_9_5 F w (a := (44 + 3 * nn)) (kd_sg (by omega)) wtb_230 wdX11_toneAt_148 ?_
          refine lv_iload_n hx hb wdX11_toneAt_151 rfl (lv_at hl 4 rfl) ?_
          refine g_iald F w (a := ((44 + 3 * nn) + 2)) (kd_w2 (kd_sg (by omega))) (j := tt) (ix_n (by omega)) (by omega) wdX11_toneAt_152 ?_
          have hL12 := (hKL1 tt (by omega)).2
          refine r_val (v := (zI (((o1.2.2 tt) : Nat) : Int))) (hW1.2.2.2.2.2 tt (by omega)) ?_
          refine x_Si F w (As := [.int (zI (((o1.2.2 tt) : Nat) : Int))]) (rest := []) (s_bitCountN (m := (o1.2.2 tt)) (by omega)) wgs_X11_234 whs_J6_bitCount_0f7a4 ⟨(Nat.le_of_ble_eq_true rfl), (Nat.le_of_ble_eq_true rfl)⟩ hl.1 rfl (Nat.le_of_ble_eq_true rfl) ⟨Nat.zero_le _, Nat.zero_le _⟩ wdX11_toneAt_153 (fun H locs w => ?_)
          have hp12 := (pop_le (o1.2.2 tt) (by omega)).1
          exact e_i F w hr hlocks (congrArg zI ((ofA_y hnn).trans (by rw [← ho1]; exact toneA_3 htt c8)).symm) wdX11_toneAt_156
        · refine r_val (v := zI 4) (congrArg zI c8) ?_
          refine lv_tableIn (tgt := 157) hx hb wdX11_toneAt_62 (by decide) (by decide) (off := 95) rfl (by decide) ?_
          refine lv_iconst (v := zI 3) hx hb wdX11_toneAt_157 rfl ?_
          refine lv_aload hx hb wdX11_toneAt_158 (lv_at hl 1 rfl) ?_
          refine f_9_4 F w (a := (44 + 3 * nn)) (kd_sg (by omega)) wtb_240 wdX11_toneAt_160 ?_
          refine lv_iload_n hx hb wdX11_toneAt_163 rfl (lv_at hl 4 rfl) ?_
          refine g_iald F w (a := ((44 + 3 * nn) + 1)) (kd_w1 (kd_sg (by omega))) (j := tt) (ix_n (by omega)) (by omega) wdX11_toneAt_164 ?_
          have hK13 := (hKL1 tt (by omega)).1
          refine r_val (v := (zI (((o1.2.1 tt) : Nat) : Int))) (hW1.2.2.2.2.1 tt (by omega)) ?_
          refine lv_iconst (v := zI 1) hx hb wdX11_toneAt_165 rfl ?_
          refine z_iadd (z := ((((o1.2.1 tt) + 1) : Nat) : Int)) hx hb wdX11_toneAt_166 (by omega) ?_
          refine z_imul (z := (((3 * ((o1.2.1 tt) + 1)) : Nat) : Int)) hx hb wdX11_toneAt_167 (by omega) ?_
          refine lv_aload hx hb wdX11_toneAt_168 (lv_at hl 1 rfl) ?_
          refine lv_iload_n hx hb wdX11_toneAt_170 rfl (lv_at hl 4 rfl) ?_
          refine r_val (v := zI (((tt + 1 : Nat) : Int) - 1)) (congrArg zI (by omega)) ?_
          refine x_Vi F w (As := [.int (zI (((tt + 1 : Nat) : Int) - 1))]) (rest := [.int (zI (((3 * ((o1.2.1 tt) + 1)) : Nat) : Int))]) (a := (44 + 3 * nn)) (kd_lt (a := (44 + 3 * nn)) (kd_sg (by omega)) (by decide)) (sh_9 (kd_sg (by omega)) _ _) rfl (h_fallsUpTo (a := 44 + 3 * nn) (kd_sg (by omega)) hC1 (m9 := (tt + 1)) (by omega)) wgv_X11_216 whv_X9_fallsUpTo ⟨(Nat.le_of_ble_eq_true rfl), (Nat.le_of_ble_eq_true rfl)⟩ hl.1 rfl (Nat.le_of_ble_eq_true rfl) ⟨Nat.zero_le _, Nat.zero_le _⟩ wdX11_toneAt_171 (fun H locs w => ?_)
          have hfm := fw_b (K := o1.2.1) (tt + 1)
          refine z_isub (z := ((((3 * ((o1.2.1 tt) + 1)) : Nat) : Int) - (((fwS o1.2.1 (tt + 1)).1 : Nat) : Int))) hx hb wdX11_toneAt_174 (by omega) ?_
          exact e_i F w hr hlocks (congrArg zI ((ofA_y hnn).trans (by rw [← ho1]; exact (toneA_4 htt c8).trans (by omega))).symm) wdX11_toneAt_175
        · refine lv_tableOut (tgt := 176) hx hb wdX11_toneAt_62 (by rw [zI_toInt (by omega)]; omega) (by decide) ?_
          refine lv_iconst (v := zI (-1)) hx hb wdX11_toneAt_176 rfl ?_
          exact e_i F w hr hlocks (congrArg zI ((ofA_y hnn).trans (by rw [← ho1]; exact toneA_d htt c8)).symm) wdX11_toneAt_177
      · refine lv_iconst (v := zI 1) hx hb wdX11_toneAt_54 rfl ?_
        refine lv_goto (tgt := 59) hx hb wdX11_toneAt_55 (by decide) ?_
        refine lv_istore (lv' := [(5, .int (zI 1)), (4, .ref (B + (44 + 3 * nn))), (0, .ref (B + 0)), (1, .int (zI (nn : Int))), (2, .int (zI (tt : Int))), (3, .int (zI w9))]) hx hb wdX11_toneAt_59 hl (by decide) rfl (fun ls hl => ?_)
        refine lv_iload_n hx hb wdX11_toneAt_61 rfl (lv_at hl 5 rfl) ?_
        rcases (show (w9 : Int) = 0 ∨ (w9 : Int) = 1 ∨ (w9 : Int) = 2 ∨ (w9 : Int) = 3 ∨ (w9 : Int) = 4 ∨ (w9 ≠ 0 ∧ w9 ≠ 1 ∧ w9 ≠ 2 ∧ w9 ≠ 3 ∧ w9 ≠ 4) by omega) with c15 | c15 | c15 | c15 | c15 | c15
        · refine r_val (v := zI 0) (congrArg zI c15) ?_
          refine lv_tableIn (tgt := 96) hx hb wdX11_toneAt_62 (by decide) (by decide) (off := 34) rfl (by decide) ?_
          refine lv_aload hx hb wdX11_toneAt_96 (lv_at hl 1 rfl) ?_
          refine f_9_4 F w (a := (44 + 3 * nn)) (kd_sg (by omega)) wtb_240 wdX11_toneAt_98 ?_
          refine lv_iload_n hx hb wdX11_toneAt_101 rfl (lv_at hl 4 rfl) ?_
          refine g_iald F w (a := ((44 + 3 * nn) + 1)) (kd_w1 (kd_sg (by omega))) (j := tt) (ix_n (by omega)) (by omega) wdX11_toneAt_102 ?_
          have hK15 := (hKL1 tt (by omega)).1
          refine r_val (v := (zI (((o1.2.1 tt) : Nat) : Int))) (hW1.2.2.2.2.1 tt (by omega)) ?_
          exact e_i F w hr hlocks (congrArg zI ((ofA_y hnn).trans (by rw [← ho1]; exact toneA_0 htt c15)).symm) wdX11_toneAt_103
        · refine r_val (v := zI 1) (congrArg zI c15) ?_
          refine lv_tableIn (tgt := 104) hx hb wdX11_toneAt_62 (by decide) (by decide) (off := 42) rfl (by decide) ?_
          refine lv_iload hx hb wdX11_toneAt_104 (lv_at hl 0 rfl) ?_
          refine z_if_eq (tgt := 114) hx hb (by omega) wdX11_toneAt_106 (by decide) (fun c16 => False.elim (by omega)) (fun c16 => ?_)
          refine lv_bipush (v := zI (-2)) hx hb wdX11_toneAt_109 (by decide) ?_
          refine lv_goto (tgt := 124) hx hb wdX11_toneAt_111 (by decide) ?_
          exact e_i F w hr hlocks (congrArg zI ((ofA_y hnn).trans (by rw [← ho1]; exact (toneA_1 htt c15).trans (orN_0 (by omega)).1)).symm) wdX11_toneAt_124
        · refine r_val (v := zI 2) (congrArg zI c15) ?_
          refine lv_tableIn (tgt := 125) hx hb wdX11_toneAt_62 (by decide) (by decide) (off := 63) rfl (by decide) ?_
          refine lv_iload hx hb wdX11_toneAt_125 (lv_at hl 0 rfl) ?_
          refine z_if_eq (tgt := 135) hx hb (by omega) wdX11_toneAt_127 (by decide) (fun c17 => False.elim (by omega)) (fun c17 => ?_)
          refine lv_bipush (v := zI (-2)) hx hb wdX11_toneAt_130 (by decide) ?_
          refine lv_goto (tgt := 145) hx hb wdX11_toneAt_132 (by decide) ?_
          exact e_i F w hr hlocks (congrArg zI ((ofA_y hnn).trans (by rw [← ho1]; exact (toneA_2 htt c15).trans (orN_0 (by omega)).2)).symm) wdX11_toneAt_145
        · refine r_val (v := zI 3) (congrArg zI c15) ?_
          refine lv_tableIn (tgt := 146) hx hb wdX11_toneAt_62 (by decide) (by decide) (off := 84) rfl (by decide) ?_
          refine lv_aload hx hb wdX11_toneAt_146 (lv_at hl 1 rfl) ?_
          refine f_9_5 F w (a := (44 + 3 * nn)) (kd_sg (by omega)) wtb_230 wdX11_toneAt_148 ?_
          refine lv_iload_n hx hb wdX11_toneAt_151 rfl (lv_at hl 4 rfl) ?_
          refine g_iald F w (a := ((44 + 3 * nn) + 2)) (kd_w2 (kd_sg (by omega))) (j := tt) (ix_n (by omega)) (by omega) wdX11_toneAt_152 ?_
          have hL17 := (hKL1 tt (by omega)).2
          refine r_val (v := (zI (((o1.2.2 tt) : Nat) : Int))) (hW1.2.2.2.2.2 tt (by omega)) ?_
          refine x_Si F w (As := [.int (zI (((o1.2.2 tt) : Nat) : Int))]) (rest := []) (s_bitCountN (m := (o1.2.2 tt)) (by omega)) wgs_X11_234 whs_J6_bitCount_0f7a4 ⟨(Nat.le_of_ble_eq_true rfl), (Nat.le_of_ble_eq_true rfl)⟩ hl.1 rfl (Nat.le_of_ble_eq_true rfl) ⟨Nat.zero_le _, Nat.zero_le _⟩ wdX11_toneAt_153 (fun H locs w => ?_)
          have hp17 := (pop_le (o1.2.2 tt) (by omega)).1
          exact e_i F w hr hlocks (congrArg zI ((ofA_y hnn).trans (by rw [← ho1]; exact toneA_3 htt c15)).symm) wdX11_toneAt_156
        · refine r_val (v := zI 4) (congrArg zI c15) ?_
          refine lv_tableIn (tgt := 157) hx hb wdX11_toneAt_62 (by decide) (by decide) (off := 95) rfl (by decide) ?_
          refine lv_iconst (v := zI 3) hx hb wdX11_toneAt_157 rfl ?_
          refine lv_aload hx hb wdX11_toneAt_158 (lv_at hl 1 rfl) ?_
          refine f_9_4 F w (a := (44 + 3 * nn)) (kd_sg (by omega)) wtb_240 wdX11_toneAt_160 ?_
          refine lv_iload_n hx hb wdX11_toneAt_163 rfl (lv_at hl 4 rfl) ?_
          refine g_iald F w (a := ((44 + 3 * nn) + 1)) (kd_w1 (kd_sg (by omega))) (j := tt) (ix_n (by omega)) (by omega) wdX11_toneAt_164 ?_
          have hK18 := (hKL1 tt (by omega)).1
          refine r_val (v := (zI (((o1.2.1 tt) : Nat) : Int))) (hW1.2.2.2.2.1 tt (by omega)) ?_
          refine lv_iconst (v := zI 1) hx hb wdX11_toneAt_165 rfl ?_
          refine z_iadd (z := ((((o1.2.1 tt) + 1) : Nat) : Int)) hx hb wdX11_toneAt_166 (by omega) ?_
          refine z_imul (z := (((3 * ((o1.2.1 tt) + 1)) : Nat) : Int)) hx hb wdX11_toneAt_167 (by omega) ?_
          refine lv_aload hx hb wdX11_toneAt_168 (lv_at hl 1 rfl) ?_
          refine lv_iload_n hx hb wdX11_toneAt_170 rfl (lv_at hl 4 rfl) ?_
          refine r_val (v := zI (((tt + 1 : Nat) : Int) - 1)) (congrArg zI (by omega)) ?_
          refine x_Vi F w (As := [.int (zI (((tt + 1 : Nat) : Int) - 1))]) (rest := [.int (zI (((3 * ((o1.2.1 tt) + 1)) : Nat) : Int))]) (a := (44 + 3 * nn)) (kd_lt (a := (44 + 3 * nn)) (kd_sg (by omega)) (by decide)) (sh_9 (kd_sg (by omega)) _ _) rfl (h_fallsUpTo (a := 44 + 3 * nn) (kd_sg (by omega)) hC1 (m9 := (tt + 1)) (by omega)) wgv_X11_216 whv_X9_fallsUpTo ⟨(Nat.le_of_ble_eq_true rfl), (Nat.le_of_ble_eq_true rfl)⟩ hl.1 rfl (Nat.le_of_ble_eq_true rfl) ⟨Nat.zero_le _, Nat.zero_le _⟩ wdX11_toneAt_171 (fun H locs w => ?_)
          have hfm := fw_b (K := o1.2.1) (tt + 1)
          refine z_isub (z := ((((3 * ((o1.2.1 tt) + 1)) : Nat) : Int) - (((fwS o1.2.1 (tt + 1)).1 : Nat) : Int))) hx hb wdX11_toneAt_174 (by omega) ?_
          exact e_i F w hr hlocks (congrArg zI ((ofA_y hnn).trans (by rw [← ho1]; exact (toneA_4 htt c15).trans (by omega))).symm) wdX11_toneAt_175
        · refine lv_tableOut (tgt := 176) hx hb wdX11_toneAt_62 (by rw [zI_toInt (by omega)]; omega) (by decide) ?_
          refine lv_iconst (v := zI (-1)) hx hb wdX11_toneAt_176 rfl ?_
          exact e_i F w hr hlocks (congrArg zI ((ofA_y hnn).trans (by rw [← ho1]; exact toneA_d htt c15)).symm) wdX11_toneAt_177
    · rw [hMe] at w
      refine z_if_ne (tgt := 44) hx hb (by omega) wdX11_toneAt_29 (by decide) (fun c20 => False.elim (by omega)) (fun c20 => ?_)
      refine lv_iload_n hx hb wdX11_toneAt_32 rfl (lv_at hl 4 rfl) ?_
      refine lv_iconst (v := zI 4) hx hb wdX11_toneAt_33 rfl ?_
      refine z_icmp_ne (tgt := 42) hx hb (by omega) (by omega) wdX11_toneAt_34 (by decide) (fun c21 => ?_) (fun c21 => ?_)
      · refine lv_iconst (v := zI (-1)) hx hb wdX11_toneAt_42 rfl ?_
        exact e_i F w hr hlocks (congrArg zI ((ofA_y hnn).trans (by rw [← ho1]; exact toneA_nn ntt (by omega))).symm) wdX11_toneAt_43
      · refine lv_bipush (v := zI (-100)) hx hb wdX11_toneAt_37 (by decide) ?_
        refine lv_goto (tgt := 43) hx hb wdX11_toneAt_39 (by decide) ?_
        exact e_i F w hr hlocks (congrArg zI ((ofA_y hnn).trans (by rw [← ho1]; exact toneA_n4 ntt (by omega))).symm) wdX11_toneAt_43
  · rw [hMe] at w
    refine z_if_ne (tgt := 13) hx hb (by omega) wdX11_toneAt_8 (by decide) (fun c22 => False.elim (by omega)) (fun c22 => ?_)
    refine lv_iconst (v := zI (-1)) hx hb wdX11_toneAt_11 rfl ?_
    exact e_i F w hr hlocks (congrArg zI (ofA_n hb1).symm) wdX11_toneAt_12
theorem wdX11_syllableAt_0 : decode cX11_syllableAt 0 = .ok (.aload_n 0, 1) := by decide +kernel
theorem wdX11_syllableAt_1 : decode cX11_syllableAt 1 = .ok (.getfield 35, 3) := by decide +kernel
theorem wdX11_syllableAt_4 : decode cX11_syllableAt 4 = .ok (.iload_n 1, 1) := by decide +kernel
theorem wdX11_syllableAt_5 : decode cX11_syllableAt 5 = .ok (.invokevirtual 193, 3) := by decide +kernel
theorem wdX11_syllableAt_8 : decode cX11_syllableAt 8 = .ok (.ifCond .ne 5, 3) := by decide +kernel
theorem wdX11_syllableAt_13 : decode cX11_syllableAt 13 = .ok (.aload_n 0, 1) := by decide +kernel
theorem wdX11_syllableAt_14 : decode cX11_syllableAt 14 = .ok (.getfield 35, 3) := by decide +kernel
theorem wdX11_syllableAt_17 : decode cX11_syllableAt 17 = .ok (.iload_n 1, 1) := by decide +kernel
theorem wdX11_syllableAt_18 : decode cX11_syllableAt 18 = .ok (.invokevirtual 196, 3) := by decide +kernel
theorem wdX11_syllableAt_21 : decode cX11_syllableAt 21 = .ok (.astore 4, 2) := by decide +kernel
theorem wdX11_syllableAt_23 : decode cX11_syllableAt 23 = .ok (.aload 4, 2) := by decide +kernel
theorem wdX11_syllableAt_25 : decode cX11_syllableAt 25 = .ok (.iload_n 2, 1) := by decide +kernel
theorem wdX11_syllableAt_26 : decode cX11_syllableAt 26 = .ok (.invokevirtual 160, 3) := by decide +kernel
theorem wdX11_syllableAt_29 : decode cX11_syllableAt 29 = .ok (.ifCond .ne 5, 3) := by decide +kernel
theorem wdX11_syllableAt_34 : decode cX11_syllableAt 34 = .ok (.aload 4, 2) := by decide +kernel
theorem wdX11_syllableAt_36 : decode cX11_syllableAt 36 = .ok (.iload_n 2, 1) := by decide +kernel
theorem wdX11_syllableAt_37 : decode cX11_syllableAt 37 = .ok (.invokevirtual 239, 3) := by decide +kernel
theorem wtb_330 : Cond.methodLink "ToneLines" 239 yX9_tonesOf ∈ TB := tbm (tc4 (List.mem_of_getElem? (i := 164) rfl)) rfl
theorem wgv_X11_239 : GoodIn TB (wsV RX11 239 RX9 yX9_tonesOf (cw yX9_tonesOf cX9_tonesOf 4 (some .int))) := goodIn_4 wtb_330 wtb_43 wtb_44 wtb_3 wgc_X9_tonesOf
theorem wdX11_syllableAt_40 : decode cX11_syllableAt 40 = .ok (.istore 5, 2) := by decide +kernel
theorem wdX11_syllableAt_42 : decode cX11_syllableAt 42 = .ok (.iload_n 3, 1) := by decide +kernel
theorem wdX11_syllableAt_43 : decode cX11_syllableAt 43 = .ok (.tableswitch 112 0 5 #[37, 52, 67, 73, 89, 105], 37) := by decide +kernel
theorem wdX11_syllableAt_80 : decode cX11_syllableAt 80 = .ok (.aload 4, 2) := by decide +kernel
theorem wdX11_syllableAt_82 : decode cX11_syllableAt 82 = .ok (.iload_n 2, 1) := by decide +kernel
theorem wdX11_syllableAt_83 : decode cX11_syllableAt 83 = .ok (.invokevirtual 163, 3) := by decide +kernel
theorem wdX11_syllableAt_86 : decode cX11_syllableAt 86 = .ok (.ifCond .eq 7, 3) := by decide +kernel
theorem wdX11_syllableAt_89 : decode cX11_syllableAt 89 = .ok (.iconst 1, 1) := by decide +kernel
theorem wdX11_syllableAt_90 : decode cX11_syllableAt 90 = .ok (.goto 4, 3) := by decide +kernel
theorem wdX11_syllableAt_94 : decode cX11_syllableAt 94 = .ok (.ireturn, 1) := by decide +kernel
theorem wdX11_syllableAt_93 : decode cX11_syllableAt 93 = .ok (.iconst 0, 1) := by decide +kernel
theorem wdX11_syllableAt_95 : decode cX11_syllableAt 95 = .ok (.aload 4, 2) := by decide +kernel
theorem wdX11_syllableAt_97 : decode cX11_syllableAt 97 = .ok (.iload_n 2, 1) := by decide +kernel
theorem wdX11_syllableAt_98 : decode cX11_syllableAt 98 = .ok (.invokevirtual 166, 3) := by decide +kernel
theorem wdX11_syllableAt_101 : decode cX11_syllableAt 101 = .ok (.ifCond .eq 7, 3) := by decide +kernel
theorem wdX11_syllableAt_104 : decode cX11_syllableAt 104 = .ok (.iconst 1, 1) := by decide +kernel
theorem wdX11_syllableAt_105 : decode cX11_syllableAt 105 = .ok (.goto 4, 3) := by decide +kernel
theorem wdX11_syllableAt_109 : decode cX11_syllableAt 109 = .ok (.ireturn, 1) := by decide +kernel
theorem wdX11_syllableAt_108 : decode cX11_syllableAt 108 = .ok (.iconst 0, 1) := by decide +kernel
theorem wdX11_syllableAt_110 : decode cX11_syllableAt 110 = .ok (.iload 5, 2) := by decide +kernel
theorem wdX11_syllableAt_112 : decode cX11_syllableAt 112 = .ok (.invokestatic 234, 3) := by decide +kernel
theorem wdX11_syllableAt_115 : decode cX11_syllableAt 115 = .ok (.ireturn, 1) := by decide +kernel
theorem wdX11_syllableAt_116 : decode cX11_syllableAt 116 = .ok (.iload 5, 2) := by decide +kernel
theorem wdX11_syllableAt_118 : decode cX11_syllableAt 118 = .ok (.ifCond .ne 8, 3) := by decide +kernel
theorem wdX11_syllableAt_126 : decode cX11_syllableAt 126 = .ok (.iload 5, 2) := by decide +kernel
theorem wdX11_syllableAt_128 : decode cX11_syllableAt 128 = .ok (.invokestatic 228, 3) := by decide +kernel
theorem wdX11_syllableAt_131 : decode cX11_syllableAt 131 = .ok (.ireturn, 1) := by decide +kernel
theorem wdX11_syllableAt_121 : decode cX11_syllableAt 121 = .ok (.bipush (-2), 2) := by decide +kernel
theorem wdX11_syllableAt_123 : decode cX11_syllableAt 123 = .ok (.goto 8, 3) := by decide +kernel
theorem wdX11_syllableAt_132 : decode cX11_syllableAt 132 = .ok (.iload 5, 2) := by decide +kernel
theorem wdX11_syllableAt_134 : decode cX11_syllableAt 134 = .ok (.ifCond .ne 8, 3) := by decide +kernel
theorem wdX11_syllableAt_142 : decode cX11_syllableAt 142 = .ok (.iload 5, 2) := by decide +kernel
theorem wdX11_syllableAt_144 : decode cX11_syllableAt 144 = .ok (.invokestatic 231, 3) := by decide +kernel
theorem wdX11_syllableAt_147 : decode cX11_syllableAt 147 = .ok (.ireturn, 1) := by decide +kernel
theorem wdX11_syllableAt_137 : decode cX11_syllableAt 137 = .ok (.bipush (-2), 2) := by decide +kernel
theorem wdX11_syllableAt_139 : decode cX11_syllableAt 139 = .ok (.goto 8, 3) := by decide +kernel
theorem wdX11_syllableAt_148 : decode cX11_syllableAt 148 = .ok (.aload 4, 2) := by decide +kernel
theorem wdX11_syllableAt_150 : decode cX11_syllableAt 150 = .ok (.iload_n 2, 1) := by decide +kernel
theorem wdX11_syllableAt_151 : decode cX11_syllableAt 151 = .ok (.invokevirtual 242, 3) := by decide +kernel
theorem wtk_X9_readOf : Cond.code yX9_readOf cX9_readOf 4 (some .int) ∈ TB := tbm (tc4 (List.mem_of_getElem? (i := 168) rfl)) rfl
theorem wgc_X9_readOf : GoodIn TB (cw yX9_readOf cX9_readOf 4 (some .int)) := goodIn_c2 wtk_X9_readOf
theorem wtb_331 : Cond.methodLink "ToneLines" 242 yX9_readOf ∈ TB := tbm (tc4 (List.mem_of_getElem? (i := 165) rfl)) rfl
theorem wtb_332 : Cond.instanceMethod yX9_readOf ∈ TB := tbm (tc4 (List.mem_of_getElem? (i := 166) rfl)) rfl
theorem wtb_333 : Cond.selects "ToneLines$Word" yX9_readOf yX9_readOf ∈ TB := tbm (tc4 (List.mem_of_getElem? (i := 167) rfl)) rfl
theorem wgv_X11_242 : GoodIn TB (wsV RX11 242 RX9 yX9_readOf (cw yX9_readOf cX9_readOf 4 (some .int))) := goodIn_4 wtb_331 wtb_332 wtb_333 wtb_3 wgc_X9_readOf
theorem whv_X9_readOf : yX9_readOf.cls = RX9 ∧ yX9_readOf.cls ≠ "java/lang/invoke/MethodHandle" ∧ yX9_readOf.cls ≠ "java/lang/invoke/VarHandle" ∧ (parseMethodDescriptor yX9_readOf.desc).map (fun d => d.parameters.length) = some 1 := by decide +kernel
theorem wdX11_syllableAt_154 : decode cX11_syllableAt 154 = .ok (.ireturn, 1) := by decide +kernel
theorem wdX11_syllableAt_155 : decode cX11_syllableAt 155 = .ok (.iconst (-1), 1) := by decide +kernel
theorem wdX11_syllableAt_156 : decode cX11_syllableAt 156 = .ok (.ireturn, 1) := by decide +kernel
theorem wdX11_syllableAt_32 : decode cX11_syllableAt 32 = .ok (.iconst (-1), 1) := by decide +kernel
theorem wdX11_syllableAt_33 : decode cX11_syllableAt 33 = .ok (.ireturn, 1) := by decide +kernel
theorem wdX11_syllableAt_11 : decode cX11_syllableAt 11 = .ok (.iconst (-1), 1) := by decide +kernel
theorem wdX11_syllableAt_12 : decode cX11_syllableAt 12 = .ok (.ireturn, 1) := by decide +kernel
set_option maxRecDepth 4000 in
theorem h_syllableAt {l : Launch} {D : va_G} {B : Nat} {cy : Nat → ClassId} {M : Mem} {Ps : Nat → Nat → Int} {mr rd k q hv ed : Nat} {o : Wo} {Hs : Nat → Fw} (hS : CS M Ps mr (q, hv, ed, o) rd Hs k) {n9 u9 w9 : Int} (hn9 : rg n9) (hu9 : rg u9) (hw9 : rg w9) : Ci l D B cy yX11_syllableAt cX11_syllableAt 6 (some .int) 6 155 [.ref (B + 0), .int (zI n9), .int (zI u9), .int (zI w9)] M (fun r M1 => r = zI (ofA Ps mr (q, hv, ed, o) n9 (sylA u9 w9))) := by
  refine s_any (by decide) (Nat.le_of_ble_eq_true rfl) ?_
  intro p e s m below meth c ls F hr hlocks w hl
  have F : CallFix p m c cX11_syllableAt 6 s _ TB RX11 := F
  have hx := F.1
  have hb := F.2.1
  have hl : lv_has ls 6 [(0, .ref (B + 0)), (1, .int (zI n9)), (2, .int (zI u9)), (3, .int (zI w9))] := hl
  have hm8 := hS.1.2.1
  have hC : CW M 44 q hv ed o := hS.t
  have hW : isW M 44 o.1 q hv ed o.2.1 o.2.2 := hC.1
  have hwf := hC.wf
  have hKL := hwf.2.2.2.2
  have hn12 := hwf.1
  have hq12 := hwf.2.1
  have hhv := hwf.2.2.1
  have hed := hwf.2.2.2.1
  refine lv_aload_n hx hb wdX11_syllableAt_0 rfl (lv_at hl 0 rfl) ?_
  refine f_11_3 F w (a := 0) rfl wtb_207 wdX11_syllableAt_1 ?_
  refine lv_iload_n hx hb wdX11_syllableAt_4 rfl (lv_at hl 1 rfl) ?_
  refine k_Vi F w (As := [.int (zI n9)]) (rest := []) (a := 22) (kd_lt (a := 22) (show kd 22 = (0, 0, 0) from rfl) (by decide)) (sh_0 rfl _ _) rfl (g_covers hS (n9 := n9) (by omega)) wgv_X11_193 whv_X0_covers ⟨(Nat.le_of_ble_eq_true rfl), (Nat.le_of_ble_eq_true rfl)⟩ hl.1 rfl (Nat.le_of_ble_eq_true rfl) ⟨Nat.zero_le _, Nat.zero_le _⟩ wdX11_syllableAt_5 (fun r Ma2 H locs hp w => ?_)
  rcases hp with ⟨⟨hb1, rfl⟩ | ⟨hb1, rfl⟩, hMe⟩
  · rw [hMe] at w
    obtain ⟨nn, rfl⟩ : ∃ n8 : Nat, n9 = (n8 : Int) := ⟨Int.toNat n9, by omega⟩
    have hnn : nn ≤ mr := by omega
    refine z_if_ne (tgt := 13) hx hb (by omega) wdX11_syllableAt_8 (by decide) (fun c3 => ?_) (fun c3 => False.elim (by omega))
    refine lv_aload_n hx hb wdX11_syllableAt_13 rfl (lv_at hl 0 rfl) ?_
    refine f_11_3 F w (a := 0) rfl wtb_207 wdX11_syllableAt_14 ?_
    refine lv_iload_n hx hb wdX11_syllableAt_17 rfl (lv_at hl 1 rfl) ?_
    refine k_Vr F w (As := [.int (zI (nn : Int))]) (rest := []) (a := 22) (kd_lt (a := 22) (show kd 22 = (0, 0, 0) from rfl) (by decide)) (sh_0 rfl _ _) rfl (g_stageOf hS (n9 := nn) (by omega)) wgv_X11_196 whv_X0_stageOf ⟨(Nat.le_of_ble_eq_true rfl), (Nat.le_of_ble_eq_true rfl)⟩ hl.1 rfl (Nat.le_of_ble_eq_true rfl) ⟨Nat.zero_le _, Nat.zero_le _⟩ wdX11_syllableAt_18 (fun r Ma4 H locs hp w => ?_)
    rcases hp with ⟨rfl, rd1, hnr, _, hS1, _⟩
    have hC9 := hS1.2.1.2.2.1 nn (by omega)
    obtain ⟨o1, ho1⟩ : ∃ o1, o1 = sg9 Ps (q, hv, ed, o) nn := ⟨_, rfl⟩
    have hC1 : CW Ma4 (44 + 3 * nn) q hv ed o1 := by rw [ho1]; exact hC9
    have hW1 := hC1.1
    have hwf1 := hC1.wf
    have hKL1 := hwf1.2.2.2.2
    have hn1 := hwf1.1
    refine lv_astore (lv' := [(4, .ref (B + (44 + 3 * nn))), (0, .ref (B + 0)), (1, .int (zI (nn : Int))), (2, .int (zI u9)), (3, .int (zI w9))]) hx hb wdX11_syllableAt_21 hl (by decide) rfl (fun ls hl => ?_)
    refine lv_aload hx hb wdX11_syllableAt_23 (lv_at hl 0 rfl) ?_
    refine lv_iload_n hx hb wdX11_syllableAt_25 rfl (lv_at hl 3 rfl) ?_
    refine k_Vi F w (As := [.int (zI u9)]) (rest := []) (a := (44 + 3 * nn)) (kd_lt (a := (44 + 3 * nn)) (kd_sg (by omega)) (by decide)) (sh_9 (kd_sg (by omega)) _ _) rfl (s_X9_hasSyllable (a := 44 + 3 * nn) (kd_sg (by omega)) hW1 hwf1 (by omega)) wgv_X11_160 whv_X9_hasSyllable ⟨(Nat.le_of_ble_eq_true rfl), (Nat.le_of_ble_eq_true rfl)⟩ hl.1 rfl (Nat.le_of_ble_eq_true rfl) ⟨Nat.zero_le _, Nat.zero_le _⟩ wdX11_syllableAt_26 (fun r Ma5 H locs hp w => ?_)
    rcases hp with ⟨⟨uu, rfl, huu, rfl⟩ | ⟨nuu, rfl⟩, hMe⟩
    · rw [hMe] at w
      refine z_if_ne (tgt := 34) hx hb (by omega) wdX11_syllableAt_29 (by decide) (fun c6 => ?_) (fun c6 => False.elim (by omega))
      refine lv_aload hx hb wdX11_syllableAt_34 (lv_at hl 0 rfl) ?_
      refine lv_iload_n hx hb wdX11_syllableAt_36 rfl (lv_at hl 3 rfl) ?_
      refine x_Vi F w (As := [.int (zI (uu : Int))]) (rest := []) (a := (44 + 3 * nn)) (kd_lt (a := (44 + 3 * nn)) (kd_sg (by omega)) (by decide)) (sh_9 (kd_sg (by omega)) _ _) rfl (s_X9_tonesOf (a := 44 + 3 * nn) (kd_sg (by omega)) hW1 hwf1 (j := uu) (by omega)) wgv_X11_239 whv_X9_tonesOf ⟨(Nat.le_of_ble_eq_true rfl), (Nat.le_of_ble_eq_true rfl)⟩ hl.1 rfl (Nat.le_of_ble_eq_true rfl) ⟨Nat.zero_le _, Nat.zero_le _⟩ wdX11_syllableAt_37 (fun H locs w => ?_)
      have hm6 := tmk_lt (L := o1.2.2) (j := uu) (n := o1.1) (by omega)
      refine lv_istore (lv' := [(5, .int (zI (((tmk o1.2.2 uu o1.1) : Nat) : Int))), (4, .ref (B + (44 + 3 * nn))), (0, .ref (B + 0)), (1, .int (zI (nn : Int))), (2, .int (zI (uu : Int))), (3, .int (zI w9))]) hx hb wdX11_syllableAt_40 hl (by decide) rfl (fun ls hl => ?_)
      refine lv_iload_n hx hb wdX11_syllableAt_42 rfl (lv_at hl 5 rfl) ?_
      rcases (show (w9 : Int) = 0 ∨ (w9 : Int) = 1 ∨ (w9 : Int) = 2 ∨ (w9 : Int) = 3 ∨ (w9 : Int) = 4 ∨ (w9 : Int) = 5 ∨ (w9 ≠ 0 ∧ w9 ≠ 1 ∧ w9 ≠ 2 ∧ w9 ≠ 3 ∧ w9 ≠ 4 ∧ w9 ≠ 5) by omega) with c8 | c8 | c8 | c8 | c8 | c8 | c8
      · refine r_val (v := zI 0) (congrArg zI c8) ?_
        refine lv_tableIn (tgt := 80) hx hb wdX11_syllableAt_43 (by decide) (by decide) (off := 37) rfl (by decide) ?_
        refine lv_aload hx hb wdX11_syllableAt_80 (lv_at hl 1 rfl) ?_
        refine lv_iload_n hx hb wdX11_syllableAt_82 rfl (lv_at hl 4 rfl) ?_
        refine k_Vi F w (As := [.int (zI (uu : Int))]) (rest := []) (a := (44 + 3 * nn)) (kd_lt (a := (44 + 3 * nn)) (kd_sg (by omega)) (by decide)) (sh_9 (kd_sg (by omega)) _ _) rfl (s_X9_isHeavy (a := 44 + 3 * nn) (kd_sg (by omega)) hW1 hwf1 (by omega)) wgv_X11_163 whv_X9_isHeavy ⟨(Nat.le_of_ble_eq_true rfl), (Nat.le_of_ble_eq_true rfl)⟩ hl.1 rfl (Nat.le_of_ble_eq_true rfl) ⟨Nat.zero_le _, Nat.zero_le _⟩ wdX11_syllableAt_83 (fun r Ma9 H locs hp w => ?_)
        rcases hp with ⟨⟨k7, e7, h7, b7, rfl⟩ | ⟨b7, rfl⟩, hMe⟩
        · obtain rfl : uu = k7 := by omega
          rw [hMe] at w
          refine z_if_eq (tgt := 93) hx hb (by omega) wdX11_syllableAt_86 (by decide) (fun c10 => False.elim (by omega)) (fun c10 => ?_)
          refine lv_iconst (v := zI 1) hx hb wdX11_syllableAt_89 rfl ?_
          refine lv_goto (tgt := 94) hx hb wdX11_syllableAt_90 (by decide) ?_
          exact e_i F w hr hlocks (congrArg zI ((ofA_y hnn).trans (by rw [← ho1]; exact (sylA_0 huu c8).trans (congrArg _ (tb_h b7 rfl)))).symm) wdX11_syllableAt_94
        · replace b7 : ¬ hv.testBit uu = true := fun h8 => b7 ⟨uu, rfl, huu, h8⟩
          rw [hMe] at w
          refine z_if_eq (tgt := 93) hx hb (by omega) wdX11_syllableAt_86 (by decide) (fun c11 => ?_) (fun c11 => False.elim (by omega))
          refine lv_iconst (v := zI 0) hx hb wdX11_syllableAt_93 rfl ?_
          exact e_i F w hr hlocks (congrArg zI ((ofA_y hnn).trans (by rw [← ho1]; exact (sylA_0 huu c8).trans (congrArg _ (tb_n b7 rfl)))).symm) wdX11_syllableAt_94
      · refine r_val (v := zI 1) (congrArg zI c8) ?_
        refine lv_tableIn (tgt := 95) hx hb wdX11_syllableAt_43 (by decide) (by decide) (off := 52) rfl (by decide) ?_
        refine lv_aload hx hb wdX11_syllableAt_95 (lv_at hl 1 rfl) ?_
        refine lv_iload_n hx hb wdX11_syllableAt_97 rfl (lv_at hl 4 rfl) ?_
        refine k_Vi F w (As := [.int (zI (uu : Int))]) (rest := []) (a := (44 + 3 * nn)) (kd_lt (a := (44 + 3 * nn)) (kd_sg (by omega)) (by decide)) (sh_9 (kd_sg (by omega)) _ _) rfl (s_X9_hasEdge (a := 44 + 3 * nn) (kd_sg (by omega)) hW1 hwf1 (by omega)) wgv_X11_166 whv_X9_hasEdge ⟨(Nat.le_of_ble_eq_true rfl), (Nat.le_of_ble_eq_true rfl)⟩ hl.1 rfl (Nat.le_of_ble_eq_true rfl) ⟨Nat.zero_le _, Nat.zero_le _⟩ wdX11_syllableAt_98 (fun r Ma12 H locs hp w => ?_)
        rcases hp with ⟨⟨k8, e8, h8, b8, rfl⟩ | ⟨b8, rfl⟩, hMe⟩
        · obtain rfl : uu = k8 := by omega
          rw [hMe] at w
          refine z_if_eq (tgt := 108) hx hb (by omega) wdX11_syllableAt_101 (by decide) (fun c13 => False.elim (by omega)) (fun c13 => ?_)
          refine lv_iconst (v := zI 1) hx hb wdX11_syllableAt_104 rfl ?_
          refine lv_goto (tgt := 109) hx hb wdX11_syllableAt_105 (by decide) ?_
          exact e_i F w hr hlocks (congrArg zI ((ofA_y hnn).trans (by rw [← ho1]; exact (sylA_1 huu c8).trans (congrArg _ (tb_h b8 rfl)))).symm) wdX11_syllableAt_109
        · replace b8 : ¬ ed.testBit uu = true := fun h8 => b8 ⟨uu, rfl, huu, h8⟩
          rw [hMe] at w
          refine z_if_eq (tgt := 108) hx hb (by omega) wdX11_syllableAt_101 (by decide) (fun c14 => ?_) (fun c14 => False.elim (by omega))
          refine lv_iconst (v := zI 0) hx hb wdX11_syllableAt_108 rfl ?_
          exact e_i F w hr hlocks (congrArg zI ((ofA_y hnn).trans (by rw [← ho1]; exact (sylA_1 huu c8).trans (congrArg _ (tb_n b8 rfl)))).symm) wdX11_syllableAt_109
      · refine r_val (v := zI 2) (congrArg zI c8) ?_
        refine lv_tableIn (tgt := 110) hx hb wdX11_syllableAt_43 (by decide) (by decide) (off := 67) rfl (by decide) ?_
        refine lv_iload hx hb wdX11_syllableAt_110 (lv_at hl 0 rfl) ?_
        refine x_Si F w (As := [.int (zI (((tmk o1.2.2 uu o1.1) : Nat) : Int))]) (rest := []) (s_bitCountN (m := (tmk o1.2.2 uu o1.1)) (by omega)) wgs_X11_234 whs_J6_bitCount_0f7a4 ⟨(Nat.le_of_ble_eq_true rfl), (Nat.le_of_ble_eq_true rfl)⟩ hl.1 rfl (Nat.le_of_ble_eq_true rfl) ⟨Nat.zero_le _, Nat.zero_le _⟩ wdX11_syllableAt_112 (fun H locs w => ?_)
        have hp14 := (pop_le (tmk o1.2.2 uu o1.1) (by omega)).1
        exact e_i F w hr hlocks (congrArg zI ((ofA_y hnn).trans (by rw [← ho1]; exact sylA_2 huu c8)).symm) wdX11_syllableAt_115
      · refine r_val (v := zI 3) (congrArg zI c8) ?_
        refine lv_tableIn (tgt := 116) hx hb wdX11_syllableAt_43 (by decide) (by decide) (off := 73) rfl (by decide) ?_
        refine lv_iload hx hb wdX11_syllableAt_116 (lv_at hl 0 rfl) ?_
        refine z_if_ne (tgt := 126) hx hb (by omega) wdX11_syllableAt_118 (by decide) (fun c16 => ?_) (fun c16 => ?_)
        · refine lv_iload hx hb wdX11_syllableAt_126 (lv_at hl 0 rfl) ?_
          refine x_Si F w (As := [.int (zI (((tmk o1.2.2 uu o1.1) : Nat) : Int))]) (rest := []) (s_X11_lowest (m9 := (tmk o1.2.2 uu o1.1)) (by omega)) wgs_X11_228 whs_X11_lowest ⟨(Nat.le_of_ble_eq_true rfl), (Nat.le_of_ble_eq_true rfl)⟩ hl.1 rfl (Nat.le_of_ble_eq_true rfl) ⟨Nat.zero_le _, Nat.zero_le _⟩ wdX11_syllableAt_128 (fun H locs w => ?_)
          have hw16 := lowI_rg (tmk o1.2.2 uu o1.1) (by omega)
          exact e_i F w hr hlocks (congrArg zI ((ofA_y hnn).trans (by rw [← ho1]; exact (sylA_3 huu c8).trans (orN_z (by omega)).1)).symm) wdX11_syllableAt_131
        · refine lv_bipush (v := zI (-2)) hx hb wdX11_syllableAt_121 (by decide) ?_
          refine lv_goto (tgt := 131) hx hb wdX11_syllableAt_123 (by decide) ?_
          exact e_i F w hr hlocks (congrArg zI ((ofA_y hnn).trans (by rw [← ho1]; exact (sylA_3 huu c8).trans (orN_0 (by omega)).1)).symm) wdX11_syllableAt_131
      · refine r_val (v := zI 4) (congrArg zI c8) ?_
        refine lv_tableIn (tgt := 132) hx hb wdX11_syllableAt_43 (by decide) (by decide) (off := 89) rfl (by decide) ?_
        refine lv_iload hx hb wdX11_syllableAt_132 (lv_at hl 0 rfl) ?_
        refine z_if_ne (tgt := 142) hx hb (by omega) wdX11_syllableAt_134 (by decide) (fun c18 => ?_) (fun c18 => ?_)
        · refine lv_iload hx hb wdX11_syllableAt_142 (lv_at hl 0 rfl) ?_
          refine x_Si F w (As := [.int (zI (((tmk o1.2.2 uu o1.1) : Nat) : Int))]) (rest := []) (s_X11_highest (m9 := (tmk o1.2.2 uu o1.1)) (by omega)) wgs_X11_231 whs_X11_highest ⟨(Nat.le_of_ble_eq_true rfl), (Nat.le_of_ble_eq_true rfl)⟩ hl.1 rfl (Nat.le_of_ble_eq_true rfl) ⟨Nat.zero_le _, Nat.zero_le _⟩ wdX11_syllableAt_144 (fun H locs w => ?_)
          have hw18 := higI_rg (tmk o1.2.2 uu o1.1) (by omega)
          exact e_i F w hr hlocks (congrArg zI ((ofA_y hnn).trans (by rw [← ho1]; exact (sylA_4 huu c8).trans (orN_z (by omega)).2)).symm) wdX11_syllableAt_147
        · refine lv_bipush (v := zI (-2)) hx hb wdX11_syllableAt_137 (by decide) ?_
          refine lv_goto (tgt := 147) hx hb wdX11_syllableAt_139 (by decide) ?_
          exact e_i F w hr hlocks (congrArg zI ((ofA_y hnn).trans (by rw [← ho1]; exact (sylA_4 huu c8).trans (orN_0 (by omega)).2)).symm) wdX11_syllableAt_147
      · refine r_val (v := zI 5) (congrArg zI c8) ?_
        refine lv_tableIn (tgt := 148) hx hb wdX11_syllableAt_43 (by decide) (by decide) (off := 105) rfl (by decide) ?_
        refine lv_aload hx hb wdX11_syllableAt_148 (lv_at hl 1 rfl) ?_
        refine lv_iload_n hx hb wdX11_syllableAt_150 rfl (lv_at hl 4 rfl) ?_
        refine x_Vi F w (As := [.int (zI (uu : Int))]) (rest := []) (a := (44 + 3 * nn)) (kd_lt (a := (44 + 3 * nn)) (kd_sg (by omega)) (by decide)) (sh_9 (kd_sg (by omega)) _ _) rfl (h_readOf (a := 44 + 3 * nn) (kd_sg (by omega)) hC1 (j9 := uu) (by omega)) wgv_X11_242 whv_X9_readOf ⟨(Nat.le_of_ble_eq_true rfl), (Nat.le_of_ble_eq_true rfl)⟩ hl.1 rfl (Nat.le_of_ble_eq_true rfl) ⟨Nat.zero_le _, Nat.zero_le _⟩ wdX11_syllableAt_151 (fun H locs w => ?_)
        have hrw := rdW_b (s := uu) hC1.2.1
        exact e_i F w hr hlocks (congrArg zI ((ofA_y hnn).trans (by rw [← ho1]; exact sylA_5 huu c8)).symm) wdX11_syllableAt_154
      · refine lv_tableOut (tgt := 155) hx hb wdX11_syllableAt_43 (by rw [zI_toInt (by omega)]; omega) (by decide) ?_
        refine lv_iconst (v := zI (-1)) hx hb wdX11_syllableAt_155 rfl ?_
        exact e_i F w hr hlocks (congrArg zI ((ofA_y hnn).trans (by rw [← ho1]; exact sylA_d huu c8)).symm) wdX11_syllableAt_156
    · rw [hMe] at w
      refine z_if_ne (tgt := 34) hx hb (by omega) wdX11_syllableAt_29 (by decide) (fun c21 => False.elim (by omega)) (fun c21 => ?_)
      refine lv_iconst (v := zI (-1)) hx hb wdX11_syllableAt_32 rfl ?_
      exact e_i F w hr hlocks (congrArg zI ((ofA_y hnn).trans (by rw [← ho1]; exact sylA_n nuu)).symm) wdX11_syllableAt_33
  · rw [hMe] at w
    refine z_if_ne (tgt := 13) hx hb (by omega) wdX11_syllableAt_8 (by decide) (fun c22 => False.elim (by omega)) (fun c22 => ?_)
    refine lv_iconst (v := zI (-1)) hx hb wdX11_syllableAt_11 rfl ?_
    exact e_i F w hr hlocks (congrArg zI (ofA_n hb1).symm) wdX11_syllableAt_12
theorem wdX11_linesOf_0 : decode cX11_linesOf 0 = .ok (.aload_n 0, 1) := by decide +kernel
theorem wdX11_linesOf_1 : decode cX11_linesOf 1 = .ok (.getfield 35, 3) := by decide +kernel
theorem wdX11_linesOf_4 : decode cX11_linesOf 4 = .ok (.iload_n 1, 1) := by decide +kernel
theorem wdX11_linesOf_5 : decode cX11_linesOf 5 = .ok (.invokevirtual 193, 3) := by decide +kernel
theorem wdX11_linesOf_8 : decode cX11_linesOf 8 = .ok (.ifCond .ne 5, 3) := by decide +kernel
theorem wdX11_linesOf_13 : decode cX11_linesOf 13 = .ok (.aload_n 0, 1) := by decide +kernel
theorem wdX11_linesOf_14 : decode cX11_linesOf 14 = .ok (.getfield 35, 3) := by decide +kernel
theorem wdX11_linesOf_17 : decode cX11_linesOf 17 = .ok (.iload_n 1, 1) := by decide +kernel
theorem wdX11_linesOf_18 : decode cX11_linesOf 18 = .ok (.invokevirtual 196, 3) := by decide +kernel
theorem wdX11_linesOf_21 : decode cX11_linesOf 21 = .ok (.astore_n 3, 1) := by decide +kernel
theorem wdX11_linesOf_22 : decode cX11_linesOf 22 = .ok (.aload_n 3, 1) := by decide +kernel
theorem wdX11_linesOf_23 : decode cX11_linesOf 23 = .ok (.iload_n 2, 1) := by decide +kernel
theorem wdX11_linesOf_24 : decode cX11_linesOf 24 = .ok (.invokevirtual 141, 3) := by decide +kernel
theorem wdX11_linesOf_27 : decode cX11_linesOf 27 = .ok (.ifCond .eq 12, 3) := by decide +kernel
theorem wdX11_linesOf_30 : decode cX11_linesOf 30 = .ok (.aload_n 3, 1) := by decide +kernel
theorem wdX11_linesOf_31 : decode cX11_linesOf 31 = .ok (.getfield 126, 3) := by decide +kernel
theorem wdX11_linesOf_34 : decode cX11_linesOf 34 = .ok (.iload_n 2, 1) := by decide +kernel
theorem wdX11_linesOf_35 : decode cX11_linesOf 35 = .ok (.iaload, 1) := by decide +kernel
theorem wdX11_linesOf_36 : decode cX11_linesOf 36 = .ok (.goto 4, 3) := by decide +kernel
theorem wdX11_linesOf_40 : decode cX11_linesOf 40 = .ok (.ireturn, 1) := by decide +kernel
theorem wdX11_linesOf_39 : decode cX11_linesOf 39 = .ok (.iconst (-1), 1) := by decide +kernel
theorem wdX11_linesOf_11 : decode cX11_linesOf 11 = .ok (.iconst (-1), 1) := by decide +kernel
theorem wdX11_linesOf_12 : decode cX11_linesOf 12 = .ok (.ireturn, 1) := by decide +kernel
set_option maxRecDepth 4000 in
theorem h_linesOf {l : Launch} {D : va_G} {B : Nat} {cy : Nat → ClassId} {M : Mem} {Ps : Nat → Nat → Int} {mr rd k q hv ed : Nat} {o : Wo} {Hs : Nat → Fw} (hS : CS M Ps mr (q, hv, ed, o) rd Hs k) {n9 t9 : Int} (hn9 : rg n9) (ht9 : rg t9) : Ci l D B cy yX11_linesOf cX11_linesOf 4 (some .int) 6 155 [.ref (B + 0), .int (zI n9), .int (zI t9)] M (fun r M1 => r = zI (ofA Ps mr (q, hv, ed, o) n9 (linA t9))) := by
  refine s_any (by decide) (Nat.le_of_ble_eq_true rfl) ?_
  intro p e s m below meth c ls F hr hlocks w hl
  have F : CallFix p m c cX11_linesOf 4 s _ TB RX11 := F
  have hx := F.1
  have hb := F.2.1
  have hl : lv_has ls 4 [(0, .ref (B + 0)), (1, .int (zI n9)), (2, .int (zI t9))] := hl
  have hm8 := hS.1.2.1
  have hC : CW M 44 q hv ed o := hS.t
  have hW : isW M 44 o.1 q hv ed o.2.1 o.2.2 := hC.1
  have hwf := hC.wf
  have hKL := hwf.2.2.2.2
  have hn12 := hwf.1
  have hq12 := hwf.2.1
  have hhv := hwf.2.2.1
  have hed := hwf.2.2.2.1
  refine lv_aload_n hx hb wdX11_linesOf_0 rfl (lv_at hl 0 rfl) ?_
  refine f_11_3 F w (a := 0) rfl wtb_207 wdX11_linesOf_1 ?_
  refine lv_iload_n hx hb wdX11_linesOf_4 rfl (lv_at hl 1 rfl) ?_
  refine k_Vi F w (As := [.int (zI n9)]) (rest := []) (a := 22) (kd_lt (a := 22) (show kd 22 = (0, 0, 0) from rfl) (by decide)) (sh_0 rfl _ _) rfl (g_covers hS (n9 := n9) (by omega)) wgv_X11_193 whv_X0_covers ⟨(Nat.le_of_ble_eq_true rfl), (Nat.le_of_ble_eq_true rfl)⟩ hl.1 rfl (Nat.le_of_ble_eq_true rfl) ⟨Nat.zero_le _, Nat.zero_le _⟩ wdX11_linesOf_5 (fun r Ma2 H locs hp w => ?_)
  rcases hp with ⟨⟨hb1, rfl⟩ | ⟨hb1, rfl⟩, hMe⟩
  · rw [hMe] at w
    obtain ⟨nn, rfl⟩ : ∃ n8 : Nat, n9 = (n8 : Int) := ⟨Int.toNat n9, by omega⟩
    have hnn : nn ≤ mr := by omega
    refine z_if_ne (tgt := 13) hx hb (by omega) wdX11_linesOf_8 (by decide) (fun c3 => ?_) (fun c3 => False.elim (by omega))
    refine lv_aload_n hx hb wdX11_linesOf_13 rfl (lv_at hl 0 rfl) ?_
    refine f_11_3 F w (a := 0) rfl wtb_207 wdX11_linesOf_14 ?_
    refine lv_iload_n hx hb wdX11_linesOf_17 rfl (lv_at hl 1 rfl) ?_
    refine k_Vr F w (As := [.int (zI (nn : Int))]) (rest := []) (a := 22) (kd_lt (a := 22) (show kd 22 = (0, 0, 0) from rfl) (by decide)) (sh_0 rfl _ _) rfl (g_stageOf hS (n9 := nn) (by omega)) wgv_X11_196 whv_X0_stageOf ⟨(Nat.le_of_ble_eq_true rfl), (Nat.le_of_ble_eq_true rfl)⟩ hl.1 rfl (Nat.le_of_ble_eq_true rfl) ⟨Nat.zero_le _, Nat.zero_le _⟩ wdX11_linesOf_18 (fun r Ma4 H locs hp w => ?_)
    rcases hp with ⟨rfl, rd1, hnr, _, hS1, _⟩
    have hC9 := hS1.2.1.2.2.1 nn (by omega)
    obtain ⟨o1, ho1⟩ : ∃ o1, o1 = sg9 Ps (q, hv, ed, o) nn := ⟨_, rfl⟩
    have hC1 : CW Ma4 (44 + 3 * nn) q hv ed o1 := by rw [ho1]; exact hC9
    have hW1 := hC1.1
    have hwf1 := hC1.wf
    have hKL1 := hwf1.2.2.2.2
    have hn1 := hwf1.1
    refine lv_astore_n (lv' := [(3, .ref (B + (44 + 3 * nn))), (0, .ref (B + 0)), (1, .int (zI (nn : Int))), (2, .int (zI t9))]) hx hb wdX11_linesOf_21 rfl hl (by decide) rfl (fun ls hl => ?_)
    refine lv_aload_n hx hb wdX11_linesOf_22 rfl (lv_at hl 0 rfl) ?_
    refine lv_iload_n hx hb wdX11_linesOf_23 rfl (lv_at hl 3 rfl) ?_
    refine k_Vi F w (As := [.int (zI t9)]) (rest := []) (a := (44 + 3 * nn)) (kd_lt (a := (44 + 3 * nn)) (kd_sg (by omega)) (by decide)) (sh_9 (kd_sg (by omega)) _ _) rfl (s_X9_hasTone (a := 44 + 3 * nn) (kd_sg (by omega)) hW1 hwf1 (by omega)) wgv_X11_141 whv_X9_hasTone ⟨(Nat.le_of_ble_eq_true rfl), (Nat.le_of_ble_eq_true rfl)⟩ hl.1 rfl (Nat.le_of_ble_eq_true rfl) ⟨Nat.zero_le _, Nat.zero_le _⟩ wdX11_linesOf_24 (fun r Ma5 H locs hp w => ?_)
    rcases hp with ⟨⟨tt, rfl, htt, rfl⟩ | ⟨ntt, rfl⟩, hMe⟩
    · rw [hMe] at w
      refine z_if_eq (tgt := 39) hx hb (by omega) wdX11_linesOf_27 (by decide) (fun c6 => False.elim (by omega)) (fun c6 => ?_)
      refine lv_aload_n hx hb wdX11_linesOf_30 rfl (lv_at hl 0 rfl) ?_
      refine f_9_5 F w (a := (44 + 3 * nn)) (kd_sg (by omega)) wtb_230 wdX11_linesOf_31 ?_
      refine lv_iload_n hx hb wdX11_linesOf_34 rfl (lv_at hl 3 rfl) ?_
      refine g_iald F w (a := ((44 + 3 * nn) + 2)) (kd_w2 (kd_sg (by omega))) (j := tt) (ix_n (by omega)) (by omega) wdX11_linesOf_35 ?_
      have hL6 := (hKL1 tt (by omega)).2
      refine r_val (v := (zI (((o1.2.2 tt) : Nat) : Int))) (hW1.2.2.2.2.2 tt (by omega)) ?_
      refine lv_goto (tgt := 40) hx hb wdX11_linesOf_36 (by decide) ?_
      exact e_i F w hr hlocks (congrArg zI ((ofA_y hnn).trans (by rw [← ho1]; exact linA_y htt)).symm) wdX11_linesOf_40
    · rw [hMe] at w
      refine z_if_eq (tgt := 39) hx hb (by omega) wdX11_linesOf_27 (by decide) (fun c7 => ?_) (fun c7 => False.elim (by omega))
      refine lv_iconst (v := zI (-1)) hx hb wdX11_linesOf_39 rfl ?_
      exact e_i F w hr hlocks (congrArg zI ((ofA_y hnn).trans (by rw [← ho1]; exact linA_n ntt)).symm) wdX11_linesOf_40
  · rw [hMe] at w
    refine z_if_ne (tgt := 13) hx hb (by omega) wdX11_linesOf_8 (by decide) (fun c8 => False.elim (by omega)) (fun c8 => ?_)
    refine lv_iconst (v := zI (-1)) hx hb wdX11_linesOf_11 rfl ?_
    exact e_i F w hr hlocks (congrArg zI (ofA_n hb1).symm) wdX11_linesOf_12
theorem wdX11_open_0 : decode cX11_open 0 = .ok (.aload_n 0, 1) := by decide +kernel
theorem wdX11_open_1 : decode cX11_open 1 = .ok (.getfield 35, 3) := by decide +kernel
theorem wdX11_open_4 : decode cX11_open 4 = .ok (.iload_n 1, 1) := by decide +kernel
theorem wdX11_open_5 : decode cX11_open 5 = .ok (.invokevirtual 193, 3) := by decide +kernel
theorem wdX11_open_8 : decode cX11_open 8 = .ok (.ifCond .ne 5, 3) := by decide +kernel
theorem wdX11_open_13 : decode cX11_open 13 = .ok (.aload_n 0, 1) := by decide +kernel
theorem wdX11_open_14 : decode cX11_open 14 = .ok (.getfield 35, 3) := by decide +kernel
theorem wdX11_open_17 : decode cX11_open 17 = .ok (.iload_n 1, 1) := by decide +kernel
theorem wdX11_open_18 : decode cX11_open 18 = .ok (.invokevirtual 196, 3) := by decide +kernel
theorem wdX11_open_21 : decode cX11_open 21 = .ok (.astore 4, 2) := by decide +kernel
theorem wdX11_open_23 : decode cX11_open 23 = .ok (.aload 4, 2) := by decide +kernel
theorem wdX11_open_25 : decode cX11_open 25 = .ok (.iload_n 2, 1) := by decide +kernel
theorem wdX11_open_26 : decode cX11_open 26 = .ok (.invokevirtual 141, 3) := by decide +kernel
theorem wdX11_open_29 : decode cX11_open 29 = .ok (.ifCond .eq 12, 3) := by decide +kernel
theorem wdX11_open_32 : decode cX11_open 32 = .ok (.aload 4, 2) := by decide +kernel
theorem wdX11_open_34 : decode cX11_open 34 = .ok (.iload_n 3, 1) := by decide +kernel
theorem wdX11_open_35 : decode cX11_open 35 = .ok (.invokevirtual 160, 3) := by decide +kernel
theorem wdX11_open_38 : decode cX11_open 38 = .ok (.ifCond .ne 5, 3) := by decide +kernel
theorem wdX11_open_43 : decode cX11_open 43 = .ok (.aload 4, 2) := by decide +kernel
theorem wdX11_open_45 : decode cX11_open 45 = .ok (.iload_n 2, 1) := by decide +kernel
theorem wdX11_open_46 : decode cX11_open 46 = .ok (.iload_n 3, 1) := by decide +kernel
theorem wdX11_open_47 : decode cX11_open 47 = .ok (.invokevirtual 119, 3) := by decide +kernel
theorem wdX11_open_50 : decode cX11_open 50 = .ok (.ifCond .eq 7, 3) := by decide +kernel
theorem wdX11_open_53 : decode cX11_open 53 = .ok (.iconst 1, 1) := by decide +kernel
theorem wdX11_open_54 : decode cX11_open 54 = .ok (.goto 4, 3) := by decide +kernel
theorem wdX11_open_58 : decode cX11_open 58 = .ok (.ireturn, 1) := by decide +kernel
theorem wdX11_open_57 : decode cX11_open 57 = .ok (.iconst 0, 1) := by decide +kernel
theorem wdX11_open_41 : decode cX11_open 41 = .ok (.iconst (-1), 1) := by decide +kernel
theorem wdX11_open_42 : decode cX11_open 42 = .ok (.ireturn, 1) := by decide +kernel
theorem wdX11_open_11 : decode cX11_open 11 = .ok (.iconst (-1), 1) := by decide +kernel
theorem wdX11_open_12 : decode cX11_open 12 = .ok (.ireturn, 1) := by decide +kernel
set_option maxRecDepth 4000 in
theorem h_open {l : Launch} {D : va_G} {B : Nat} {cy : Nat → ClassId} {M : Mem} {Ps : Nat → Nat → Int} {mr rd k q hv ed : Nat} {o : Wo} {Hs : Nat → Fw} (hS : CS M Ps mr (q, hv, ed, o) rd Hs k) {n9 t9 u9 : Int} (hn9 : rg n9) (ht9 : rg t9) (hu9 : rg u9) : Ci l D B cy yX11_open cX11_open 5 (some .int) 6 155 [.ref (B + 0), .int (zI n9), .int (zI t9), .int (zI u9)] M (fun r M1 => r = zI (ofA Ps mr (q, hv, ed, o) n9 (opnA t9 u9))) := by
  refine s_any (by decide) (Nat.le_of_ble_eq_true rfl) ?_
  intro p e s m below meth c ls F hr hlocks w hl
  have F : CallFix p m c cX11_open 5 s _ TB RX11 := F
  have hx := F.1
  have hb := F.2.1
  have hl : lv_has ls 5 [(0, .ref (B + 0)), (1, .int (zI n9)), (2, .int (zI t9)), (3, .int (zI u9))] := hl
  have hm8 := hS.1.2.1
  have hC : CW M 44 q hv ed o := hS.t
  have hW : isW M 44 o.1 q hv ed o.2.1 o.2.2 := hC.1
  have hwf := hC.wf
  have hKL := hwf.2.2.2.2
  have hn12 := hwf.1
  have hq12 := hwf.2.1
  have hhv := hwf.2.2.1
  have hed := hwf.2.2.2.1
  refine lv_aload_n hx hb wdX11_open_0 rfl (lv_at hl 0 rfl) ?_
  refine f_11_3 F w (a := 0) rfl wtb_207 wdX11_open_1 ?_
  refine lv_iload_n hx hb wdX11_open_4 rfl (lv_at hl 1 rfl) ?_
  refine k_Vi F w (As := [.int (zI n9)]) (rest := []) (a := 22) (kd_lt (a := 22) (show kd 22 = (0, 0, 0) from rfl) (by decide)) (sh_0 rfl _ _) rfl (g_covers hS (n9 := n9) (by omega)) wgv_X11_193 whv_X0_covers ⟨(Nat.le_of_ble_eq_true rfl), (Nat.le_of_ble_eq_true rfl)⟩ hl.1 rfl (Nat.le_of_ble_eq_true rfl) ⟨Nat.zero_le _, Nat.zero_le _⟩ wdX11_open_5 (fun r Ma2 H locs hp w => ?_)
  rcases hp with ⟨⟨hb1, rfl⟩ | ⟨hb1, rfl⟩, hMe⟩
  · rw [hMe] at w
    obtain ⟨nn, rfl⟩ : ∃ n8 : Nat, n9 = (n8 : Int) := ⟨Int.toNat n9, by omega⟩
    have hnn : nn ≤ mr := by omega
    refine z_if_ne (tgt := 13) hx hb (by omega) wdX11_open_8 (by decide) (fun c3 => ?_) (fun c3 => False.elim (by omega))
    refine lv_aload_n hx hb wdX11_open_13 rfl (lv_at hl 0 rfl) ?_
    refine f_11_3 F w (a := 0) rfl wtb_207 wdX11_open_14 ?_
    refine lv_iload_n hx hb wdX11_open_17 rfl (lv_at hl 1 rfl) ?_
    refine k_Vr F w (As := [.int (zI (nn : Int))]) (rest := []) (a := 22) (kd_lt (a := 22) (show kd 22 = (0, 0, 0) from rfl) (by decide)) (sh_0 rfl _ _) rfl (g_stageOf hS (n9 := nn) (by omega)) wgv_X11_196 whv_X0_stageOf ⟨(Nat.le_of_ble_eq_true rfl), (Nat.le_of_ble_eq_true rfl)⟩ hl.1 rfl (Nat.le_of_ble_eq_true rfl) ⟨Nat.zero_le _, Nat.zero_le _⟩ wdX11_open_18 (fun r Ma4 H locs hp w => ?_)
    rcases hp with ⟨rfl, rd1, hnr, _, hS1, _⟩
    have hC9 := hS1.2.1.2.2.1 nn (by omega)
    obtain ⟨o1, ho1⟩ : ∃ o1, o1 = sg9 Ps (q, hv, ed, o) nn := ⟨_, rfl⟩
    have hC1 : CW Ma4 (44 + 3 * nn) q hv ed o1 := by rw [ho1]; exact hC9
    have hW1 := hC1.1
    have hwf1 := hC1.wf
    have hKL1 := hwf1.2.2.2.2
    have hn1 := hwf1.1
    refine lv_astore (lv' := [(4, .ref (B + (44 + 3 * nn))), (0, .ref (B + 0)), (1, .int (zI (nn : Int))), (2, .int (zI t9)), (3, .int (zI u9))]) hx hb wdX11_open_21 hl (by decide) rfl (fun ls hl => ?_)
    refine lv_aload hx hb wdX11_open_23 (lv_at hl 0 rfl) ?_
    refine lv_iload_n hx hb wdX11_open_25 rfl (lv_at hl 3 rfl) ?_
    refine k_Vi F w (As := [.int (zI t9)]) (rest := []) (a := (44 + 3 * nn)) (kd_lt (a := (44 + 3 * nn)) (kd_sg (by omega)) (by decide)) (sh_9 (kd_sg (by omega)) _ _) rfl (s_X9_hasTone (a := 44 + 3 * nn) (kd_sg (by omega)) hW1 hwf1 (by omega)) wgv_X11_141 whv_X9_hasTone ⟨(Nat.le_of_ble_eq_true rfl), (Nat.le_of_ble_eq_true rfl)⟩ hl.1 rfl (Nat.le_of_ble_eq_true rfl) ⟨Nat.zero_le _, Nat.zero_le _⟩ wdX11_open_26 (fun r Ma5 H locs hp w => ?_)
    rcases hp with ⟨⟨tt, rfl, htt, rfl⟩ | ⟨ntt, rfl⟩, hMe⟩
    · rw [hMe] at w
      refine z_if_eq (tgt := 41) hx hb (by omega) wdX11_open_29 (by decide) (fun c6 => False.elim (by omega)) (fun c6 => ?_)
      refine lv_aload hx hb wdX11_open_32 (lv_at hl 0 rfl) ?_
      refine lv_iload_n hx hb wdX11_open_34 rfl (lv_at hl 4 rfl) ?_
      refine k_Vi F w (As := [.int (zI u9)]) (rest := []) (a := (44 + 3 * nn)) (kd_lt (a := (44 + 3 * nn)) (kd_sg (by omega)) (by decide)) (sh_9 (kd_sg (by omega)) _ _) rfl (s_X9_hasSyllable (a := 44 + 3 * nn) (kd_sg (by omega)) hW1 hwf1 (by omega)) wgv_X11_160 whv_X9_hasSyllable ⟨(Nat.le_of_ble_eq_true rfl), (Nat.le_of_ble_eq_true rfl)⟩ hl.1 rfl (Nat.le_of_ble_eq_true rfl) ⟨Nat.zero_le _, Nat.zero_le _⟩ wdX11_open_35 (fun r Ma7 H locs hp w => ?_)
      rcases hp with ⟨⟨uu, rfl, huu, rfl⟩ | ⟨nuu, rfl⟩, hMe⟩
      · rw [hMe] at w
        refine z_if_ne (tgt := 43) hx hb (by omega) wdX11_open_38 (by decide) (fun c8 => ?_) (fun c8 => False.elim (by omega))
        refine lv_aload hx hb wdX11_open_43 (lv_at hl 0 rfl) ?_
        refine lv_iload_n hx hb wdX11_open_45 rfl (lv_at hl 3 rfl) ?_
        refine lv_iload_n hx hb wdX11_open_46 rfl (lv_at hl 4 rfl) ?_
        refine k_Vi F w (As := [.int (zI (tt : Int)), .int (zI (uu : Int))]) (rest := []) (a := (44 + 3 * nn)) (kd_lt (a := (44 + 3 * nn)) (kd_sg (by omega)) (by decide)) (sh_9 (kd_sg (by omega)) _ _) rfl (s_X9_isOpen (a := 44 + 3 * nn) (kd_sg (by omega)) hW1 hwf1 (t := (tt : Int)) (y := (uu : Int)) (by omega) (by omega)) wgv_X11_119 whv_X9_isOpen ⟨(Nat.le_of_ble_eq_true rfl), (Nat.le_of_ble_eq_true rfl)⟩ hl.1 rfl (Nat.le_of_ble_eq_true rfl) ⟨Nat.zero_le _, Nat.zero_le _⟩ wdX11_open_47 (fun r Ma9 H locs hp w => ?_)
        rcases hp with ⟨⟨⟨k8, j8, e8, f8, _, _, ho8⟩, rfl⟩ | ⟨ho8, rfl⟩, hMe⟩
        · obtain rfl : tt = k8 := by omega
          obtain rfl : uu = j8 := by omega
          rw [hMe] at w
          refine z_if_eq (tgt := 57) hx hb (by omega) wdX11_open_50 (by decide) (fun c10 => False.elim (by omega)) (fun c10 => ?_)
          refine lv_iconst (v := zI 1) hx hb wdX11_open_53 rfl ?_
          refine lv_goto (tgt := 58) hx hb wdX11_open_54 (by decide) ?_
          exact e_i F w hr hlocks (congrArg zI ((ofA_y hnn).trans (by rw [← ho1]; exact opnA_1 htt huu ho8)).symm) wdX11_open_58
        · replace ho8 : ¬ openP o1.1 o1.2.2 tt uu := fun h8 => ho8 ⟨tt, uu, rfl, rfl, htt, huu, h8⟩
          rw [hMe] at w
          refine z_if_eq (tgt := 57) hx hb (by omega) wdX11_open_50 (by decide) (fun c11 => ?_) (fun c11 => False.elim (by omega))
          refine lv_iconst (v := zI 0) hx hb wdX11_open_57 rfl ?_
          exact e_i F w hr hlocks (congrArg zI ((ofA_y hnn).trans (by rw [← ho1]; exact opnA_0 htt huu ho8)).symm) wdX11_open_58
      · rw [hMe] at w
        refine z_if_ne (tgt := 43) hx hb (by omega) wdX11_open_38 (by decide) (fun c12 => False.elim (by omega)) (fun c12 => ?_)
        refine lv_iconst (v := zI (-1)) hx hb wdX11_open_41 rfl ?_
        exact e_i F w hr hlocks (congrArg zI ((ofA_y hnn).trans (by rw [← ho1]; exact opnA_n (fun h9 => nuu h9.2.2))).symm) wdX11_open_42
    · rw [hMe] at w
      refine z_if_eq (tgt := 41) hx hb (by omega) wdX11_open_29 (by decide) (fun c13 => ?_) (fun c13 => False.elim (by omega))
      refine lv_iconst (v := zI (-1)) hx hb wdX11_open_41 rfl ?_
      exact e_i F w hr hlocks (congrArg zI ((ofA_y hnn).trans (by rw [← ho1]; exact opnA_n (fun h9 => ntt ⟨h9.1, h9.2.1⟩))).symm) wdX11_open_42
  · rw [hMe] at w
    refine z_if_ne (tgt := 13) hx hb (by omega) wdX11_open_8 (by decide) (fun c14 => False.elim (by omega)) (fun c14 => ?_)
    refine lv_iconst (v := zI (-1)) hx hb wdX11_open_11 rfl ?_
    exact e_i F w hr hlocks (congrArg zI (ofA_n hb1).symm) wdX11_open_12
