theorem wdX12_lays_0 : decode cX12_lays 0 = .ok (.iload_n 1, 1) := dX12_lays_0
theorem wdX12_lays_1 : decode cX12_lays 1 = .ok (.iconst 0, 1) := dX12_lays_1
theorem wdX12_lays_2 : decode cX12_lays 2 = .ok (.aload_n 0, 1) := dX12_lays_2
theorem wdX12_lays_3 : decode cX12_lays 3 = .ok (.getfield 239, 3) := dX12_lays_3
theorem wdX12_lays_6 : decode cX12_lays 6 = .ok (.invokestatic 55, 3) := dX12_lays_6
theorem wdX12_lays_9 : decode cX12_lays 9 = .ok (.ifCond .ne 5, 3) := dX12_lays_9
theorem wdX12_lays_14 : decode cX12_lays 14 = .ok (.aload_n 0, 1) := dX12_lays_14
theorem wdX12_lays_15 : decode cX12_lays 15 = .ok (.iload_n 1, 1) := dX12_lays_15
theorem wdX12_lays_16 : decode cX12_lays 16 = .ok (.invokevirtual 255, 3) := dX12_lays_16
theorem wdX12_lays_19 : decode cX12_lays 19 = .ok (.pop, 1) := dX12_lays_19
theorem wdX12_lays_20 : decode cX12_lays 20 = .ok (.iconst 1, 1) := dX12_lays_20
theorem wdX12_lays_21 : decode cX12_lays 21 = .ok (.ireturn, 1) := dX12_lays_21
theorem wdX12_lays_12 : decode cX12_lays 12 = .ok (.iconst 0, 1) := dX12_lays_12
theorem wdX12_lays_13 : decode cX12_lays 13 = .ok (.ireturn, 1) := dX12_lays_13
set_option maxRecDepth 4000 in
theorem m_lays {l : Launch} {D : va_G} {B : Nat} {cy : Nat → ClassId} {M : Mem} {Ps : Nat → Nat → Int} {mr k q hv ed : Nat} {o : Wo} {Hs : Nat → Fw} (hS : MS M Ps mr (q, hv, ed, o) Hs k) {n9 : Int} (hn9 : rg n9) : Ci l D B cy yX12_lays cX12_lays 2 (some .boolean) 9 212 [.ref (B + 146), .int (zI n9)] M (fun r M1 => (∃ nn : Nat, n9 = (nn : Int) ∧ nn ≤ mr ∧ r = zI 1 ∧ ∃ z, RW M1 q hv ed (sg9 Ps (q, hv, ed, o) nn) z) ∨ (¬ (0 ≤ n9 ∧ n9 ≤ (mr : Int)) ∧ r = zI 0)) := by
  refine s_any (by decide) (Nat.le_of_ble_eq_true rfl) ?_
  intro p e s m below meth c ls F hr hlocks w hl
  have F : CallFix p m c cX12_lays 2 s _ TB RX12 := F
  have hx := F.1
  have hb := F.2.1
  have hl : lv_has ls 2 [(0, .ref (B + 146)), (1, .int (zI n9))] := hl
  have hm8 := hS.1.1
  have hk12 := hS.2.2.2.2.1
  have hC : TW M q hv ed o := hS.T
  have hW : isR M 147 o.1 q hv ed o.2.1 o.2.2 := hC.1
  have hwf := hC.wf
  have hKL := hwf.2.2.2.2
  have hn12 := hwf.1
  have hq12 := hwf.2.1
  have hhv := hwf.2.2.1
  have hed := hwf.2.2.2.1
  refine lv_iload_n hx hb wdX12_lays_0 rfl (lv_at hl 1 rfl) ?_
  refine lv_iconst (v := zI 0) hx hb wdX12_lays_1 rfl ?_
  refine lv_aload_n hx hb wdX12_lays_2 rfl (lv_at hl 0 rfl) ?_
  refine f_12_5 F w (a := 146) rfl wtb_291 wdX12_lays_3 ?_
  refine r_val (v := (zI (mr : Int))) (hS.2.1) ?_
  refine k_Si F w (As := [.int (zI n9), .int (zI 0), .int (zI (mr : Int))]) (rest := []) (s_X12_in (v := n9) (a := 0) (b := (mr : Int)) (by omega) (by omega) (by omega)) wgs_X12_55 whs_X12_in ⟨(Nat.le_of_ble_eq_true rfl), (Nat.le_of_ble_eq_true rfl)⟩ hl.1 rfl (Nat.le_of_ble_eq_true rfl) ⟨Nat.zero_le _, Nat.zero_le _⟩ wdX12_lays_6 (fun r Ma2 H locs hp w => ?_)
  rcases hp with ⟨⟨hb1, rfl⟩ | ⟨hb1, rfl⟩, hMe⟩
  · rw [hMe] at w
    refine z_if_ne (tgt := 14) hx hb (by omega) wdX12_lays_9 (by decide) (fun c3 => ?_) (fun c3 => False.elim (by omega))
    obtain ⟨nn, rfl⟩ : ∃ n8 : Nat, n9 = (n8 : Int) := ⟨Int.toNat n9, by omega⟩
    refine lv_aload_n hx hb wdX12_lays_14 rfl (lv_at hl 0 rfl) ?_
    refine lv_iload_n hx hb wdX12_lays_15 rfl (lv_at hl 1 rfl) ?_
    refine k_Vi F w (As := [.int (zI (nn : Int))]) (rest := []) (a := 146) (kd_lt (a := 146) (show kd 146 = (12, 0, 0) from rfl) (by decide)) (sh_12 rfl _ _) rfl (s_X12_derives hC hS.1 (n9 := nn) (by omega)) wgv_X12_255 whv_X12_derives ⟨(Nat.le_of_ble_eq_true rfl), (Nat.le_of_ble_eq_true rfl)⟩ hl.1 rfl (Nat.le_of_ble_eq_true rfl) ⟨Nat.zero_le _, Nat.zero_le _⟩ wdX12_lays_16 (fun r Ma4 H locs hp w => ?_)
    rcases hp with ⟨oT, dT, eT, rfl, ⟨zT, hRT⟩, hFT, hdT⟩
    refine lv_pop hx hb wdX12_lays_19 rfl ?_
    refine lv_iconst (v := zI 1) hx hb wdX12_lays_20 rfl ?_
    exact e_z F w hr hlocks (nar_z (by omega)) (Or.inl ⟨nn, rfl, by omega, rfl, zT, by rw [show sg9 Ps (q, hv, ed, o) nn = oT from congrArg Prod.fst eT]; exact hRT⟩) wdX12_lays_21
  · rw [hMe] at w
    refine z_if_ne (tgt := 14) hx hb (by omega) wdX12_lays_9 (by decide) (fun c5 => False.elim (by omega)) (fun c5 => ?_)
    refine lv_iconst (v := zI 0) hx hb wdX12_lays_12 rfl ?_
    exact e_z F w hr hlocks (nar_z (by omega)) (Or.inr ⟨by omega, rfl⟩) wdX12_lays_13
theorem wtk_X12_lays : Cond.code yX12_lays cX12_lays 2 (some .boolean) ∈ TB := tk_X12_lays
theorem wgc_X12_lays : GoodIn TB (cw yX12_lays cX12_lays 2 (some .boolean)) := goodIn_c2 wtk_X12_lays
theorem wtb_337 : Cond.methodLink "ToneLinesModel" 261 yX12_lays ∈ TB := tb_611
theorem wtb_338 : Cond.instanceMethod yX12_lays ∈ TB := tb_612
theorem wtb_339 : Cond.selects "ToneLinesModel" yX12_lays yX12_lays ∈ TB := tb_613
theorem wgv_X12_261 : GoodIn TB (wsV RX12 261 RX12 yX12_lays (cw yX12_lays cX12_lays 2 (some .boolean))) := goodIn_4 wtb_337 wtb_338 wtb_339 wtb_105 wgc_X12_lays
theorem whv_X12_lays : yX12_lays.cls = RX12 ∧ yX12_lays.cls ≠ "java/lang/invoke/MethodHandle" ∧ yX12_lays.cls ≠ "java/lang/invoke/VarHandle" ∧ (parseMethodDescriptor yX12_lays.desc).map (fun d => d.parameters.length) = some 1 := hv_X12_lays
theorem wtk_X12_fallsTo : Cond.code yX12_fallsTo cX12_fallsTo 4 (some .int) ∈ TB := tk_X12_fallsTo
theorem wgc_X12_fallsTo : GoodIn TB (cw yX12_fallsTo cX12_fallsTo 4 (some .int)) := goodIn_c2 wtk_X12_fallsTo
theorem wtb_349 : Cond.methodLink "ToneLinesModel" 273 yX12_fallsTo ∈ TB := tb_623
theorem wtb_350 : Cond.instanceMethod yX12_fallsTo ∈ TB := tb_624
theorem wtb_351 : Cond.selects "ToneLinesModel" yX12_fallsTo yX12_fallsTo ∈ TB := tb_625
theorem wgv_X12_273 : GoodIn TB (wsV RX12 273 RX12 yX12_fallsTo (cw yX12_fallsTo cX12_fallsTo 4 (some .int))) := goodIn_4 wtb_349 wtb_350 wtb_351 wtb_105 wgc_X12_fallsTo
theorem whv_X12_fallsTo : yX12_fallsTo.cls = RX12 ∧ yX12_fallsTo.cls ≠ "java/lang/invoke/MethodHandle" ∧ yX12_fallsTo.cls ≠ "java/lang/invoke/VarHandle" ∧ (parseMethodDescriptor yX12_fallsTo.desc).map (fun d => d.parameters.length) = some 1 := hv_X12_fallsTo
theorem wdX12_toneAt_0 : decode cX12_toneAt 0 = .ok (.aload_n 0, 1) := dX12_toneAt_0
theorem wdX12_toneAt_1 : decode cX12_toneAt 1 = .ok (.iload_n 1, 1) := dX12_toneAt_1
theorem wdX12_toneAt_2 : decode cX12_toneAt 2 = .ok (.invokevirtual 261, 3) := dX12_toneAt_2
theorem wdX12_toneAt_5 : decode cX12_toneAt 5 = .ok (.ifCond .ne 5, 3) := dX12_toneAt_5
theorem wdX12_toneAt_10 : decode cX12_toneAt 10 = .ok (.aload_n 0, 1) := dX12_toneAt_10
theorem wdX12_toneAt_11 : decode cX12_toneAt 11 = .ok (.getfield 17, 3) := dX12_toneAt_11
theorem wdX12_toneAt_14 : decode cX12_toneAt 14 = .ok (.iload_n 2, 1) := dX12_toneAt_14
theorem wdX12_toneAt_15 : decode cX12_toneAt 15 = .ok (.invokestatic 105, 3) := dX12_toneAt_15
theorem wdX12_toneAt_18 : decode cX12_toneAt 18 = .ok (.ifCond .ne 15, 3) := dX12_toneAt_18
theorem wdX12_toneAt_33 : decode cX12_toneAt 33 = .ok (.aload_n 0, 1) := dX12_toneAt_33
theorem wdX12_toneAt_34 : decode cX12_toneAt 34 = .ok (.getfield 17, 3) := dX12_toneAt_34
theorem wdX12_toneAt_37 : decode cX12_toneAt 37 = .ok (.bipush 13, 2) := dX12_toneAt_37
theorem wdX12_toneAt_39 : decode cX12_toneAt 39 = .ok (.iload_n 2, 1) := dX12_toneAt_39
theorem wdX12_toneAt_40 : decode cX12_toneAt 40 = .ok (.iadd, 1) := dX12_toneAt_40
theorem wdX12_toneAt_41 : decode cX12_toneAt 41 = .ok (.iaload, 1) := dX12_toneAt_41
theorem wdX12_toneAt_42 : decode cX12_toneAt 42 = .ok (.istore 4, 2) := dX12_toneAt_42
theorem wdX12_toneAt_44 : decode cX12_toneAt 44 = .ok (.aload_n 0, 1) := dX12_toneAt_44
theorem wdX12_toneAt_45 : decode cX12_toneAt 45 = .ok (.getfield 17, 3) := dX12_toneAt_45
theorem wdX12_toneAt_48 : decode cX12_toneAt 48 = .ok (.iconst 1, 1) := dX12_toneAt_48
theorem wdX12_toneAt_49 : decode cX12_toneAt 49 = .ok (.iload_n 2, 1) := dX12_toneAt_49
theorem wdX12_toneAt_50 : decode cX12_toneAt 50 = .ok (.iadd, 1) := dX12_toneAt_50
theorem wdX12_toneAt_51 : decode cX12_toneAt 51 = .ok (.iaload, 1) := dX12_toneAt_51
theorem wdX12_toneAt_52 : decode cX12_toneAt 52 = .ok (.istore 5, 2) := dX12_toneAt_52
theorem wdX12_toneAt_54 : decode cX12_toneAt 54 = .ok (.iload_n 3, 1) := dX12_toneAt_54
theorem wdX12_toneAt_55 : decode cX12_toneAt 55 = .ok (.tableswitch 73 0 4 #[33, 36, 45, 54, 60], 33) := dX12_toneAt_55
theorem wdX12_toneAt_88 : decode cX12_toneAt 88 = .ok (.iload 5, 2) := dX12_toneAt_88
theorem wdX12_toneAt_90 : decode cX12_toneAt 90 = .ok (.ireturn, 1) := dX12_toneAt_90
theorem wdX12_toneAt_91 : decode cX12_toneAt 91 = .ok (.iload 4, 2) := dX12_toneAt_91
theorem wdX12_toneAt_93 : decode cX12_toneAt 93 = .ok (.invokestatic 63, 3) := dX12_toneAt_93
theorem wdX12_toneAt_96 : decode cX12_toneAt 96 = .ok (.invokestatic 285, 3) := dX12_toneAt_96
theorem wtk_X12_orNeither : Cond.code yX12_orNeither cX12_orNeither 1 (some .int) ∈ TB := tk_X12_orNeither
theorem wgc_X12_orNeither : GoodIn TB (cw yX12_orNeither cX12_orNeither 1 (some .int)) := goodIn_c2 wtk_X12_orNeither
theorem wtb_361 : Cond.methodLink "ToneLinesModel" 285 yX12_orNeither ∈ TB := tb_635
theorem wtb_362 : Cond.static yX12_orNeither ∈ TB := tb_636
theorem wgs_X12_285 : GoodIn TB (va_wsS RX12 285 yX12_orNeither (cw yX12_orNeither cX12_orNeither 1 (some .int))) := goodIn_3 wtb_361 wtb_362 wtb_105 wgc_X12_orNeither
theorem whs_X12_orNeither : yX12_orNeither.cls ≠ "java/lang/invoke/MethodHandle" ∧ yX12_orNeither.cls ≠ "java/lang/invoke/VarHandle" ∧ (parseMethodDescriptor yX12_orNeither.desc).map (fun d => d.parameters.length) = some 1 := hs_X12_orNeither
theorem wdX12_toneAt_99 : decode cX12_toneAt 99 = .ok (.ireturn, 1) := dX12_toneAt_99
theorem wdX12_toneAt_100 : decode cX12_toneAt 100 = .ok (.iload 4, 2) := dX12_toneAt_100
theorem wdX12_toneAt_102 : decode cX12_toneAt 102 = .ok (.invokestatic 59, 3) := dX12_toneAt_102
theorem wdX12_toneAt_105 : decode cX12_toneAt 105 = .ok (.invokestatic 285, 3) := dX12_toneAt_105
theorem wdX12_toneAt_108 : decode cX12_toneAt 108 = .ok (.ireturn, 1) := dX12_toneAt_108
theorem wdX12_toneAt_109 : decode cX12_toneAt 109 = .ok (.iload 4, 2) := dX12_toneAt_109
theorem wdX12_toneAt_111 : decode cX12_toneAt 111 = .ok (.invokestatic 76, 3) := dX12_toneAt_111
theorem wdX12_toneAt_114 : decode cX12_toneAt 114 = .ok (.ireturn, 1) := dX12_toneAt_114
theorem wdX12_toneAt_115 : decode cX12_toneAt 115 = .ok (.iconst 3, 1) := dX12_toneAt_115
theorem wdX12_toneAt_116 : decode cX12_toneAt 116 = .ok (.iconst 3, 1) := dX12_toneAt_116
theorem wdX12_toneAt_117 : decode cX12_toneAt 117 = .ok (.iload 5, 2) := dX12_toneAt_117
theorem wdX12_toneAt_119 : decode cX12_toneAt 119 = .ok (.imul, 1) := dX12_toneAt_119
theorem wdX12_toneAt_120 : decode cX12_toneAt 120 = .ok (.iadd, 1) := dX12_toneAt_120
theorem wdX12_toneAt_121 : decode cX12_toneAt 121 = .ok (.aload_n 0, 1) := dX12_toneAt_121
theorem wdX12_toneAt_122 : decode cX12_toneAt 122 = .ok (.iload_n 2, 1) := dX12_toneAt_122
theorem wdX12_toneAt_123 : decode cX12_toneAt 123 = .ok (.invokevirtual 273, 3) := dX12_toneAt_123
theorem wdX12_toneAt_126 : decode cX12_toneAt 126 = .ok (.isub, 1) := dX12_toneAt_126
theorem wdX12_toneAt_127 : decode cX12_toneAt 127 = .ok (.ireturn, 1) := dX12_toneAt_127
theorem wdX12_toneAt_128 : decode cX12_toneAt 128 = .ok (.iconst (-1), 1) := dX12_toneAt_128
theorem wdX12_toneAt_129 : decode cX12_toneAt 129 = .ok (.ireturn, 1) := dX12_toneAt_129
theorem wdX12_toneAt_21 : decode cX12_toneAt 21 = .ok (.iload_n 3, 1) := dX12_toneAt_21
theorem wdX12_toneAt_22 : decode cX12_toneAt 22 = .ok (.iconst 4, 1) := dX12_toneAt_22
theorem wdX12_toneAt_23 : decode cX12_toneAt 23 = .ok (.if_icmp .ne 8, 3) := dX12_toneAt_23
theorem wdX12_toneAt_31 : decode cX12_toneAt 31 = .ok (.iconst (-1), 1) := dX12_toneAt_31
theorem wdX12_toneAt_32 : decode cX12_toneAt 32 = .ok (.ireturn, 1) := dX12_toneAt_32
theorem wdX12_toneAt_26 : decode cX12_toneAt 26 = .ok (.bipush (-100), 2) := dX12_toneAt_26
theorem wdX12_toneAt_28 : decode cX12_toneAt 28 = .ok (.goto 4, 3) := dX12_toneAt_28
theorem wdX12_toneAt_8 : decode cX12_toneAt 8 = .ok (.iconst (-1), 1) := dX12_toneAt_8
theorem wdX12_toneAt_9 : decode cX12_toneAt 9 = .ok (.ireturn, 1) := dX12_toneAt_9
set_option maxRecDepth 4000 in
theorem k_toneAt {l : Launch} {D : va_G} {B : Nat} {cy : Nat → ClassId} {M : Mem} {Ps : Nat → Nat → Int} {mr k q hv ed : Nat} {o : Wo} {Hs : Nat → Fw} (hS : MS M Ps mr (q, hv, ed, o) Hs k) {n9 t9 w9 : Int} (hn9 : rg n9) (ht9 : rg t9) (hw9 : rg w9) : Ci l D B cy yX12_toneAt cX12_toneAt 6 (some .int) 10 233 [.ref (B + 146), .int (zI n9), .int (zI t9), .int (zI w9)] M (fun r M1 => r = zI (ofA Ps mr (q, hv, ed, o) n9 (toneA t9 w9))) := by
  refine s_any (by decide) (Nat.le_of_ble_eq_true rfl) ?_
  intro p e s m below meth c ls F hr hlocks w hl
  have F : CallFix p m c cX12_toneAt 6 s _ TB RX12 := F
  have hx := F.1
  have hb := F.2.1
  have hl : lv_has ls 6 [(0, .ref (B + 146)), (1, .int (zI n9)), (2, .int (zI t9)), (3, .int (zI w9))] := hl
  have hm8 := hS.1.1
  have hk12 := hS.2.2.2.2.1
  have hC : TW M q hv ed o := hS.T
  have hW : isR M 147 o.1 q hv ed o.2.1 o.2.2 := hC.1
  have hwf := hC.wf
  have hKL := hwf.2.2.2.2
  have hn12 := hwf.1
  have hq12 := hwf.2.1
  have hhv := hwf.2.2.1
  have hed := hwf.2.2.2.1
  refine lv_aload_n hx hb wdX12_toneAt_0 rfl (lv_at hl 0 rfl) ?_
  refine lv_iload_n hx hb wdX12_toneAt_1 rfl (lv_at hl 1 rfl) ?_
  refine k_Vi F w (As := [.int (zI n9)]) (rest := []) (a := 146) (kd_lt (a := 146) (show kd 146 = (12, 0, 0) from rfl) (by decide)) (sh_12 rfl _ _) rfl (m_lays hS (n9 := n9) (by omega)) wgv_X12_261 whv_X12_lays ⟨(Nat.le_of_ble_eq_true rfl), (Nat.le_of_ble_eq_true rfl)⟩ hl.1 rfl (Nat.le_of_ble_eq_true rfl) ⟨Nat.zero_le _, Nat.zero_le _⟩ wdX12_toneAt_2 (fun r Ma1 H locs hp w => ?_)
  rcases hp with ⟨nn, rfl, hnn, rfl, z9, hRs⟩ | ⟨hnc, rfl⟩
  · obtain ⟨o1, ho1⟩ : ∃ o1, o1 = sg9 Ps (q, hv, ed, o) nn := ⟨_, rfl⟩
    have hR : RW Ma1 q hv ed o1 z9 := by rw [ho1]; exact hRs
    have hW1 := hR.1
    have hwf1 := hR.wf
    have hKL1 := hwf1.2.2.2.2
    have hn1 := hwf1.1
    have hc1 := hR.2.2.2.2
    refine z_if_ne (tgt := 10) hx hb (by omega) wdX12_toneAt_5 (by decide) (fun c2 => ?_) (fun c2 => False.elim (by omega))
    refine lv_aload_n hx hb wdX12_toneAt_10 rfl (lv_at hl 0 rfl) ?_
    refine f_12_2 F w (a := 146) rfl wtb_102 wdX12_toneAt_11 ?_
    refine lv_iload_n hx hb wdX12_toneAt_14 rfl (lv_at hl 2 rfl) ?_
    refine k_Si F w (As := [.ref (B + 148), .int (zI t9)]) (rest := []) (s_X12_isTone (a := 148) rfl hW1 hwf1 (t := t9) (by omega)) wgs_X12_105 whs_X12_isTone ⟨(Nat.le_of_ble_eq_true rfl), (Nat.le_of_ble_eq_true rfl)⟩ hl.1 rfl (Nat.le_of_ble_eq_true rfl) ⟨Nat.zero_le _, Nat.zero_le _⟩ wdX12_toneAt_15 (fun r Ma3 H locs hp w => ?_)
    rcases hp with ⟨⟨tt, rfl, htt, rfl⟩ | ⟨ntt, rfl⟩, hMe⟩
    · rw [hMe] at w
      refine z_if_ne (tgt := 33) hx hb (by omega) wdX12_toneAt_18 (by decide) (fun c4 => ?_) (fun c4 => False.elim (by omega))
      refine lv_aload_n hx hb wdX12_toneAt_33 rfl (lv_at hl 0 rfl) ?_
      refine f_12_2 F w (a := 146) rfl wtb_102 wdX12_toneAt_34 ?_
      refine lv_bipush (v := zI 13) hx hb wdX12_toneAt_37 (by decide) ?_
      refine lv_iload_n hx hb wdX12_toneAt_39 rfl (lv_at hl 2 rfl) ?_
      refine z_iadd (z := (((13 + tt) : Nat) : Int)) hx hb wdX12_toneAt_40 (by omega) ?_
      refine g_iald F w (a := 148) rfl (j := (13 + tt)) (ix_n (by omega)) (by omega) wdX12_toneAt_41 ?_
      have hL4 := (hKL1 tt (by omega)).2
      refine r_val (v := (zI (((o1.2.2 tt) : Nat) : Int))) (hW1.2.2.2.2.2 tt (by omega)) ?_
      refine lv_istore (lv' := [(4, .int (zI (((o1.2.2 tt) : Nat) : Int))), (0, .ref (B + 146)), (1, .int (zI (nn : Int))), (2, .int (zI (tt : Int))), (3, .int (zI w9))]) hx hb wdX12_toneAt_42 hl (by decide) rfl (fun ls hl => ?_)
      refine lv_aload_n hx hb wdX12_toneAt_44 rfl (lv_at hl 1 rfl) ?_
      refine f_12_2 F w (a := 146) rfl wtb_102 wdX12_toneAt_45 ?_
      refine lv_iconst (v := zI 1) hx hb wdX12_toneAt_48 rfl ?_
      refine lv_iload_n hx hb wdX12_toneAt_49 rfl (lv_at hl 3 rfl) ?_
      refine z_iadd (z := (((1 + tt) : Nat) : Int)) hx hb wdX12_toneAt_50 (by omega) ?_
      refine g_iald F w (a := 148) rfl (j := (1 + tt)) (ix_n (by omega)) (by omega) wdX12_toneAt_51 ?_
      have hK4 := (hKL1 tt (by omega)).1
      refine r_val (v := (zI (((o1.2.1 tt) : Nat) : Int))) (hW1.2.2.2.2.1 tt (by omega)) ?_
      refine lv_istore (lv' := [(5, .int (zI (((o1.2.1 tt) : Nat) : Int))), (4, .int (zI (((o1.2.2 tt) : Nat) : Int))), (0, .ref (B + 146)), (1, .int (zI (nn : Int))), (2, .int (zI (tt : Int))), (3, .int (zI w9))]) hx hb wdX12_toneAt_52 hl (by decide) rfl (fun ls hl => ?_)
      refine lv_iload_n hx hb wdX12_toneAt_54 rfl (lv_at hl 5 rfl) ?_
      rcases (show (w9 : Int) = 0 ∨ (w9 : Int) = 1 ∨ (w9 : Int) = 2 ∨ (w9 : Int) = 3 ∨ (w9 : Int) = 4 ∨ (w9 ≠ 0 ∧ w9 ≠ 1 ∧ w9 ≠ 2 ∧ w9 ≠ 3 ∧ w9 ≠ 4) by omega) with c5 | c5 | c5 | c5 | c5 | c5
      · refine r_val (v := zI 0) (congrArg zI c5) ?_
        refine lv_tableIn (tgt := 88) hx hb wdX12_toneAt_55 (by decide) (by decide) (off := 33) rfl (by decide) ?_
        refine lv_iload hx hb wdX12_toneAt_88 (lv_at hl 0 rfl) ?_
        exact e_i F w hr hlocks (congrArg zI ((ofA_y hnn).trans (by rw [← ho1]; exact toneA_0 htt c5)).symm) wdX12_toneAt_90
      · refine r_val (v := zI 1) (congrArg zI c5) ?_
        refine lv_tableIn (tgt := 91) hx hb wdX12_toneAt_55 (by decide) (by decide) (off := 36) rfl (by decide) ?_
        refine lv_iload hx hb wdX12_toneAt_91 (lv_at hl 1 rfl) ?_
        refine x_Si F w (As := [.int (zI (((o1.2.2 tt) : Nat) : Int))]) (rest := []) (s_X12_firstOf (m9 := (o1.2.2 tt)) (by omega)) wgs_X12_63 whs_X12_firstOf ⟨(Nat.le_of_ble_eq_true rfl), (Nat.le_of_ble_eq_true rfl)⟩ hl.1 rfl (Nat.le_of_ble_eq_true rfl) ⟨Nat.zero_le _, Nat.zero_le _⟩ wdX12_toneAt_93 (fun H locs w => ?_)
        have hw5 := lowI_rg (o1.2.2 tt) (by omega)
        refine x_Si F w (As := [.int (zI (lowI (o1.2.2 tt)))]) (rest := []) (k_orNeither (x9 := (lowI (o1.2.2 tt))) (by omega)) wgs_X12_285 whs_X12_orNeither ⟨(Nat.le_of_ble_eq_true rfl), (Nat.le_of_ble_eq_true rfl)⟩ hl.1 rfl (Nat.le_of_ble_eq_true rfl) ⟨Nat.zero_le _, Nat.zero_le _⟩ wdX12_toneAt_96 (fun H locs w => ?_)
        have hon6 := orN_b (lowI (o1.2.2 tt)) (by omega) (by omega)
        exact e_i F w hr hlocks (congrArg zI ((ofA_y hnn).trans (by rw [← ho1]; exact toneA_1 htt c5)).symm) wdX12_toneAt_99
      · refine r_val (v := zI 2) (congrArg zI c5) ?_
        refine lv_tableIn (tgt := 100) hx hb wdX12_toneAt_55 (by decide) (by decide) (off := 45) rfl (by decide) ?_
        refine lv_iload hx hb wdX12_toneAt_100 (lv_at hl 1 rfl) ?_
        refine x_Si F w (As := [.int (zI (((o1.2.2 tt) : Nat) : Int))]) (rest := []) (s_X12_lastOf (m9 := (o1.2.2 tt)) (by omega)) wgs_X12_59 whs_X12_lastOf ⟨(Nat.le_of_ble_eq_true rfl), (Nat.le_of_ble_eq_true rfl)⟩ hl.1 rfl (Nat.le_of_ble_eq_true rfl) ⟨Nat.zero_le _, Nat.zero_le _⟩ wdX12_toneAt_102 (fun H locs w => ?_)
        have hw7 := higI_rg (o1.2.2 tt) (by omega)
        refine x_Si F w (As := [.int (zI (higI (o1.2.2 tt)))]) (rest := []) (k_orNeither (x9 := (higI (o1.2.2 tt))) (by omega)) wgs_X12_285 whs_X12_orNeither ⟨(Nat.le_of_ble_eq_true rfl), (Nat.le_of_ble_eq_true rfl)⟩ hl.1 rfl (Nat.le_of_ble_eq_true rfl) ⟨Nat.zero_le _, Nat.zero_le _⟩ wdX12_toneAt_105 (fun H locs w => ?_)
        have hon8 := orN_b (higI (o1.2.2 tt)) (by omega) (by omega)
        exact e_i F w hr hlocks (congrArg zI ((ofA_y hnn).trans (by rw [← ho1]; exact toneA_2 htt c5)).symm) wdX12_toneAt_108
      · refine r_val (v := zI 3) (congrArg zI c5) ?_
        refine lv_tableIn (tgt := 109) hx hb wdX12_toneAt_55 (by decide) (by decide) (off := 54) rfl (by decide) ?_
        refine lv_iload hx hb wdX12_toneAt_109 (lv_at hl 1 rfl) ?_
        refine x_Si F w (As := [.int (zI (((o1.2.2 tt) : Nat) : Int))]) (rest := []) (s_X12_bitsOf (m9 := (o1.2.2 tt)) (by omega)) wgs_X12_76 whs_X12_bitsOf ⟨(Nat.le_of_ble_eq_true rfl), (Nat.le_of_ble_eq_true rfl)⟩ hl.1 rfl (Nat.le_of_ble_eq_true rfl) ⟨Nat.zero_le _, Nat.zero_le _⟩ wdX12_toneAt_111 (fun H locs w => ?_)
        have hp9 := (pop_le (o1.2.2 tt) (by omega)).1
        exact e_i F w hr hlocks (congrArg zI ((ofA_y hnn).trans (by rw [← ho1]; exact toneA_3 htt c5)).symm) wdX12_toneAt_114
      · refine r_val (v := zI 4) (congrArg zI c5) ?_
        refine lv_tableIn (tgt := 115) hx hb wdX12_toneAt_55 (by decide) (by decide) (off := 60) rfl (by decide) ?_
        refine lv_iconst (v := zI 3) hx hb wdX12_toneAt_115 rfl ?_
        refine lv_iconst (v := zI 3) hx hb wdX12_toneAt_116 rfl ?_
        refine lv_iload hx hb wdX12_toneAt_117 (lv_at hl 0 rfl) ?_
        refine z_imul (z := (((3 * (o1.2.1 tt)) : Nat) : Int)) hx hb wdX12_toneAt_119 (by omega) ?_
        refine z_iadd (z := (((3 + (3 * (o1.2.1 tt))) : Nat) : Int)) hx hb wdX12_toneAt_120 (by omega) ?_
        refine lv_aload_n hx hb wdX12_toneAt_121 rfl (lv_at hl 2 rfl) ?_
        refine lv_iload_n hx hb wdX12_toneAt_122 rfl (lv_at hl 4 rfl) ?_
        refine r_val (v := zI (((tt + 1 : Nat) : Int) - 1)) (congrArg zI (by omega)) ?_
        refine x_Vi F w (As := [.int (zI (((tt + 1 : Nat) : Int) - 1))]) (rest := [.int (zI (((3 + (3 * (o1.2.1 tt))) : Nat) : Int))]) (a := 146) (kd_lt (a := 146) (show kd 146 = (12, 0, 0) from rfl) (by decide)) (sh_12 rfl _ _) rfl (k_fallsTo hR (m9 := (tt + 1)) (by omega)) wgv_X12_273 whv_X12_fallsTo ⟨(Nat.le_of_ble_eq_true rfl), (Nat.le_of_ble_eq_true rfl)⟩ hl.1 rfl (Nat.le_of_ble_eq_true rfl) ⟨Nat.zero_le _, Nat.zero_le _⟩ wdX12_toneAt_123 (fun H locs w => ?_)
        have hfm := fw_b (K := o1.2.1) (tt + 1)
        refine z_isub (z := ((((3 + (3 * (o1.2.1 tt))) : Nat) : Int) - (((fwS o1.2.1 (tt + 1)).1 : Nat) : Int))) hx hb wdX12_toneAt_126 (by omega) ?_
        exact e_i F w hr hlocks (congrArg zI ((ofA_y hnn).trans (by rw [← ho1]; exact (toneA_4 htt c5).trans (by omega))).symm) wdX12_toneAt_127
      · refine lv_tableOut (tgt := 128) hx hb wdX12_toneAt_55 (by rw [zI_toInt (by omega)]; omega) (by decide) ?_
        refine lv_iconst (v := zI (-1)) hx hb wdX12_toneAt_128 rfl ?_
        exact e_i F w hr hlocks (congrArg zI ((ofA_y hnn).trans (by rw [← ho1]; exact toneA_d htt c5)).symm) wdX12_toneAt_129
    · rw [hMe] at w
      refine z_if_ne (tgt := 33) hx hb (by omega) wdX12_toneAt_18 (by decide) (fun c12 => False.elim (by omega)) (fun c12 => ?_)
      refine lv_iload_n hx hb wdX12_toneAt_21 rfl (lv_at hl 3 rfl) ?_
      refine lv_iconst (v := zI 4) hx hb wdX12_toneAt_22 rfl ?_
      refine z_icmp_ne (tgt := 31) hx hb (by omega) (by omega) wdX12_toneAt_23 (by decide) (fun c13 => ?_) (fun c13 => ?_)
      · refine lv_iconst (v := zI (-1)) hx hb wdX12_toneAt_31 rfl ?_
        exact e_i F w hr hlocks (congrArg zI ((ofA_y hnn).trans (by rw [← ho1]; exact toneA_nn ntt (by omega))).symm) wdX12_toneAt_32
      · refine lv_bipush (v := zI (-100)) hx hb wdX12_toneAt_26 (by decide) ?_
        refine lv_goto (tgt := 32) hx hb wdX12_toneAt_28 (by decide) ?_
        exact e_i F w hr hlocks (congrArg zI ((ofA_y hnn).trans (by rw [← ho1]; exact toneA_n4 ntt (by omega))).symm) wdX12_toneAt_32
  · refine z_if_ne (tgt := 10) hx hb (by omega) wdX12_toneAt_5 (by decide) (fun c14 => False.elim (by omega)) (fun c14 => ?_)
    refine lv_iconst (v := zI (-1)) hx hb wdX12_toneAt_8 rfl ?_
    exact e_i F w hr hlocks (congrArg zI (ofA_n hnc).symm) wdX12_toneAt_9
