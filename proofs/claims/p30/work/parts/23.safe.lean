theorem dX11_isKind_0 : decode cX11_isKind 0 = .ok (.iload_n 0, 1) := wdX11_isKind_0
theorem dX11_isKind_1 : decode cX11_isKind 1 = .ok (.ifCond .lt 12, 3) := wdX11_isKind_1
theorem dX11_isKind_13 : decode cX11_isKind 13 = .ok (.iconst 0, 1) := wdX11_isKind_13
theorem dX11_isKind_14 : decode cX11_isKind 14 = .ok (.ireturn, 1) := wdX11_isKind_14
theorem dX11_isKind_4 : decode cX11_isKind 4 = .ok (.iload_n 0, 1) := wdX11_isKind_4
theorem dX11_isKind_5 : decode cX11_isKind 5 = .ok (.iconst 2, 1) := wdX11_isKind_5
theorem dX11_isKind_6 : decode cX11_isKind 6 = .ok (.if_icmp .gt 7, 3) := wdX11_isKind_6
theorem dX11_isKind_9 : decode cX11_isKind 9 = .ok (.iconst 1, 1) := wdX11_isKind_9
theorem dX11_isKind_10 : decode cX11_isKind 10 = .ok (.goto 4, 3) := wdX11_isKind_10
set_option maxRecDepth 4000 in
theorem q_X11_isKind {l : Launch} {D : va_G} {B : Nat} {cy : Nat → ClassId} {M : Mem} {x : Int} (hx : (-2147483648) ≤ x ∧ x ≤ 2147483647) (hI : Inv M) : Ci l D B cy yX11_isKind cX11_isKind 1 (some .boolean) 0 0 [.int (zI x)] M (fun r M1 => ∃ z : Int, r = zI z ∧ (0 ≤ z ∧ z ≤ 1) ∧ ((z = 0 ∨ (0 ≤ x ∧ x ≤ 2))) ∧ M1 = M) := by
  refine s_anyQ (by decide) (Nat.le_of_ble_eq_true rfl) ?_
  intro p e s m args below meth c ls Q F hr hlocks hQ w hl
  have F : CallFix p m c cX11_isKind 1 s args TB RX11 := F
  have hx := F.1
  have hb := F.2.1
  have hl : lv_has ls 1 [(0, .int (zI x))] := hl
  refine lv_iload_n hx hb dX11_isKind_0 rfl (lv_at hl 0 rfl) ?_
  refine z_if_lt (tgt := 13) hx hb (by omega) dX11_isKind_1 (by decide) (fun c1 => ?_) (fun c1 => ?_)
  · refine lv_iconst (v := zI 0) hx hb dX11_isKind_13 rfl ?_
    rw [hQ]
    exact e_z F w hr hlocks (nar_z (by omega)) ⟨_, rfl, (by omega), (by omega), rfl⟩ dX11_isKind_14
  · refine lv_iload_n hx hb dX11_isKind_4 rfl (lv_at hl 0 rfl) ?_
    refine lv_iconst (v := zI 2) hx hb dX11_isKind_5 rfl ?_
    refine z_icmp_gt (tgt := 13) hx hb (by omega) (by omega) dX11_isKind_6 (by decide) (fun c2 => ?_) (fun c2 => ?_)
    · refine lv_iconst (v := zI 0) hx hb dX11_isKind_13 rfl ?_
      rw [hQ]
      exact e_z F w hr hlocks (nar_z (by omega)) ⟨_, rfl, (by omega), (by omega), rfl⟩ dX11_isKind_14
    · refine lv_iconst (v := zI 1) hx hb dX11_isKind_9 rfl ?_
      refine lv_goto (tgt := 14) hx hb dX11_isKind_10 (by decide) ?_
      rw [hQ]
      exact e_z F w hr hlocks (nar_z (by omega)) ⟨_, rfl, (by omega), (by omega), rfl⟩ dX11_isKind_14
theorem dX11_isLetter_0 : decode cX11_isLetter 0 = .ok (.iload_n 0, 1) := rdX11_isLetter_0
theorem dX11_isLetter_1 : decode cX11_isLetter 1 = .ok (.bipush 97, 2) := rdX11_isLetter_1
theorem dX11_isLetter_3 : decode cX11_isLetter 3 = .ok (.if_icmp .lt 13, 3) := rdX11_isLetter_3
theorem dX11_isLetter_16 : decode cX11_isLetter 16 = .ok (.iconst 0, 1) := rdX11_isLetter_16
theorem dX11_isLetter_17 : decode cX11_isLetter 17 = .ok (.ireturn, 1) := rdX11_isLetter_17
theorem dX11_isLetter_6 : decode cX11_isLetter 6 = .ok (.iload_n 0, 1) := rdX11_isLetter_6
theorem dX11_isLetter_7 : decode cX11_isLetter 7 = .ok (.bipush 122, 2) := rdX11_isLetter_7
theorem dX11_isLetter_9 : decode cX11_isLetter 9 = .ok (.if_icmp .gt 7, 3) := rdX11_isLetter_9
theorem dX11_isLetter_12 : decode cX11_isLetter 12 = .ok (.iconst 1, 1) := rdX11_isLetter_12
theorem dX11_isLetter_13 : decode cX11_isLetter 13 = .ok (.goto 4, 3) := rdX11_isLetter_13
set_option maxRecDepth 4000 in
theorem q_X11_isLetter {l : Launch} {D : va_G} {B : Nat} {cy : Nat → ClassId} {M : Mem} {x : Int} (hx : (-2147483648) ≤ x ∧ x ≤ 2147483647) (hI : Inv M) : Ci l D B cy yX11_isLetter cX11_isLetter 1 (some .boolean) 0 0 [.int (zI x)] M (fun r M1 => ∃ z : Int, r = zI z ∧ (0 ≤ z ∧ z ≤ 1) ∧ ((z = 0 ∨ (97 ≤ x ∧ x ≤ 122))) ∧ M1 = M) := by
  refine s_anyQ (by decide) (Nat.le_of_ble_eq_true rfl) ?_
  intro p e s m args below meth c ls Q F hr hlocks hQ w hl
  have F : CallFix p m c cX11_isLetter 1 s args TB RX11 := F
  have hx := F.1
  have hb := F.2.1
  have hl : lv_has ls 1 [(0, .int (zI x))] := hl
  refine lv_iload_n hx hb dX11_isLetter_0 rfl (lv_at hl 0 rfl) ?_
  refine lv_bipush (v := zI 97) hx hb dX11_isLetter_1 (by decide) ?_
  refine z_icmp_lt (tgt := 16) hx hb (by omega) (by omega) dX11_isLetter_3 (by decide) (fun c1 => ?_) (fun c1 => ?_)
  · refine lv_iconst (v := zI 0) hx hb dX11_isLetter_16 rfl ?_
    rw [hQ]
    exact e_z F w hr hlocks (nar_z (by omega)) ⟨_, rfl, (by omega), (by omega), rfl⟩ dX11_isLetter_17
  · refine lv_iload_n hx hb dX11_isLetter_6 rfl (lv_at hl 0 rfl) ?_
    refine lv_bipush (v := zI 122) hx hb dX11_isLetter_7 (by decide) ?_
    refine z_icmp_gt (tgt := 16) hx hb (by omega) (by omega) dX11_isLetter_9 (by decide) (fun c2 => ?_) (fun c2 => ?_)
    · refine lv_iconst (v := zI 0) hx hb dX11_isLetter_16 rfl ?_
      rw [hQ]
      exact e_z F w hr hlocks (nar_z (by omega)) ⟨_, rfl, (by omega), (by omega), rfl⟩ dX11_isLetter_17
    · refine lv_iconst (v := zI 1) hx hb dX11_isLetter_12 rfl ?_
      refine lv_goto (tgt := 17) hx hb dX11_isLetter_13 (by decide) ?_
      rw [hQ]
      exact e_z F w hr hlocks (nar_z (by omega)) ⟨_, rfl, (by omega), (by omega), rfl⟩ dX11_isLetter_17
theorem dX11_digitOf_0 : decode cX11_digitOf 0 = .ok (.iload_n 0, 1) := rdX11_digitOf_0
theorem dX11_digitOf_1 : decode cX11_digitOf 1 = .ok (.bipush 48, 2) := rdX11_digitOf_1
theorem dX11_digitOf_3 : decode cX11_digitOf 3 = .ok (.if_icmp .lt 16, 3) := rdX11_digitOf_3
theorem dX11_digitOf_19 : decode cX11_digitOf 19 = .ok (.iconst (-1), 1) := rdX11_digitOf_19
theorem dX11_digitOf_20 : decode cX11_digitOf 20 = .ok (.ireturn, 1) := rdX11_digitOf_20
theorem dX11_digitOf_6 : decode cX11_digitOf 6 = .ok (.iload_n 0, 1) := rdX11_digitOf_6
theorem dX11_digitOf_7 : decode cX11_digitOf 7 = .ok (.bipush 57, 2) := rdX11_digitOf_7
theorem dX11_digitOf_9 : decode cX11_digitOf 9 = .ok (.if_icmp .gt 10, 3) := rdX11_digitOf_9
theorem dX11_digitOf_12 : decode cX11_digitOf 12 = .ok (.iload_n 0, 1) := rdX11_digitOf_12
theorem dX11_digitOf_13 : decode cX11_digitOf 13 = .ok (.bipush 48, 2) := rdX11_digitOf_13
theorem dX11_digitOf_15 : decode cX11_digitOf 15 = .ok (.isub, 1) := rdX11_digitOf_15
theorem dX11_digitOf_16 : decode cX11_digitOf 16 = .ok (.goto 4, 3) := rdX11_digitOf_16
set_option maxRecDepth 4000 in
theorem q_X11_digitOf {l : Launch} {D : va_G} {B : Nat} {cy : Nat → ClassId} {M : Mem} {x : Int} (hx : (-2147483648) ≤ x ∧ x ≤ 2147483647) (hI : Inv M) : Ci l D B cy yX11_digitOf cX11_digitOf 1 (some .int) 0 0 [.int (zI x)] M (fun r M1 => ∃ z : Int, r = zI z ∧ ((-1) ≤ z ∧ z ≤ 9) ∧ M1 = M) := by
  refine s_anyQ (by decide) (Nat.le_of_ble_eq_true rfl) ?_
  intro p e s m args below meth c ls Q F hr hlocks hQ w hl
  have F : CallFix p m c cX11_digitOf 1 s args TB RX11 := F
  have hx := F.1
  have hb := F.2.1
  have hl : lv_has ls 1 [(0, .int (zI x))] := hl
  refine lv_iload_n hx hb dX11_digitOf_0 rfl (lv_at hl 0 rfl) ?_
  refine lv_bipush (v := zI 48) hx hb dX11_digitOf_1 (by decide) ?_
  refine z_icmp_lt (tgt := 19) hx hb (by omega) (by omega) dX11_digitOf_3 (by decide) (fun c1 => ?_) (fun c1 => ?_)
  · refine lv_iconst (v := zI (-1)) hx hb dX11_digitOf_19 rfl ?_
    rw [hQ]
    exact e_i F w hr hlocks ⟨_, rfl, (by omega), rfl⟩ dX11_digitOf_20
  · refine lv_iload_n hx hb dX11_digitOf_6 rfl (lv_at hl 0 rfl) ?_
    refine lv_bipush (v := zI 57) hx hb dX11_digitOf_7 (by decide) ?_
    refine z_icmp_gt (tgt := 19) hx hb (by omega) (by omega) dX11_digitOf_9 (by decide) (fun c2 => ?_) (fun c2 => ?_)
    · refine lv_iconst (v := zI (-1)) hx hb dX11_digitOf_19 rfl ?_
      rw [hQ]
      exact e_i F w hr hlocks ⟨_, rfl, (by omega), rfl⟩ dX11_digitOf_20
    · refine lv_iload_n hx hb dX11_digitOf_12 rfl (lv_at hl 0 rfl) ?_
      refine lv_bipush (v := zI 48) hx hb dX11_digitOf_13 (by decide) ?_
      refine z_isub (z := (x - 48)) hx hb dX11_digitOf_15 (by omega) ?_
      refine lv_goto (tgt := 20) hx hb dX11_digitOf_16 (by decide) ?_
      rw [hQ]
      exact e_i F w hr hlocks ⟨_, rfl, (by omega), rfl⟩ dX11_digitOf_20
theorem dX11_outdate_0 : decode cX11_outdate 0 = .ok (.aload_n 0, 1) := rdX11_outdate_0
theorem dX11_outdate_1 : decode cX11_outdate 1 = .ok (.getfield 35, 3) := rdX11_outdate_1
theorem tb_273 : Cond.fieldLink "ToneLines" 35 "ToneLines" "derivation" "LToneLines$Derivation;" ∈ TB := rtb_95
theorem dX11_outdate_4 : decode cX11_outdate 4 = .ok (.iconst 0, 1) := rdX11_outdate_4
theorem dX11_outdate_5 : decode cX11_outdate 5 = .ok (.putfield 301, 3) := rdX11_outdate_5
theorem tb_274 : Cond.fieldLink "ToneLines" 301 "ToneLines$Derivation" "ready" "I" ∈ TB := rtb_96
theorem dX11_outdate_8 : decode cX11_outdate 8 = .ok (.aload_n 0, 1) := rdX11_outdate_8
theorem dX11_outdate_9 : decode cX11_outdate 9 = .ok (.getfield 54, 3) := rdX11_outdate_9
theorem tb_275 : Cond.fieldLink "ToneLines" 54 "ToneLines" "ordering" "LToneLines$Orders;" ∈ TB := rtb_97
theorem dX11_outdate_12 : decode cX11_outdate 12 = .ok (.iconst 0, 1) := rdX11_outdate_12
theorem dX11_outdate_13 : decode cX11_outdate 13 = .ok (.putfield 271, 3) := rdX11_outdate_13
theorem tb_276 : Cond.fieldLink "ToneLines" 271 "ToneLines$Orders" "inDate" "Z" ∈ TB := rtb_98
theorem dX11_outdate_16 : decode cX11_outdate 16 = .ok (.aload_n 0, 1) := rdX11_outdate_16
theorem dX11_outdate_17 : decode cX11_outdate 17 = .ok (.getfield 61, 3) := rdX11_outdate_17
theorem tb_277 : Cond.fieldLink "ToneLines" 61 "ToneLines" "alikes" "LToneLines$Sources;" ∈ TB := rtb_99
theorem dX11_outdate_20 : decode cX11_outdate 20 = .ok (.iconst 0, 1) := rdX11_outdate_20
theorem dX11_outdate_21 : decode cX11_outdate 21 = .ok (.putfield 304, 3) := rdX11_outdate_21
theorem tb_278 : Cond.fieldLink "ToneLines" 304 "ToneLines$Sources" "known" "I" ∈ TB := rtb_100
theorem dX11_outdate_24 : decode cX11_outdate 24 = .ok (.return_, 1) := rdX11_outdate_24
set_option maxRecDepth 4000 in
theorem q_X11_outdate {l : Launch} {D : va_G} {B : Nat} {cy : Nat → ClassId} {M : Mem}  (hI : Inv M) : Cv l D B cy yX11_outdate cX11_outdate 1 0 0 [.ref (B + 0)] M (fun M1 => Inv M1 ∧ Fr (fun b9 k9 => (b9 = 109 ∧ k9 = 0) ∨ (b9 = 22 ∧ k9 = 7) ∨ b9 = 135) M1 M) := by
  refine s_anyQ (by decide) (Nat.le_of_ble_eq_true rfl) ?_
  intro p e s m args below meth c ls Q F hr hlocks hQ w hl
  have F : CallFix p m c cX11_outdate 1 s args TB RX11 := F
  have hx := F.1
  have hb := F.2.1
  have hl : lv_has ls 1 [(0, .ref (B + 0))] := hl
  have hF : Fr (fun b9 k9 => (b9 = 109 ∧ k9 = 0) ∨ (b9 = 22 ∧ k9 = 7) ∨ b9 = 135) M M := Fr.rf
  refine lv_aload_n hx hb dX11_outdate_0 rfl (lv_at hl 0 rfl) ?_
  refine f_11_3 F w (a := 0) rfl tb_273 dX11_outdate_1 ?_
  refine lv_iconst (v := zI 0) hx hb dX11_outdate_4 rfl ?_
  refine u_0_7 F w (a := 22) rfl tb_274 dX11_outdate_5 (fun H locs w => ?_)
  refine lv_aload_n hx hb dX11_outdate_8 rfl (lv_at hl 0 rfl) ?_
  refine f_11_6 F w (a := 0) rfl tb_275 dX11_outdate_9 ?_
  refine lv_iconst (v := zI 0) hx hb dX11_outdate_12 rfl ?_
  refine u_3_0 F w (a := 109) rfl (nar_z (by omega)) (fit_z (by omega)) tb_276 dX11_outdate_13 (fun H locs w => ?_)
  refine lv_aload_n hx hb dX11_outdate_16 rfl (lv_at hl 0 rfl) ?_
  refine f_11_7 F w (a := 0) rfl tb_277 dX11_outdate_17 ?_
  refine lv_iconst (v := zI 0) hx hb dX11_outdate_20 rfl ?_
  refine u_6_0 F w (a := 135) rfl tb_278 dX11_outdate_21 (fun H locs w => ?_)
  rw [hQ]
  exact e_v F w hr hlocks ⟨(Inv.to (Inv.to (Inv.to hI (a := 22) (k := 7) (x := 0) (show iv 22 7 = (0, 8) from rfl) (by omega)) (a := 109) (k := 0) (x := 0) (show iv 109 0 = (0, 1) from rfl) (by omega)) (a := 135) (k := 0) (x := 0) (show iv 135 0 = ((-2147483648), 2147483647) from rfl) (by omega)), (Fr.to (Fr.to (Fr.to hF (by first | omega | (dsimp only; first | done | omega))) (by first | omega | (dsimp only; first | done | omega))) (by first | omega | (dsimp only; first | done | omega)))⟩ dX11_outdate_24
theorem dX11_beginAct_0 : decode cX11_beginAct 0 = .ok (.aload_n 0, 1) := wdX11_beginAct_0
theorem dX11_beginAct_1 : decode cX11_beginAct 1 = .ok (.getfield 47, 3) := wdX11_beginAct_1
theorem tb_279 : Cond.fieldLink "ToneLines" 47 "ToneLines" "history" "LToneLines$History;" ∈ TB := wtb_213
theorem dX11_beginAct_4 : decode cX11_beginAct 4 = .ok (.aload_n 0, 1) := wdX11_beginAct_4
theorem dX11_beginAct_5 : decode cX11_beginAct 5 = .ok (.getfield 43, 3) := wdX11_beginAct_5
theorem tb_280 : Cond.fieldLink "ToneLines" 43 "ToneLines" "told" "LToneLines$Word;" ∈ TB := wtb_214
theorem dX11_beginAct_8 : decode cX11_beginAct 8 = .ok (.invokevirtual 298, 3) := wdX11_beginAct_8
theorem tk_X2_keep : Cond.code yX2_keep cX2_keep 2 none ∈ TB := wtk_X2_keep
theorem gc_X2_keep : GoodIn TB (cw yX2_keep cX2_keep 2 none) := goodIn_c2 tk_X2_keep
theorem tb_281 : Cond.methodLink "ToneLines" 298 yX2_keep ∈ TB := wtb_215
theorem tb_282 : Cond.instanceMethod yX2_keep ∈ TB := wtb_216
theorem tb_283 : Cond.selects "ToneLines$History" yX2_keep yX2_keep ∈ TB := wtb_217
theorem tb_284 : Cond.initialized "ToneLines$History" ∈ TB := wtb_218
theorem gv_X11_298 : GoodIn TB (wsV RX11 298 RX2 yX2_keep (cw yX2_keep cX2_keep 2 none)) := goodIn_4 tb_281 tb_282 tb_283 tb_284 gc_X2_keep
theorem hv_X2_keep : yX2_keep.cls = RX2 ∧ yX2_keep.cls ≠ "java/lang/invoke/MethodHandle" ∧ yX2_keep.cls ≠ "java/lang/invoke/VarHandle" ∧ (parseMethodDescriptor yX2_keep.desc).map (fun d => d.parameters.length) = some 1 := whv_X2_keep
theorem dX11_beginAct_11 : decode cX11_beginAct 11 = .ok (.aload_n 0, 1) := wdX11_beginAct_11
theorem dX11_beginAct_12 : decode cX11_beginAct 12 = .ok (.invokevirtual 97, 3) := wdX11_beginAct_12
theorem tk_X11_outdate : Cond.code yX11_outdate cX11_outdate 1 none ∈ TB := rtk_X11_outdate
theorem gc_X11_outdate : GoodIn TB (cw yX11_outdate cX11_outdate 1 none) := goodIn_c2 tk_X11_outdate
theorem tb_285 : Cond.methodLink "ToneLines" 97 yX11_outdate ∈ TB := rtb_113
theorem tb_286 : Cond.instanceMethod yX11_outdate ∈ TB := rtb_114
theorem tb_287 : Cond.selects "ToneLines" yX11_outdate yX11_outdate ∈ TB := rtb_115
theorem gv_X11_97 : GoodIn TB (wsV RX11 97 RX11 yX11_outdate (cw yX11_outdate cX11_outdate 1 none)) := goodIn_4 tb_285 tb_286 tb_287 tb_95 gc_X11_outdate
theorem hv_X11_outdate : yX11_outdate.cls = RX11 ∧ yX11_outdate.cls ≠ "java/lang/invoke/MethodHandle" ∧ yX11_outdate.cls ≠ "java/lang/invoke/VarHandle" ∧ (parseMethodDescriptor yX11_outdate.desc).map (fun d => d.parameters.length) = some 0 := rhv_X11_outdate
theorem dX11_beginAct_15 : decode cX11_beginAct 15 = .ok (.return_, 1) := wdX11_beginAct_15
set_option maxRecDepth 4000 in
theorem q_X11_beginAct {l : Launch} {D : va_G} {B : Nat} {cy : Nat → ClassId} {M : Mem}  (hI : Inv M) : Cv l D B cy yX11_beginAct cX11_beginAct 1 3 82 [.ref (B + 0)] M (fun M1 => Inv M1 ∧ Fr (fun b9 k9 => (b9 = 109 ∧ k9 = 0) ∨ (b9 = 22 ∧ k9 = 7) ∨ (b9 = 71 ∧ k9 = 1) ∨ (b9 = 71 ∧ k9 = 2) ∨ b9 = 135 ∨ (73 ≤ b9 ∧ b9 ≤ 108)) M1 M) := by
  refine s_anyQ (by decide) (Nat.le_of_ble_eq_true rfl) ?_
  intro p e s m args below meth c ls Q F hr hlocks hQ w hl
  have F : CallFix p m c cX11_beginAct 1 s args TB RX11 := F
  have hx := F.1
  have hb := F.2.1
  have hl : lv_has ls 1 [(0, .ref (B + 0))] := hl
  have hF : Fr (fun b9 k9 => (b9 = 109 ∧ k9 = 0) ∨ (b9 = 22 ∧ k9 = 7) ∨ (b9 = 71 ∧ k9 = 1) ∨ (b9 = 71 ∧ k9 = 2) ∨ b9 = 135 ∨ (73 ≤ b9 ∧ b9 ≤ 108)) M M := Fr.rf
  refine lv_aload_n hx hb dX11_beginAct_0 rfl (lv_at hl 0 rfl) ?_
  refine f_11_5 F w (a := 0) rfl tb_279 dX11_beginAct_1 ?_
  refine lv_aload_n hx hb dX11_beginAct_4 rfl (lv_at hl 0 rfl) ?_
  refine f_11_4 F w (a := 0) rfl tb_280 dX11_beginAct_5 ?_
  refine k_Vv F w (As := [.ref (B + 44)]) (rest := []) (a := 71) (kd_lt (a := 71) (show kd 71 = (2, 0, 0) from rfl) (by decide)) (sh_2 rfl _ _) rfl (q_X2_keep (a := 44) rfl  hI) gv_X11_298 hv_X2_keep ⟨(Nat.le_of_ble_eq_true rfl), (Nat.le_of_ble_eq_true rfl)⟩ hl.1 rfl (Nat.le_of_ble_eq_true rfl) ⟨Nat.zero_le _, Nat.zero_le _⟩ dX11_beginAct_8 (fun N2 H locs hp w => ?_)
  obtain ⟨hIN2, hFN2⟩ := hp
  have hGN2 := Fr.tr hF hFN2 (S := (fun b9 k9 => (b9 = 109 ∧ k9 = 0) ∨ (b9 = 22 ∧ k9 = 7) ∨ (b9 = 71 ∧ k9 = 1) ∨ (b9 = 71 ∧ k9 = 2) ∨ b9 = 135 ∨ (73 ≤ b9 ∧ b9 ≤ 108))) (fun b k h => by (try dsimp only at h ⊢); (repeat' (refine Or.elim h ?_ ?_ <;> clear h <;> intro h)); all_goals first | (obtain ⟨rfl, rfl⟩ := h; decide) | (subst h; decide) | omega)
  refine lv_aload_n hx hb dX11_beginAct_11 rfl (lv_at hl 0 rfl) ?_
  refine k_Vv F w (As := []) (rest := []) (a := 0) (kd_lt (a := 0) (show kd 0 = (11, 0, 0) from rfl) (by decide)) (sh_11 rfl _ _) rfl (q_X11_outdate   hIN2) gv_X11_97 hv_X11_outdate ⟨(Nat.le_of_ble_eq_true rfl), (Nat.le_of_ble_eq_true rfl)⟩ hl.1 rfl (Nat.le_of_ble_eq_true rfl) ⟨Nat.zero_le _, Nat.zero_le _⟩ dX11_beginAct_12 (fun N5 H locs hp w => ?_)
  obtain ⟨hIN5, hFN5⟩ := hp
  have hGN5 := Fr.tr hGN2 hFN5 (S := (fun b9 k9 => (b9 = 109 ∧ k9 = 0) ∨ (b9 = 22 ∧ k9 = 7) ∨ (b9 = 71 ∧ k9 = 1) ∨ (b9 = 71 ∧ k9 = 2) ∨ b9 = 135 ∨ (73 ≤ b9 ∧ b9 ≤ 108))) (fun b k h => by (try dsimp only at h ⊢); (repeat' (refine Or.elim h ?_ ?_ <;> clear h <;> intro h)); all_goals first | (obtain ⟨rfl, rfl⟩ := h; decide) | (subst h; decide) | omega)
  rw [hQ]
  exact e_v F w hr hlocks ⟨hIN5, hGN5⟩ dX11_beginAct_15
theorem dX11_becomes_0 : decode cX11_becomes 0 = .ok (.iload_n 2, 1) := wdX11_becomes_0
theorem dX11_becomes_1 : decode cX11_becomes 1 = .ok (.ifCond .le 15, 3) := wdX11_becomes_1
theorem dX11_becomes_16 : decode cX11_becomes 16 = .ok (.return_, 1) := wdX11_becomes_16
theorem dX11_becomes_4 : decode cX11_becomes 4 = .ok (.aload_n 0, 1) := wdX11_becomes_4
theorem dX11_becomes_5 : decode cX11_becomes 5 = .ok (.invokevirtual 123, 3) := wdX11_becomes_5
theorem tk_X11_beginAct : Cond.code yX11_beginAct cX11_beginAct 1 none ∈ TB := wtk_X11_beginAct
theorem gc_X11_beginAct : GoodIn TB (cw yX11_beginAct cX11_beginAct 1 none) := goodIn_c2 tk_X11_beginAct
theorem tb_288 : Cond.methodLink "ToneLines" 123 yX11_beginAct ∈ TB := wtb_222
theorem tb_289 : Cond.instanceMethod yX11_beginAct ∈ TB := wtb_223
theorem tb_290 : Cond.selects "ToneLines" yX11_beginAct yX11_beginAct ∈ TB := wtb_224
theorem gv_X11_123 : GoodIn TB (wsV RX11 123 RX11 yX11_beginAct (cw yX11_beginAct cX11_beginAct 1 none)) := goodIn_4 tb_288 tb_289 tb_290 tb_95 gc_X11_beginAct
theorem hv_X11_beginAct : yX11_beginAct.cls = RX11 ∧ yX11_beginAct.cls ≠ "java/lang/invoke/MethodHandle" ∧ yX11_beginAct.cls ≠ "java/lang/invoke/VarHandle" ∧ (parseMethodDescriptor yX11_beginAct.desc).map (fun d => d.parameters.length) = some 0 := whv_X11_beginAct
theorem dX11_becomes_8 : decode cX11_becomes 8 = .ok (.aload_n 0, 1) := wdX11_becomes_8
theorem dX11_becomes_9 : decode cX11_becomes 9 = .ok (.getfield 43, 3) := wdX11_becomes_9
theorem dX11_becomes_12 : decode cX11_becomes 12 = .ok (.aload_n 1, 1) := wdX11_becomes_12
theorem dX11_becomes_13 : decode cX11_becomes 13 = .ok (.invokevirtual 90, 3) := wdX11_becomes_13
theorem tb_291 : Cond.methodLink "ToneLines" 90 yX9_copyFrom ∈ TB := wtb_225
theorem gv_X11_90 : GoodIn TB (wsV RX11 90 RX9 yX9_copyFrom (cw yX9_copyFrom cX9_copyFrom 2 none)) := goodIn_4 tb_291 tb_191 tb_192 tb_5 gc_X9_copyFrom
set_option maxRecDepth 4000 in
theorem q_X11_becomes {l : Launch} {D : va_G} {B : Nat} {cy : Nat → ClassId} {M : Mem} {a : Nat} (hka : kd a = (9, 0, 0)) {x : Int} (hx : (-2147483648) ≤ x ∧ x ≤ 2147483647) (hI : Inv M) : Cv l D B cy yX11_becomes cX11_becomes 3 4 102 [.ref (B + 0), .ref (B + a), .int (zI x)] M (fun M1 => Inv M1 ∧ Fr (fun b9 k9 => (b9 = 109 ∧ k9 = 0) ∨ (b9 = 22 ∧ k9 = 7) ∨ (b9 = 71 ∧ k9 = 1) ∨ (b9 = 71 ∧ k9 = 2) ∨ b9 = 135 ∨ b9 = 44 ∨ b9 = 45 ∨ b9 = 46 ∨ (73 ≤ b9 ∧ b9 ≤ 108)) M1 M) := by
  refine s_anyQ (by decide) (Nat.le_of_ble_eq_true rfl) ?_
  intro p e s m args below meth c ls Q F hr hlocks hQ w hl
  have F : CallFix p m c cX11_becomes 3 s args TB RX11 := F
  have hx := F.1
  have hb := F.2.1
  have hl : lv_has ls 3 [(0, .ref (B + 0)), (1, .ref (B + a)), (2, .int (zI x))] := hl
  have hF : Fr (fun b9 k9 => (b9 = 109 ∧ k9 = 0) ∨ (b9 = 22 ∧ k9 = 7) ∨ (b9 = 71 ∧ k9 = 1) ∨ (b9 = 71 ∧ k9 = 2) ∨ b9 = 135 ∨ b9 = 44 ∨ b9 = 45 ∨ b9 = 46 ∨ (73 ≤ b9 ∧ b9 ≤ 108)) M M := Fr.rf
  refine lv_iload_n hx hb dX11_becomes_0 rfl (lv_at hl 2 rfl) ?_
  refine z_if_le (tgt := 16) hx hb (by omega) dX11_becomes_1 (by decide) (fun c1 => ?_) (fun c1 => ?_)
  · rw [hQ]
    exact e_v F w hr hlocks ⟨hI, hF⟩ dX11_becomes_16
  · refine lv_aload_n hx hb dX11_becomes_4 rfl (lv_at hl 0 rfl) ?_
    refine k_Vv F w (As := []) (rest := []) (a := 0) (kd_lt (a := 0) (show kd 0 = (11, 0, 0) from rfl) (by decide)) (sh_11 rfl _ _) rfl (q_X11_beginAct   hI) gv_X11_123 hv_X11_beginAct ⟨(Nat.le_of_ble_eq_true rfl), (Nat.le_of_ble_eq_true rfl)⟩ hl.1 rfl (Nat.le_of_ble_eq_true rfl) ⟨Nat.zero_le _, Nat.zero_le _⟩ dX11_becomes_5 (fun N3 H locs hp w => ?_)
    obtain ⟨hIN3, hFN3⟩ := hp
    have hGN3 := Fr.tr hF hFN3 (S := (fun b9 k9 => (b9 = 109 ∧ k9 = 0) ∨ (b9 = 22 ∧ k9 = 7) ∨ (b9 = 71 ∧ k9 = 1) ∨ (b9 = 71 ∧ k9 = 2) ∨ b9 = 135 ∨ b9 = 44 ∨ b9 = 45 ∨ b9 = 46 ∨ (73 ≤ b9 ∧ b9 ≤ 108))) (fun b k h => by (try dsimp only at h ⊢); (repeat' (refine Or.elim h ?_ ?_ <;> clear h <;> intro h)); all_goals first | (obtain ⟨rfl, rfl⟩ := h; decide) | (subst h; decide) | omega)
    refine lv_aload_n hx hb dX11_becomes_8 rfl (lv_at hl 0 rfl) ?_
    refine f_11_4 F w (a := 0) rfl tb_280 dX11_becomes_9 ?_
    refine lv_aload_n hx hb dX11_becomes_12 rfl (lv_at hl 1 rfl) ?_
    refine k_Vv F w (As := [.ref (B + a)]) (rest := []) (a := 44) (kd_lt (a := 44) (show kd 44 = (9, 0, 0) from rfl) (by decide)) (sh_9 rfl _ _) rfl (q_X9_copyFrom (a := 44) rfl (d := a) hka  hIN3) gv_X11_90 hv_X9_copyFrom ⟨(Nat.le_of_ble_eq_true rfl), (Nat.le_of_ble_eq_true rfl)⟩ hl.1 rfl (Nat.le_of_ble_eq_true rfl) ⟨Nat.zero_le _, Nat.zero_le _⟩ dX11_becomes_13 (fun N6 H locs hp w => ?_)
    obtain ⟨hIN6, hFN6⟩ := hp
    have hGN6 := Fr.tr hGN3 hFN6 (S := (fun b9 k9 => (b9 = 109 ∧ k9 = 0) ∨ (b9 = 22 ∧ k9 = 7) ∨ (b9 = 71 ∧ k9 = 1) ∨ (b9 = 71 ∧ k9 = 2) ∨ b9 = 135 ∨ b9 = 44 ∨ b9 = 45 ∨ b9 = 46 ∨ (73 ≤ b9 ∧ b9 ≤ 108))) (fun b k h => by (try dsimp only at h ⊢); (repeat' (refine Or.elim h ?_ ?_ <;> clear h <;> intro h)); all_goals first | (obtain ⟨rfl, rfl⟩ := h; decide) | (subst h; decide) | omega)
    rw [hQ]
    exact e_v F w hr hlocks ⟨hIN6, hGN6⟩ dX11_becomes_16
theorem dX11_feed_0 : decode cX11_feed 0 = .ok (.aload_n 0, 1) := rdX11_feed_0
theorem dX11_feed_1 : decode cX11_feed 1 = .ok (.getfield 12, 3) := rdX11_feed_1
theorem tb_292 : Cond.fieldLink "ToneLines" 12 "ToneLines" "tape" "LToneLines$Tape;" ∈ TB := rtb_105
theorem dX11_feed_4 : decode cX11_feed 4 = .ok (.getfield 78, 3) := rdX11_feed_4
theorem tb_293 : Cond.fieldLink "ToneLines" 78 "ToneLines$Tape" "size" "I" ∈ TB := rtb_106
theorem dX11_feed_7 : decode cX11_feed 7 = .ok (.bipush 20, 2) := rdX11_feed_7
theorem dX11_feed_9 : decode cX11_feed 9 = .ok (.iadd, 1) := rdX11_feed_9
theorem dX11_feed_10 : decode cX11_feed 10 = .ok (.sipush 300, 3) := rdX11_feed_10
theorem dX11_feed_13 : decode cX11_feed 13 = .ok (.if_icmp .le 5, 3) := rdX11_feed_13
theorem dX11_feed_18 : decode cX11_feed 18 = .ok (.aload_n 0, 1) := rdX11_feed_18
theorem dX11_feed_19 : decode cX11_feed 19 = .ok (.getfield 12, 3) := rdX11_feed_19
theorem dX11_feed_22 : decode cX11_feed 22 = .ok (.iload_n 1, 1) := rdX11_feed_22
theorem dX11_feed_23 : decode cX11_feed 23 = .ok (.invokevirtual 82, 3) := rdX11_feed_23
theorem tk_X8_append : Cond.code yX8_append cX8_append 3 none ∈ TB := rtk_X8_append
theorem gc_X8_append : GoodIn TB (cw yX8_append cX8_append 3 none) := goodIn_c2 tk_X8_append
theorem tb_294 : Cond.methodLink "ToneLines" 82 yX8_append ∈ TB := rtb_166
theorem tb_295 : Cond.instanceMethod yX8_append ∈ TB := rtb_167
theorem tb_296 : Cond.selects "ToneLines$Tape" yX8_append yX8_append ∈ TB := rtb_168
theorem tb_297 : Cond.initialized "ToneLines$Tape" ∈ TB := rtb_27
theorem gv_X11_82 : GoodIn TB (wsV RX11 82 RX8 yX8_append (cw yX8_append cX8_append 3 none)) := goodIn_4 tb_294 tb_295 tb_296 tb_297 gc_X8_append
theorem hv_X8_append : yX8_append.cls = RX8 ∧ yX8_append.cls ≠ "java/lang/invoke/MethodHandle" ∧ yX8_append.cls ≠ "java/lang/invoke/VarHandle" ∧ (parseMethodDescriptor yX8_append.desc).map (fun d => d.parameters.length) = some 1 := rhv_X8_append
theorem dX11_feed_26 : decode cX11_feed 26 = .ok (.aload_n 0, 1) := rdX11_feed_26
theorem dX11_feed_27 : decode cX11_feed 27 = .ok (.getfield 12, 3) := rdX11_feed_27
theorem dX11_feed_30 : decode cX11_feed 30 = .ok (.iload_n 2, 1) := rdX11_feed_30
theorem dX11_feed_31 : decode cX11_feed 31 = .ok (.invokevirtual 82, 3) := rdX11_feed_31
theorem dX11_feed_34 : decode cX11_feed 34 = .ok (.aload_n 0, 1) := rdX11_feed_34
theorem dX11_feed_35 : decode cX11_feed 35 = .ok (.getfield 12, 3) := rdX11_feed_35
theorem dX11_feed_38 : decode cX11_feed 38 = .ok (.iload_n 3, 1) := rdX11_feed_38
theorem dX11_feed_39 : decode cX11_feed 39 = .ok (.invokevirtual 82, 3) := rdX11_feed_39
theorem dX11_feed_42 : decode cX11_feed 42 = .ok (.aload_n 0, 1) := rdX11_feed_42
theorem dX11_feed_43 : decode cX11_feed 43 = .ok (.getfield 12, 3) := rdX11_feed_43
theorem dX11_feed_46 : decode cX11_feed 46 = .ok (.iload 4, 2) := rdX11_feed_46
theorem dX11_feed_48 : decode cX11_feed 48 = .ok (.invokevirtual 82, 3) := rdX11_feed_48
theorem dX11_feed_51 : decode cX11_feed 51 = .ok (.aload_n 0, 1) := rdX11_feed_51
theorem dX11_feed_52 : decode cX11_feed 52 = .ok (.getfield 12, 3) := rdX11_feed_52
theorem dX11_feed_55 : decode cX11_feed 55 = .ok (.iload 5, 2) := rdX11_feed_55
theorem dX11_feed_57 : decode cX11_feed 57 = .ok (.invokevirtual 82, 3) := rdX11_feed_57
theorem dX11_feed_60 : decode cX11_feed 60 = .ok (.aload_n 0, 1) := rdX11_feed_60
theorem dX11_feed_61 : decode cX11_feed 61 = .ok (.getfield 12, 3) := rdX11_feed_61
theorem dX11_feed_64 : decode cX11_feed 64 = .ok (.getfield 78, 3) := rdX11_feed_64
theorem dX11_feed_67 : decode cX11_feed 67 = .ok (.ireturn, 1) := rdX11_feed_67
theorem dX11_feed_16 : decode cX11_feed 16 = .ok (.iconst (-1), 1) := rdX11_feed_16
theorem dX11_feed_17 : decode cX11_feed 17 = .ok (.ireturn, 1) := rdX11_feed_17
set_option maxRecDepth 4000 in
theorem q_X11_feed {l : Launch} {D : va_G} {B : Nat} {cy : Nat → ClassId} {M : Mem} {x : Int} (hx : (-2147483648) ≤ x ∧ x ≤ 2147483647) {x1 : Int} (hx1 : (-2147483648) ≤ x1 ∧ x1 ≤ 2147483647) {x2 : Int} (hx2 : (-2147483648) ≤ x2 ∧ x2 ≤ 2147483647) {x3 : Int} (hx3 : (-2147483648) ≤ x3 ∧ x3 ≤ 2147483647) {x4 : Int} (hx4 : (-2147483648) ≤ x4 ∧ x4 ≤ 2147483647) (hI : Inv M) : Ci l D B cy yX11_feed cX11_feed 6 (some .int) 1 22 [.ref (B + 0), .int (zI x), .int (zI x1), .int (zI x2), .int (zI x3), .int (zI x4)] M (fun r M1 => ∃ z : Int, r = zI z ∧ ((-1) ≤ z ∧ z ≤ 300) ∧ Inv M1 ∧ Fr (fun b9 k9 => (b9 = 1 ∧ k9 = 1) ∨ b9 = 2) M1 M) := by
  refine s_anyQ (by decide) (Nat.le_of_ble_eq_true rfl) ?_
  intro p e s m args below meth c ls Q F hr hlocks hQ w hl
  have F : CallFix p m c cX11_feed 6 s args TB RX11 := F
  have hx := F.1
  have hb := F.2.1
  have hl : lv_has ls 6 [(0, .ref (B + 0)), (1, .int (zI x)), (2, .int (zI x1)), (3, .int (zI x2)), (4, .int (zI x3)), (5, .int (zI x4))] := hl
  have hF : Fr (fun b9 k9 => (b9 = 1 ∧ k9 = 1) ∨ b9 = 2) M M := Fr.rf
  refine lv_aload_n hx hb dX11_feed_0 rfl (lv_at hl 0 rfl) ?_
  refine f_11_0 F w (a := 0) rfl tb_292 dX11_feed_1 ?_
  refine f_8_1 F w (a := 1) rfl tb_293 dX11_feed_4 ?_
  obtain ⟨z1, bz1, ez1⟩ := Inv.ld (k := 1) hI (show iv 1 1 = (0, 300) from rfl) (show 1 < 146 by decide)
  refine r_val ez1 ?_
  refine lv_bipush (v := zI 20) hx hb dX11_feed_7 (by decide) ?_
  refine z_iadd (z := (z1 + 20)) hx hb dX11_feed_9 (by omega) ?_
  refine lv_sipush (v := zI 300) hx hb dX11_feed_10 (by decide) ?_
  refine z_icmp_le (tgt := 18) hx hb (by omega) (by omega) dX11_feed_13 (by decide) (fun c2 => ?_) (fun c2 => ?_)
  · refine lv_aload_n hx hb dX11_feed_18 rfl (lv_at hl 0 rfl) ?_
    refine f_11_0 F w (a := 0) rfl tb_292 dX11_feed_19 ?_
    refine lv_iload_n hx hb dX11_feed_22 rfl (lv_at hl 1 rfl) ?_
    refine k_Vv F w (As := [.int (zI x)]) (rest := []) (a := 1) (kd_lt (a := 1) (show kd 1 = (8, 0, 0) from rfl) (by decide)) (sh_8 rfl _ _) rfl (q_X8_append (x := x) (by omega)  hI) gv_X11_82 hv_X8_append ⟨(Nat.le_of_ble_eq_true rfl), (Nat.le_of_ble_eq_true rfl)⟩ hl.1 rfl (Nat.le_of_ble_eq_true rfl) ⟨Nat.zero_le _, Nat.zero_le _⟩ dX11_feed_23 (fun N4 H locs hp w => ?_)
    obtain ⟨hIN4, hFN4⟩ := hp
    have hGN4 := Fr.tr hF hFN4 (S := (fun b9 k9 => (b9 = 1 ∧ k9 = 1) ∨ b9 = 2)) (fun b k h => by (try dsimp only at h ⊢); (repeat' (refine Or.elim h ?_ ?_ <;> clear h <;> intro h)); all_goals first | (obtain ⟨rfl, rfl⟩ := h; decide) | (subst h; decide) | omega)
    refine lv_aload_n hx hb dX11_feed_26 rfl (lv_at hl 0 rfl) ?_
    refine f_11_0 F w (a := 0) rfl tb_292 dX11_feed_27 ?_
    refine lv_iload_n hx hb dX11_feed_30 rfl (lv_at hl 2 rfl) ?_
    refine k_Vv F w (As := [.int (zI x1)]) (rest := []) (a := 1) (kd_lt (a := 1) (show kd 1 = (8, 0, 0) from rfl) (by decide)) (sh_8 rfl _ _) rfl (q_X8_append (x := x1) (by omega)  hIN4) gv_X11_82 hv_X8_append ⟨(Nat.le_of_ble_eq_true rfl), (Nat.le_of_ble_eq_true rfl)⟩ hl.1 rfl (Nat.le_of_ble_eq_true rfl) ⟨Nat.zero_le _, Nat.zero_le _⟩ dX11_feed_31 (fun N7 H locs hp w => ?_)
    obtain ⟨hIN7, hFN7⟩ := hp
    have hGN7 := Fr.tr hGN4 hFN7 (S := (fun b9 k9 => (b9 = 1 ∧ k9 = 1) ∨ b9 = 2)) (fun b k h => by (try dsimp only at h ⊢); (repeat' (refine Or.elim h ?_ ?_ <;> clear h <;> intro h)); all_goals first | (obtain ⟨rfl, rfl⟩ := h; decide) | (subst h; decide) | omega)
    refine lv_aload_n hx hb dX11_feed_34 rfl (lv_at hl 0 rfl) ?_
    refine f_11_0 F w (a := 0) rfl tb_292 dX11_feed_35 ?_
    refine lv_iload_n hx hb dX11_feed_38 rfl (lv_at hl 3 rfl) ?_
    refine k_Vv F w (As := [.int (zI x2)]) (rest := []) (a := 1) (kd_lt (a := 1) (show kd 1 = (8, 0, 0) from rfl) (by decide)) (sh_8 rfl _ _) rfl (q_X8_append (x := x2) (by omega)  hIN7) gv_X11_82 hv_X8_append ⟨(Nat.le_of_ble_eq_true rfl), (Nat.le_of_ble_eq_true rfl)⟩ hl.1 rfl (Nat.le_of_ble_eq_true rfl) ⟨Nat.zero_le _, Nat.zero_le _⟩ dX11_feed_39 (fun N10 H locs hp w => ?_)
    obtain ⟨hIN10, hFN10⟩ := hp
    have hGN10 := Fr.tr hGN7 hFN10 (S := (fun b9 k9 => (b9 = 1 ∧ k9 = 1) ∨ b9 = 2)) (fun b k h => by (try dsimp only at h ⊢); (repeat' (refine Or.elim h ?_ ?_ <;> clear h <;> intro h)); all_goals first | (obtain ⟨rfl, rfl⟩ := h; decide) | (subst h; decide) | omega)
    refine lv_aload_n hx hb dX11_feed_42 rfl (lv_at hl 0 rfl) ?_
    refine f_11_0 F w (a := 0) rfl tb_292 dX11_feed_43 ?_
    refine lv_iload hx hb dX11_feed_46 (lv_at hl 4 rfl) ?_
    refine k_Vv F w (As := [.int (zI x3)]) (rest := []) (a := 1) (kd_lt (a := 1) (show kd 1 = (8, 0, 0) from rfl) (by decide)) (sh_8 rfl _ _) rfl (q_X8_append (x := x3) (by omega)  hIN10) gv_X11_82 hv_X8_append ⟨(Nat.le_of_ble_eq_true rfl), (Nat.le_of_ble_eq_true rfl)⟩ hl.1 rfl (Nat.le_of_ble_eq_true rfl) ⟨Nat.zero_le _, Nat.zero_le _⟩ dX11_feed_48 (fun N13 H locs hp w => ?_)
    obtain ⟨hIN13, hFN13⟩ := hp
    have hGN13 := Fr.tr hGN10 hFN13 (S := (fun b9 k9 => (b9 = 1 ∧ k9 = 1) ∨ b9 = 2)) (fun b k h => by (try dsimp only at h ⊢); (repeat' (refine Or.elim h ?_ ?_ <;> clear h <;> intro h)); all_goals first | (obtain ⟨rfl, rfl⟩ := h; decide) | (subst h; decide) | omega)
    refine lv_aload_n hx hb dX11_feed_51 rfl (lv_at hl 0 rfl) ?_
    refine f_11_0 F w (a := 0) rfl tb_292 dX11_feed_52 ?_
    refine lv_iload hx hb dX11_feed_55 (lv_at hl 5 rfl) ?_
    refine k_Vv F w (As := [.int (zI x4)]) (rest := []) (a := 1) (kd_lt (a := 1) (show kd 1 = (8, 0, 0) from rfl) (by decide)) (sh_8 rfl _ _) rfl (q_X8_append (x := x4) (by omega)  hIN13) gv_X11_82 hv_X8_append ⟨(Nat.le_of_ble_eq_true rfl), (Nat.le_of_ble_eq_true rfl)⟩ hl.1 rfl (Nat.le_of_ble_eq_true rfl) ⟨Nat.zero_le _, Nat.zero_le _⟩ dX11_feed_57 (fun N16 H locs hp w => ?_)
    obtain ⟨hIN16, hFN16⟩ := hp
    have hGN16 := Fr.tr hGN13 hFN16 (S := (fun b9 k9 => (b9 = 1 ∧ k9 = 1) ∨ b9 = 2)) (fun b k h => by (try dsimp only at h ⊢); (repeat' (refine Or.elim h ?_ ?_ <;> clear h <;> intro h)); all_goals first | (obtain ⟨rfl, rfl⟩ := h; decide) | (subst h; decide) | omega)
    refine lv_aload_n hx hb dX11_feed_60 rfl (lv_at hl 0 rfl) ?_
    refine f_11_0 F w (a := 0) rfl tb_292 dX11_feed_61 ?_
    refine f_8_1 F w (a := 1) rfl tb_293 dX11_feed_64 ?_
    obtain ⟨z18, bz18, ez18⟩ := Inv.ld (k := 1) hIN16 (show iv 1 1 = (0, 300) from rfl) (show 1 < 146 by decide)
    refine r_val ez18 ?_
    rw [hQ]
    exact e_i F w hr hlocks ⟨_, rfl, (by omega), hIN16, hGN16⟩ dX11_feed_67
  · refine lv_iconst (v := zI (-1)) hx hb dX11_feed_16 rfl ?_
    rw [hQ]
    exact e_i F w hr hlocks ⟨_, rfl, (by omega), hI, hF⟩ dX11_feed_17
theorem dX11_back_0 : decode cX11_back 0 = .ok (.iload_n 1, 1) := dq0 kk_27 (by decide +kernel)
theorem dX11_back_1 : decode cX11_back 1 = .ok (.ifCond .lt 14, 3) := dqT kk_155 (by decide +kernel)
theorem dX11_back_15 : decode cX11_back 15 = .ok (.iconst (-1), 1) := dq0 kk_2 (by decide +kernel)
theorem dX11_back_16 : decode cX11_back 16 = .ok (.ireturn, 1) := dq0 kk_172 (by decide +kernel)
theorem dX11_back_4 : decode cX11_back 4 = .ok (.iload_n 1, 1) := dq0 kk_27 (by decide +kernel)
theorem dX11_back_5 : decode cX11_back 5 = .ok (.aload_n 0, 1) := dq0 kk_42 (by decide +kernel)
theorem dX11_back_6 : decode cX11_back 6 = .ok (.getfield 12, 3) := dqV kk_180 (by decide +kernel)
theorem dX11_back_9 : decode cX11_back 9 = .ok (.getfield 78, 3) := dqV kk_180 (by decide +kernel)
theorem dX11_back_12 : decode cX11_back 12 = .ok (.if_icmp .le 5, 3) := dqT kk_164 (by decide +kernel)
theorem dX11_back_17 : decode cX11_back 17 = .ok (.aload_n 0, 1) := dq0 kk_42 (by decide +kernel)
theorem dX11_back_18 : decode cX11_back 18 = .ok (.getfield 12, 3) := dqV kk_180 (by decide +kernel)
theorem dX11_back_21 : decode cX11_back 21 = .ok (.dup, 1) := dq0 kk_89 (by decide +kernel)
theorem dX11_back_22 : decode cX11_back 22 = .ok (.getfield 78, 3) := dqV kk_180 (by decide +kernel)
theorem dX11_back_25 : decode cX11_back 25 = .ok (.iload_n 1, 1) := dq0 kk_27 (by decide +kernel)
theorem dX11_back_26 : decode cX11_back 26 = .ok (.isub, 1) := dq0 kk_100 (by decide +kernel)
theorem dX11_back_27 : decode cX11_back 27 = .ok (.putfield 78, 3) := dqV kk_181 (by decide +kernel)
theorem dX11_back_30 : decode cX11_back 30 = .ok (.aload_n 0, 1) := dq0 kk_42 (by decide +kernel)
theorem dX11_back_31 : decode cX11_back 31 = .ok (.getfield 12, 3) := dqV kk_180 (by decide +kernel)
theorem dX11_back_34 : decode cX11_back 34 = .ok (.getfield 78, 3) := dqV kk_180 (by decide +kernel)
theorem dX11_back_37 : decode cX11_back 37 = .ok (.ireturn, 1) := dq0 kk_172 (by decide +kernel)
set_option maxRecDepth 4000 in
theorem q_X11_back {l : Launch} {D : va_G} {B : Nat} {cy : Nat → ClassId} {M : Mem} {x : Int} (hx : (-2147483648) ≤ x ∧ x ≤ 2147483647) (hI : Inv M) : Ci l D B cy yX11_back cX11_back 2 (some .int) 0 0 [.ref (B + 0), .int (zI x)] M (fun r M1 => ∃ z : Int, r = zI z ∧ ((-300) ≤ z ∧ z ≤ 300) ∧ Inv M1 ∧ Fr (fun b9 k9 => (b9 = 1 ∧ k9 = 1)) M1 M) := by
  refine s_anyQ (by decide) (Nat.le_of_ble_eq_true rfl) ?_
  intro p e s m args below meth c ls Q F hr hlocks hQ w hl
  have F : CallFix p m c cX11_back 2 s args TB RX11 := F
  have hx := F.1
  have hb := F.2.1
  have hl : lv_has ls 2 [(0, .ref (B + 0)), (1, .int (zI x))] := hl
  have hF : Fr (fun b9 k9 => (b9 = 1 ∧ k9 = 1)) M M := Fr.rf
  refine lv_iload_n hx hb dX11_back_0 rfl (lv_at hl 1 rfl) ?_
  refine z_if_lt (tgt := 15) hx hb (by omega) dX11_back_1 (by decide) (fun c1 => ?_) (fun c1 => ?_)
  · refine lv_iconst (v := zI (-1)) hx hb dX11_back_15 rfl ?_
    rw [hQ]
    exact e_i F w hr hlocks ⟨_, rfl, (by omega), hI, hF⟩ dX11_back_16
  · refine lv_iload_n hx hb dX11_back_4 rfl (lv_at hl 1 rfl) ?_
    refine lv_aload_n hx hb dX11_back_5 rfl (lv_at hl 0 rfl) ?_
    refine f_11_0 F w (a := 0) rfl tb_292 dX11_back_6 ?_
    refine f_8_1 F w (a := 1) rfl tb_293 dX11_back_9 ?_
    obtain ⟨z2, bz2, ez2⟩ := Inv.ld (k := 1) hI (show iv 1 1 = (0, 300) from rfl) (show 1 < 146 by decide)
    refine r_val ez2 ?_
    refine z_icmp_le (tgt := 17) hx hb (by omega) (by omega) dX11_back_12 (by decide) (fun c3 => ?_) (fun c3 => ?_)
    · refine lv_aload_n hx hb dX11_back_17 rfl (lv_at hl 0 rfl) ?_
      refine f_11_0 F w (a := 0) rfl tb_292 dX11_back_18 ?_
      refine lv_dup hx hb dX11_back_21 rfl ?_
      refine f_8_1 F w (a := 1) rfl tb_293 dX11_back_22 ?_
      refine r_val (v := zI z2) (ez2) ?_
      refine lv_iload_n hx hb dX11_back_25 rfl (lv_at hl 1 rfl) ?_
      refine z_isub (z := (z2 - x)) hx hb dX11_back_26 (by omega) ?_
      refine u_8_1 F w (a := 1) rfl tb_293 dX11_back_27 (fun H locs w => ?_)
      refine lv_aload_n hx hb dX11_back_30 rfl (lv_at hl 0 rfl) ?_
      refine f_11_0 F w (a := 0) rfl tb_292 dX11_back_31 ?_
      refine f_8_1 F w (a := 1) rfl tb_293 dX11_back_34 ?_
      refine r_val (v := zI (z2 - x)) (st_at) ?_
      rw [hQ]
      exact e_i F w hr hlocks ⟨_, rfl, (by omega), (Inv.to hI (a := 1) (k := 1) (x := (z2 - x)) (show iv 1 1 = (0, 300) from rfl) (by omega)), (Fr.to hF (by first | omega | (dsimp only; first | done | omega)))⟩ dX11_back_37
    · refine lv_iconst (v := zI (-1)) hx hb dX11_back_15 rfl ?_
      rw [hQ]
      exact e_i F w hr hlocks ⟨_, rfl, (by omega), hI, hF⟩ dX11_back_16
theorem dX11_line_0 : decode cX11_line 0 = .ok (.aload_n 0, 1) := wdX11_line_0
theorem dX11_line_1 : decode cX11_line 1 = .ok (.getfield 43, 3) := wdX11_line_1
theorem dX11_line_4 : decode cX11_line 4 = .ok (.iload_n 1, 1) := wdX11_line_4
theorem dX11_line_5 : decode cX11_line 5 = .ok (.iload_n 2, 1) := wdX11_line_5
theorem dX11_line_6 : decode cX11_line 6 = .ok (.invokevirtual 119, 3) := wdX11_line_6
theorem tb_298 : Cond.methodLink "ToneLines" 119 yX9_isOpen ∈ TB := wtb_229
theorem gv_X11_119 : GoodIn TB (wsV RX11 119 RX9 yX9_isOpen (cw yX9_isOpen cX9_isOpen 3 (some .boolean))) := goodIn_4 tb_298 tb_67 tb_68 tb_5 gc_X9_isOpen
theorem dX11_line_9 : decode cX11_line 9 = .ok (.ifCond .ne 5, 3) := wdX11_line_9
theorem dX11_line_14 : decode cX11_line 14 = .ok (.aload_n 0, 1) := wdX11_line_14
theorem dX11_line_15 : decode cX11_line 15 = .ok (.invokevirtual 123, 3) := wdX11_line_15
theorem dX11_line_18 : decode cX11_line 18 = .ok (.aload_n 0, 1) := wdX11_line_18
theorem dX11_line_19 : decode cX11_line 19 = .ok (.getfield 43, 3) := wdX11_line_19
theorem dX11_line_22 : decode cX11_line 22 = .ok (.getfield 126, 3) := wdX11_line_22
theorem tb_299 : Cond.fieldLink "ToneLines" 126 "ToneLines$Word" "lines" "[I" ∈ TB := wtb_230
theorem dX11_line_25 : decode cX11_line 25 = .ok (.iload_n 1, 1) := wdX11_line_25
theorem dX11_line_26 : decode cX11_line 26 = .ok (.dup2, 1) := wdX11_line_26
theorem dX11_line_27 : decode cX11_line 27 = .ok (.iaload, 1) := wdX11_line_27
theorem dX11_line_28 : decode cX11_line 28 = .ok (.iconst 1, 1) := wdX11_line_28
theorem dX11_line_29 : decode cX11_line 29 = .ok (.iload_n 2, 1) := wdX11_line_29
theorem dX11_line_30 : decode cX11_line 30 = .ok (.ishl, 1) := wdX11_line_30
theorem dX11_line_31 : decode cX11_line 31 = .ok (.ior, 1) := wdX11_line_31
theorem dX11_line_32 : decode cX11_line 32 = .ok (.iastore, 1) := wdX11_line_32
theorem dX11_line_33 : decode cX11_line 33 = .ok (.iconst 1, 1) := wdX11_line_33
theorem dX11_line_34 : decode cX11_line 34 = .ok (.ireturn, 1) := wdX11_line_34
theorem dX11_line_12 : decode cX11_line 12 = .ok (.iconst 0, 1) := wdX11_line_12
theorem dX11_line_13 : decode cX11_line 13 = .ok (.ireturn, 1) := wdX11_line_13
set_option maxRecDepth 4000 in
theorem q_X11_line {l : Launch} {D : va_G} {B : Nat} {cy : Nat → ClassId} {M : Mem} {t : Int} (ht : (-2147483648) ≤ t ∧ t ≤ 2147483647) {y : Int} (hy : (-2147483648) ≤ y ∧ y ≤ 2147483647) (hI : Inv M) : Ci l D B cy yX11_line cX11_line 3 (some .boolean) 4 102 [.ref (B + 0), .int (zI t), .int (zI y)] M (fun r M1 => ∃ z : Int, r = zI z ∧ (0 ≤ z ∧ z ≤ 1) ∧ Inv M1 ∧ Fr (fun b9 k9 => (b9 = 109 ∧ k9 = 0) ∨ (b9 = 22 ∧ k9 = 7) ∨ (b9 = 71 ∧ k9 = 1) ∨ (b9 = 71 ∧ k9 = 2) ∨ b9 = 135 ∨ b9 = 46 ∨ (73 ≤ b9 ∧ b9 ≤ 108)) M1 M) := by
  refine s_anyQ (by decide) (Nat.le_of_ble_eq_true rfl) ?_
  intro p e s m args below meth c ls Q F hr hlocks hQ w hl
  have F : CallFix p m c cX11_line 3 s args TB RX11 := F
  have hx := F.1
  have hb := F.2.1
  have hl : lv_has ls 3 [(0, .ref (B + 0)), (1, .int (zI t)), (2, .int (zI y))] := hl
  have hF : Fr (fun b9 k9 => (b9 = 109 ∧ k9 = 0) ∨ (b9 = 22 ∧ k9 = 7) ∨ (b9 = 71 ∧ k9 = 1) ∨ (b9 = 71 ∧ k9 = 2) ∨ b9 = 135 ∨ b9 = 46 ∨ (73 ≤ b9 ∧ b9 ≤ 108)) M M := Fr.rf
  refine lv_aload_n hx hb dX11_line_0 rfl (lv_at hl 0 rfl) ?_
  refine f_11_4 F w (a := 0) rfl tb_280 dX11_line_1 ?_
  refine lv_iload_n hx hb dX11_line_4 rfl (lv_at hl 1 rfl) ?_
  refine lv_iload_n hx hb dX11_line_5 rfl (lv_at hl 2 rfl) ?_
  refine k_Vi F w (As := [.int (zI t), .int (zI y)]) (rest := []) (a := 44) (kd_lt (a := 44) (show kd 44 = (9, 0, 0) from rfl) (by decide)) (sh_9 rfl _ _) rfl (q_X9_isOpen (a := 44) rfl (t := t) (by omega) (y := y) (by omega)  hI) gv_X11_119 hv_X9_isOpen ⟨(Nat.le_of_ble_eq_true rfl), (Nat.le_of_ble_eq_true rfl)⟩ hl.1 rfl (Nat.le_of_ble_eq_true rfl) ⟨Nat.zero_le _, Nat.zero_le _⟩ dX11_line_6 (fun r1 N2 H locs hp w => ?_)
  obtain ⟨z3, rfl, bz3, xz3, hMN2⟩ := hp
  rw [hMN2] at w
  refine z_if_ne (tgt := 14) hx hb (by omega) dX11_line_9 (by decide) (fun c4 => ?_) (fun c4 => ?_)
  · refine lv_aload_n hx hb dX11_line_14 rfl (lv_at hl 0 rfl) ?_
    refine k_Vv F w (As := []) (rest := []) (a := 0) (kd_lt (a := 0) (show kd 0 = (11, 0, 0) from rfl) (by decide)) (sh_11 rfl _ _) rfl (q_X11_beginAct   hI) gv_X11_123 hv_X11_beginAct ⟨(Nat.le_of_ble_eq_true rfl), (Nat.le_of_ble_eq_true rfl)⟩ hl.1 rfl (Nat.le_of_ble_eq_true rfl) ⟨Nat.zero_le _, Nat.zero_le _⟩ dX11_line_15 (fun N6 H locs hp w => ?_)
    obtain ⟨hIN6, hFN6⟩ := hp
    have hGN6 := Fr.tr hF hFN6 (S := (fun b9 k9 => (b9 = 109 ∧ k9 = 0) ∨ (b9 = 22 ∧ k9 = 7) ∨ (b9 = 71 ∧ k9 = 1) ∨ (b9 = 71 ∧ k9 = 2) ∨ b9 = 135 ∨ b9 = 46 ∨ (73 ≤ b9 ∧ b9 ≤ 108))) (fun b k h => by (try dsimp only at h ⊢); (repeat' (refine Or.elim h ?_ ?_ <;> clear h <;> intro h)); all_goals first | (obtain ⟨rfl, rfl⟩ := h; decide) | (subst h; decide) | omega)
    refine lv_aload_n hx hb dX11_line_18 rfl (lv_at hl 0 rfl) ?_
    refine f_11_4 F w (a := 0) rfl tb_280 dX11_line_19 ?_
    refine f_9_5 F w (a := 44) rfl tb_299 dX11_line_22 ?_
    refine lv_iload_n hx hb dX11_line_25 rfl (lv_at hl 1 rfl) ?_
    refine lv_dup2_11 hx hb dX11_line_26 rfl rfl ?_
    refine g_iald F w (a := 46) rfl (j := (Int.toNat t)) (ix_z (by omega) (by omega)) (by omega) dX11_line_27 ?_
    obtain ⟨z8, bz8, ez8⟩ := Inv.ld (k := (Int.toNat t)) hIN6 (show iv 46 (Int.toNat t) = (0, 4095) from rfl) (show 46 < 146 by decide)
    refine r_val ez8 ?_
    refine lv_iconst (v := zI 1) hx hb dX11_line_28 rfl ?_
    refine lv_iload_n hx hb dX11_line_29 rfl (lv_at hl 2 rfl) ?_
    obtain ⟨z9, bz9, x0z9, ez9⟩ := shl_ex 1 y
    refine lv_ishl hx hb dX11_line_30 ?_
    refine r_val ez9 ?_
    obtain ⟨z10, bz10, x0z10, ez10⟩ := or_ex z8 z9
    refine lv_ior hx hb dX11_line_31 ?_
    refine r_val ez10 ?_
    refine g_iast F w (a := 46) rfl (j := (Int.toNat t)) (ix_z (by omega) (by omega)) (by omega) dX11_line_32 (fun H locs w => ?_)
    refine lv_iconst (v := zI 1) hx hb dX11_line_33 rfl ?_
    rw [hQ]
    exact e_z F w hr hlocks (nar_z (by omega)) ⟨_, rfl, (by omega), (Inv.to hIN6 (a := 46) (k := (Int.toNat t)) (x := z10) (show iv 46 (Int.toNat t) = (0, 4095) from rfl) (by omega)), (Fr.to hGN6 (by first | omega | (dsimp only; first | done | omega)))⟩ dX11_line_34
  · refine lv_iconst (v := zI 0) hx hb dX11_line_12 rfl ?_
    rw [hQ]
    exact e_z F w hr hlocks (nar_z (by omega)) ⟨_, rfl, (by omega), hI, hF⟩ dX11_line_13
theorem dX11_cut_0 : decode cX11_cut 0 = .ok (.aload_n 0, 1) := wdX11_cut_0
theorem dX11_cut_1 : decode cX11_cut 1 = .ok (.getfield 43, 3) := wdX11_cut_1
theorem dX11_cut_4 : decode cX11_cut 4 = .ok (.iload_n 1, 1) := wdX11_cut_4
theorem dX11_cut_5 : decode cX11_cut 5 = .ok (.iload_n 2, 1) := wdX11_cut_5
theorem dX11_cut_6 : decode cX11_cut 6 = .ok (.invokevirtual 130, 3) := wdX11_cut_6
theorem tk_X9_hasLine : Cond.code yX9_hasLine cX9_hasLine 3 (some .boolean) ∈ TB := wtk_X9_hasLine
theorem gc_X9_hasLine : GoodIn TB (cw yX9_hasLine cX9_hasLine 3 (some .boolean)) := goodIn_c2 tk_X9_hasLine
theorem tb_300 : Cond.methodLink "ToneLines" 130 yX9_hasLine ∈ TB := wtb_231
theorem tb_301 : Cond.instanceMethod yX9_hasLine ∈ TB := wtb_232
theorem tb_302 : Cond.selects "ToneLines$Word" yX9_hasLine yX9_hasLine ∈ TB := wtb_233
theorem gv_X11_130 : GoodIn TB (wsV RX11 130 RX9 yX9_hasLine (cw yX9_hasLine cX9_hasLine 3 (some .boolean))) := goodIn_4 tb_300 tb_301 tb_302 tb_5 gc_X9_hasLine
theorem hv_X9_hasLine : yX9_hasLine.cls = RX9 ∧ yX9_hasLine.cls ≠ "java/lang/invoke/MethodHandle" ∧ yX9_hasLine.cls ≠ "java/lang/invoke/VarHandle" ∧ (parseMethodDescriptor yX9_hasLine.desc).map (fun d => d.parameters.length) = some 2 := whv_X9_hasLine
theorem dX11_cut_9 : decode cX11_cut 9 = .ok (.ifCond .ne 5, 3) := wdX11_cut_9
theorem dX11_cut_14 : decode cX11_cut 14 = .ok (.aload_n 0, 1) := wdX11_cut_14
theorem dX11_cut_15 : decode cX11_cut 15 = .ok (.invokevirtual 123, 3) := wdX11_cut_15
theorem dX11_cut_18 : decode cX11_cut 18 = .ok (.aload_n 0, 1) := wdX11_cut_18
theorem dX11_cut_19 : decode cX11_cut 19 = .ok (.getfield 43, 3) := wdX11_cut_19
theorem dX11_cut_22 : decode cX11_cut 22 = .ok (.getfield 126, 3) := wdX11_cut_22
theorem dX11_cut_25 : decode cX11_cut 25 = .ok (.iload_n 1, 1) := wdX11_cut_25
theorem dX11_cut_26 : decode cX11_cut 26 = .ok (.dup2, 1) := wdX11_cut_26
theorem dX11_cut_27 : decode cX11_cut 27 = .ok (.iaload, 1) := wdX11_cut_27
theorem dX11_cut_28 : decode cX11_cut 28 = .ok (.iconst 1, 1) := wdX11_cut_28
theorem dX11_cut_29 : decode cX11_cut 29 = .ok (.iload_n 2, 1) := wdX11_cut_29
theorem dX11_cut_30 : decode cX11_cut 30 = .ok (.ishl, 1) := wdX11_cut_30
theorem dX11_cut_31 : decode cX11_cut 31 = .ok (.iconst (-1), 1) := wdX11_cut_31
theorem dX11_cut_32 : decode cX11_cut 32 = .ok (.ixor, 1) := wdX11_cut_32
theorem dX11_cut_33 : decode cX11_cut 33 = .ok (.iand, 1) := wdX11_cut_33
theorem dX11_cut_34 : decode cX11_cut 34 = .ok (.iastore, 1) := wdX11_cut_34
theorem dX11_cut_35 : decode cX11_cut 35 = .ok (.iconst 1, 1) := wdX11_cut_35
theorem dX11_cut_36 : decode cX11_cut 36 = .ok (.ireturn, 1) := wdX11_cut_36
theorem dX11_cut_12 : decode cX11_cut 12 = .ok (.iconst 0, 1) := wdX11_cut_12
theorem dX11_cut_13 : decode cX11_cut 13 = .ok (.ireturn, 1) := wdX11_cut_13
set_option maxRecDepth 4000 in
theorem q_X11_cut {l : Launch} {D : va_G} {B : Nat} {cy : Nat → ClassId} {M : Mem} {t : Int} (ht : (-2147483648) ≤ t ∧ t ≤ 2147483647) {y : Int} (hy : (-2147483648) ≤ y ∧ y ≤ 2147483647) (hI : Inv M) : Ci l D B cy yX11_cut cX11_cut 3 (some .boolean) 4 102 [.ref (B + 0), .int (zI t), .int (zI y)] M (fun r M1 => ∃ z : Int, r = zI z ∧ (0 ≤ z ∧ z ≤ 1) ∧ Inv M1 ∧ Fr (fun b9 k9 => (b9 = 109 ∧ k9 = 0) ∨ (b9 = 22 ∧ k9 = 7) ∨ (b9 = 71 ∧ k9 = 1) ∨ (b9 = 71 ∧ k9 = 2) ∨ b9 = 135 ∨ b9 = 46 ∨ (73 ≤ b9 ∧ b9 ≤ 108)) M1 M) := by
  refine s_anyQ (by decide) (Nat.le_of_ble_eq_true rfl) ?_
  intro p e s m args below meth c ls Q F hr hlocks hQ w hl
  have F : CallFix p m c cX11_cut 3 s args TB RX11 := F
  have hx := F.1
  have hb := F.2.1
  have hl : lv_has ls 3 [(0, .ref (B + 0)), (1, .int (zI t)), (2, .int (zI y))] := hl
  have hF : Fr (fun b9 k9 => (b9 = 109 ∧ k9 = 0) ∨ (b9 = 22 ∧ k9 = 7) ∨ (b9 = 71 ∧ k9 = 1) ∨ (b9 = 71 ∧ k9 = 2) ∨ b9 = 135 ∨ b9 = 46 ∨ (73 ≤ b9 ∧ b9 ≤ 108)) M M := Fr.rf
  refine lv_aload_n hx hb dX11_cut_0 rfl (lv_at hl 0 rfl) ?_
  refine f_11_4 F w (a := 0) rfl tb_280 dX11_cut_1 ?_
  refine lv_iload_n hx hb dX11_cut_4 rfl (lv_at hl 1 rfl) ?_
  refine lv_iload_n hx hb dX11_cut_5 rfl (lv_at hl 2 rfl) ?_
  refine k_Vi F w (As := [.int (zI t), .int (zI y)]) (rest := []) (a := 44) (kd_lt (a := 44) (show kd 44 = (9, 0, 0) from rfl) (by decide)) (sh_9 rfl _ _) rfl (q_X9_hasLine (a := 44) rfl (t := t) (by omega) (y := y) (by omega)  hI) gv_X11_130 hv_X9_hasLine ⟨(Nat.le_of_ble_eq_true rfl), (Nat.le_of_ble_eq_true rfl)⟩ hl.1 rfl (Nat.le_of_ble_eq_true rfl) ⟨Nat.zero_le _, Nat.zero_le _⟩ dX11_cut_6 (fun r1 N2 H locs hp w => ?_)
  obtain ⟨z3, rfl, bz3, xz3, hMN2⟩ := hp
  rw [hMN2] at w
  refine z_if_ne (tgt := 14) hx hb (by omega) dX11_cut_9 (by decide) (fun c4 => ?_) (fun c4 => ?_)
  · refine lv_aload_n hx hb dX11_cut_14 rfl (lv_at hl 0 rfl) ?_
    refine k_Vv F w (As := []) (rest := []) (a := 0) (kd_lt (a := 0) (show kd 0 = (11, 0, 0) from rfl) (by decide)) (sh_11 rfl _ _) rfl (q_X11_beginAct   hI) gv_X11_123 hv_X11_beginAct ⟨(Nat.le_of_ble_eq_true rfl), (Nat.le_of_ble_eq_true rfl)⟩ hl.1 rfl (Nat.le_of_ble_eq_true rfl) ⟨Nat.zero_le _, Nat.zero_le _⟩ dX11_cut_15 (fun N6 H locs hp w => ?_)
    obtain ⟨hIN6, hFN6⟩ := hp
    have hGN6 := Fr.tr hF hFN6 (S := (fun b9 k9 => (b9 = 109 ∧ k9 = 0) ∨ (b9 = 22 ∧ k9 = 7) ∨ (b9 = 71 ∧ k9 = 1) ∨ (b9 = 71 ∧ k9 = 2) ∨ b9 = 135 ∨ b9 = 46 ∨ (73 ≤ b9 ∧ b9 ≤ 108))) (fun b k h => by (try dsimp only at h ⊢); (repeat' (refine Or.elim h ?_ ?_ <;> clear h <;> intro h)); all_goals first | (obtain ⟨rfl, rfl⟩ := h; decide) | (subst h; decide) | omega)
    refine lv_aload_n hx hb dX11_cut_18 rfl (lv_at hl 0 rfl) ?_
    refine f_11_4 F w (a := 0) rfl tb_280 dX11_cut_19 ?_
    refine f_9_5 F w (a := 44) rfl tb_299 dX11_cut_22 ?_
    refine lv_iload_n hx hb dX11_cut_25 rfl (lv_at hl 1 rfl) ?_
    refine lv_dup2_11 hx hb dX11_cut_26 rfl rfl ?_
    refine g_iald F w (a := 46) rfl (j := (Int.toNat t)) (ix_z (by omega) (by omega)) (by omega) dX11_cut_27 ?_
    obtain ⟨z8, bz8, ez8⟩ := Inv.ld (k := (Int.toNat t)) hIN6 (show iv 46 (Int.toNat t) = (0, 4095) from rfl) (show 46 < 146 by decide)
    refine r_val ez8 ?_
    refine lv_iconst (v := zI 1) hx hb dX11_cut_28 rfl ?_
    refine lv_iload_n hx hb dX11_cut_29 rfl (lv_at hl 2 rfl) ?_
    obtain ⟨z9, bz9, x0z9, ez9⟩ := shl_ex 1 y
    refine lv_ishl hx hb dX11_cut_30 ?_
    refine r_val ez9 ?_
    refine lv_iconst (v := zI (-1)) hx hb dX11_cut_31 rfl ?_
    refine lv_ixor hx hb dX11_cut_32 ?_
    refine r_val (not_ex z9) ?_
    obtain ⟨z10, bz10, x0z10, x1z10, ez10⟩ := and_ex z8 (-z9 - 1) (by omega) (by omega)
    refine lv_iand hx hb dX11_cut_33 ?_
    refine r_val ez10 ?_
    refine g_iast F w (a := 46) rfl (j := (Int.toNat t)) (ix_z (by omega) (by omega)) (by omega) dX11_cut_34 (fun H locs w => ?_)
    refine lv_iconst (v := zI 1) hx hb dX11_cut_35 rfl ?_
    rw [hQ]
    exact e_z F w hr hlocks (nar_z (by omega)) ⟨_, rfl, (by omega), (Inv.to hIN6 (a := 46) (k := (Int.toNat t)) (x := z10) (show iv 46 (Int.toNat t) = (0, 4095) from rfl) (by omega)), (Fr.to hGN6 (by first | omega | (dsimp only; first | done | omega)))⟩ dX11_cut_36
  · refine lv_iconst (v := zI 0) hx hb dX11_cut_12 rfl ?_
    rw [hQ]
    exact e_z F w hr hlocks (nar_z (by omega)) ⟨_, rfl, (by omega), hI, hF⟩ dX11_cut_13
theorem dX11_tone_0 : decode cX11_tone 0 = .ok (.iload_n 1, 1) := wdX11_tone_0
theorem dX11_tone_1 : decode cX11_tone 1 = .ok (.ifCond .lt 33, 3) := wdX11_tone_1
theorem dX11_tone_34 : decode cX11_tone 34 = .ok (.iconst 0, 1) := wdX11_tone_34
theorem dX11_tone_35 : decode cX11_tone 35 = .ok (.ireturn, 1) := wdX11_tone_35
theorem dX11_tone_4 : decode cX11_tone 4 = .ok (.iload_n 1, 1) := wdX11_tone_4
theorem dX11_tone_5 : decode cX11_tone 5 = .ok (.aload_n 0, 1) := wdX11_tone_5
theorem dX11_tone_6 : decode cX11_tone 6 = .ok (.getfield 43, 3) := wdX11_tone_6
theorem dX11_tone_9 : decode cX11_tone 9 = .ok (.getfield 100, 3) := wdX11_tone_9
theorem tb_303 : Cond.fieldLink "ToneLines" 100 "ToneLines$Word" "tones" "I" ∈ TB := wtb_234
theorem dX11_tone_12 : decode cX11_tone 12 = .ok (.if_icmp .gt 22, 3) := wdX11_tone_12
theorem dX11_tone_15 : decode cX11_tone 15 = .ok (.aload_n 0, 1) := wdX11_tone_15
theorem dX11_tone_16 : decode cX11_tone 16 = .ok (.getfield 43, 3) := wdX11_tone_16
theorem dX11_tone_19 : decode cX11_tone 19 = .ok (.getfield 100, 3) := wdX11_tone_19
theorem dX11_tone_22 : decode cX11_tone 22 = .ok (.bipush 12, 2) := wdX11_tone_22
theorem dX11_tone_24 : decode cX11_tone 24 = .ok (.if_icmp .ge 10, 3) := wdX11_tone_24
theorem dX11_tone_27 : decode cX11_tone 27 = .ok (.iload_n 2, 1) := wdX11_tone_27
theorem dX11_tone_28 : decode cX11_tone 28 = .ok (.invokestatic 133, 3) := wdX11_tone_28
theorem tk_X11_isKind : Cond.code yX11_isKind cX11_isKind 1 (some .boolean) ∈ TB := wtk_X11_isKind
theorem gc_X11_isKind : GoodIn TB (cw yX11_isKind cX11_isKind 1 (some .boolean)) := goodIn_c2 tk_X11_isKind
theorem tb_304 : Cond.methodLink "ToneLines" 133 yX11_isKind ∈ TB := wtb_235
theorem tb_305 : Cond.static yX11_isKind ∈ TB := wtb_236
theorem gs_X11_133 : GoodIn TB (va_wsS RX11 133 yX11_isKind (cw yX11_isKind cX11_isKind 1 (some .boolean))) := goodIn_3 tb_304 tb_305 tb_95 gc_X11_isKind
theorem hs_X11_isKind : yX11_isKind.cls ≠ "java/lang/invoke/MethodHandle" ∧ yX11_isKind.cls ≠ "java/lang/invoke/VarHandle" ∧ (parseMethodDescriptor yX11_isKind.desc).map (fun d => d.parameters.length) = some 1 := whs_X11_isKind
theorem dX11_tone_31 : decode cX11_tone 31 = .ok (.ifCond .ne 5, 3) := wdX11_tone_31
theorem dX11_tone_36 : decode cX11_tone 36 = .ok (.aload_n 0, 1) := wdX11_tone_36
theorem dX11_tone_37 : decode cX11_tone 37 = .ok (.invokevirtual 123, 3) := wdX11_tone_37
theorem dX11_tone_40 : decode cX11_tone 40 = .ok (.aload_n 0, 1) := wdX11_tone_40
theorem dX11_tone_41 : decode cX11_tone 41 = .ok (.getfield 43, 3) := wdX11_tone_41
theorem dX11_tone_44 : decode cX11_tone 44 = .ok (.iload_n 1, 1) := wdX11_tone_44
theorem dX11_tone_45 : decode cX11_tone 45 = .ok (.iload_n 2, 1) := wdX11_tone_45
theorem dX11_tone_46 : decode cX11_tone 46 = .ok (.invokevirtual 137, 3) := wdX11_tone_46
theorem tb_306 : Cond.methodLink "ToneLines" 137 yX9_insertTone ∈ TB := wtb_237
theorem gv_X11_137 : GoodIn TB (wsV RX11 137 RX9 yX9_insertTone (cw yX9_insertTone cX9_insertTone 4 none)) := goodIn_4 tb_306 tb_130 tb_131 tb_5 gc_X9_insertTone
theorem dX11_tone_49 : decode cX11_tone 49 = .ok (.iconst 1, 1) := wdX11_tone_49
theorem dX11_tone_50 : decode cX11_tone 50 = .ok (.ireturn, 1) := wdX11_tone_50
set_option maxRecDepth 4000 in
theorem q_X11_tone {l : Launch} {D : va_G} {B : Nat} {cy : Nat → ClassId} {M : Mem} {t : Int} (ht : (-2147483648) ≤ t ∧ t ≤ 2147483647) {x : Int} (hx : (-2147483648) ≤ x ∧ x ≤ 2147483647) (hI : Inv M) : Ci l D B cy yX11_tone cX11_tone 3 (some .boolean) 4 102 [.ref (B + 0), .int (zI t), .int (zI x)] M (fun r M1 => ∃ z : Int, r = zI z ∧ (0 ≤ z ∧ z ≤ 1) ∧ Inv M1 ∧ Fr (fun b9 k9 => (b9 = 109 ∧ k9 = 0) ∨ (b9 = 22 ∧ k9 = 7) ∨ (b9 = 71 ∧ k9 = 1) ∨ (b9 = 71 ∧ k9 = 2) ∨ b9 = 135 ∨ b9 = 44 ∨ b9 = 45 ∨ b9 = 46 ∨ (73 ≤ b9 ∧ b9 ≤ 108)) M1 M) := by
  refine s_anyQ (by decide) (Nat.le_of_ble_eq_true rfl) ?_
  intro p e s m args below meth c ls Q F hr hlocks hQ w hl
  have F : CallFix p m c cX11_tone 3 s args TB RX11 := F
  have hx := F.1
  have hb := F.2.1
  have hl : lv_has ls 3 [(0, .ref (B + 0)), (1, .int (zI t)), (2, .int (zI x))] := hl
  have hF : Fr (fun b9 k9 => (b9 = 109 ∧ k9 = 0) ∨ (b9 = 22 ∧ k9 = 7) ∨ (b9 = 71 ∧ k9 = 1) ∨ (b9 = 71 ∧ k9 = 2) ∨ b9 = 135 ∨ b9 = 44 ∨ b9 = 45 ∨ b9 = 46 ∨ (73 ≤ b9 ∧ b9 ≤ 108)) M M := Fr.rf
  refine lv_iload_n hx hb dX11_tone_0 rfl (lv_at hl 1 rfl) ?_
  refine z_if_lt (tgt := 34) hx hb (by omega) dX11_tone_1 (by decide) (fun c1 => ?_) (fun c1 => ?_)
  · refine lv_iconst (v := zI 0) hx hb dX11_tone_34 rfl ?_
    rw [hQ]
    exact e_z F w hr hlocks (nar_z (by omega)) ⟨_, rfl, (by omega), hI, hF⟩ dX11_tone_35
  · refine lv_iload_n hx hb dX11_tone_4 rfl (lv_at hl 1 rfl) ?_
    refine lv_aload_n hx hb dX11_tone_5 rfl (lv_at hl 0 rfl) ?_
    refine f_11_4 F w (a := 0) rfl tb_280 dX11_tone_6 ?_
    refine f_9_0 F w (a := 44) rfl tb_303 dX11_tone_9 ?_
    obtain ⟨z2, bz2, ez2⟩ := Inv.ld (k := 0) hI (show iv 44 0 = (0, 12) from rfl) (show 44 < 146 by decide)
    refine r_val ez2 ?_
    refine z_icmp_gt (tgt := 34) hx hb (by omega) (by omega) dX11_tone_12 (by decide) (fun c3 => ?_) (fun c3 => ?_)
    · refine lv_iconst (v := zI 0) hx hb dX11_tone_34 rfl ?_
      rw [hQ]
      exact e_z F w hr hlocks (nar_z (by omega)) ⟨_, rfl, (by omega), hI, hF⟩ dX11_tone_35
    · refine lv_aload_n hx hb dX11_tone_15 rfl (lv_at hl 0 rfl) ?_
      refine f_11_4 F w (a := 0) rfl tb_280 dX11_tone_16 ?_
      refine f_9_0 F w (a := 44) rfl tb_303 dX11_tone_19 ?_
      refine r_val (v := zI z2) (ez2) ?_
      refine lv_bipush (v := zI 12) hx hb dX11_tone_22 (by decide) ?_
      refine z_icmp_ge (tgt := 34) hx hb (by omega) (by omega) dX11_tone_24 (by decide) (fun c4 => ?_) (fun c4 => ?_)
      · refine lv_iconst (v := zI 0) hx hb dX11_tone_34 rfl ?_
        rw [hQ]
        exact e_z F w hr hlocks (nar_z (by omega)) ⟨_, rfl, (by omega), hI, hF⟩ dX11_tone_35
      · refine lv_iload_n hx hb dX11_tone_27 rfl (lv_at hl 2 rfl) ?_
        refine k_Si F w (As := [.int (zI x)]) (rest := []) (q_X11_isKind (x := x) (by omega)  hI) gs_X11_133 hs_X11_isKind ⟨(Nat.le_of_ble_eq_true rfl), (Nat.le_of_ble_eq_true rfl)⟩ hl.1 rfl (Nat.le_of_ble_eq_true rfl) ⟨Nat.zero_le _, Nat.zero_le _⟩ dX11_tone_28 (fun r5 N6 H locs hp w => ?_)
        obtain ⟨z7, rfl, bz7, xz7, hMN6⟩ := hp
        rw [hMN6] at w
        refine z_if_ne (tgt := 36) hx hb (by omega) dX11_tone_31 (by decide) (fun c8 => ?_) (fun c8 => ?_)
        · refine lv_aload_n hx hb dX11_tone_36 rfl (lv_at hl 0 rfl) ?_
          refine k_Vv F w (As := []) (rest := []) (a := 0) (kd_lt (a := 0) (show kd 0 = (11, 0, 0) from rfl) (by decide)) (sh_11 rfl _ _) rfl (q_X11_beginAct   hI) gv_X11_123 hv_X11_beginAct ⟨(Nat.le_of_ble_eq_true rfl), (Nat.le_of_ble_eq_true rfl)⟩ hl.1 rfl (Nat.le_of_ble_eq_true rfl) ⟨Nat.zero_le _, Nat.zero_le _⟩ dX11_tone_37 (fun N10 H locs hp w => ?_)
          obtain ⟨hIN10, hFN10⟩ := hp
          have hGN10 := Fr.tr hF hFN10 (S := (fun b9 k9 => (b9 = 109 ∧ k9 = 0) ∨ (b9 = 22 ∧ k9 = 7) ∨ (b9 = 71 ∧ k9 = 1) ∨ (b9 = 71 ∧ k9 = 2) ∨ b9 = 135 ∨ b9 = 44 ∨ b9 = 45 ∨ b9 = 46 ∨ (73 ≤ b9 ∧ b9 ≤ 108))) (fun b k h => by (try dsimp only at h ⊢); (repeat' (refine Or.elim h ?_ ?_ <;> clear h <;> intro h)); all_goals first | (obtain ⟨rfl, rfl⟩ := h; decide) | (subst h; decide) | omega)
          have kn12 : N10.1 44 0 = zI z2 := (hFN10 44 0 (by first | omega | (dsimp only; omega))).trans (ez2)
          refine lv_aload_n hx hb dX11_tone_40 rfl (lv_at hl 0 rfl) ?_
          refine f_11_4 F w (a := 0) rfl tb_280 dX11_tone_41 ?_
          refine lv_iload_n hx hb dX11_tone_44 rfl (lv_at hl 1 rfl) ?_
          refine lv_iload_n hx hb dX11_tone_45 rfl (lv_at hl 2 rfl) ?_
          refine k_Vv F w (As := [.int (zI t), .int (zI x)]) (rest := []) (a := 44) (kd_lt (a := 44) (show kd 44 = (9, 0, 0) from rfl) (by decide)) (sh_9 rfl _ _) rfl (q_X9_insertTone (a := 44) rfl (t := t) (by omega) (x := x) (by omega)  hIN10) gv_X11_137 hv_X9_insertTone ⟨(Nat.le_of_ble_eq_true rfl), (Nat.le_of_ble_eq_true rfl)⟩ hl.1 rfl (Nat.le_of_ble_eq_true rfl) ⟨Nat.zero_le _, Nat.zero_le _⟩ dX11_tone_46 (fun N14 H locs hp w => ?_)
          obtain ⟨hIN14, hFN14⟩ := hp
          have hGN14 := Fr.tr hGN10 hFN14 (S := (fun b9 k9 => (b9 = 109 ∧ k9 = 0) ∨ (b9 = 22 ∧ k9 = 7) ∨ (b9 = 71 ∧ k9 = 1) ∨ (b9 = 71 ∧ k9 = 2) ∨ b9 = 135 ∨ b9 = 44 ∨ b9 = 45 ∨ b9 = 46 ∨ (73 ≤ b9 ∧ b9 ≤ 108))) (fun b k h => by (try dsimp only at h ⊢); (repeat' (refine Or.elim h ?_ ?_ <;> clear h <;> intro h)); all_goals first | (obtain ⟨rfl, rfl⟩ := h; decide) | (subst h; decide) | omega)
          refine lv_iconst (v := zI 1) hx hb dX11_tone_49 rfl ?_
          rw [hQ]
          exact e_z F w hr hlocks (nar_z (by omega)) ⟨_, rfl, (by omega), hIN14, hGN14⟩ dX11_tone_50
        · refine lv_iconst (v := zI 0) hx hb dX11_tone_34 rfl ?_
          rw [hQ]
          exact e_z F w hr hlocks (nar_z (by omega)) ⟨_, rfl, (by omega), hI, hF⟩ dX11_tone_35
theorem dX11_hush_0 : decode cX11_hush 0 = .ok (.aload_n 0, 1) := wdX11_hush_0
theorem dX11_hush_1 : decode cX11_hush 1 = .ok (.getfield 43, 3) := wdX11_hush_1
theorem dX11_hush_4 : decode cX11_hush 4 = .ok (.iload_n 1, 1) := wdX11_hush_4
theorem dX11_hush_5 : decode cX11_hush 5 = .ok (.invokevirtual 141, 3) := wdX11_hush_5
theorem tb_307 : Cond.methodLink "ToneLines" 141 yX9_hasTone ∈ TB := wtb_238
theorem gv_X11_141 : GoodIn TB (wsV RX11 141 RX9 yX9_hasTone (cw yX9_hasTone cX9_hasTone 2 (some .boolean))) := goodIn_4 tb_307 tb_3 tb_4 tb_5 gc_X9_hasTone
theorem dX11_hush_8 : decode cX11_hush 8 = .ok (.ifCond .ne 5, 3) := wdX11_hush_8
theorem dX11_hush_13 : decode cX11_hush 13 = .ok (.aload_n 0, 1) := wdX11_hush_13
theorem dX11_hush_14 : decode cX11_hush 14 = .ok (.invokevirtual 123, 3) := wdX11_hush_14
theorem dX11_hush_17 : decode cX11_hush 17 = .ok (.aload_n 0, 1) := wdX11_hush_17
theorem dX11_hush_18 : decode cX11_hush 18 = .ok (.getfield 43, 3) := wdX11_hush_18
theorem dX11_hush_21 : decode cX11_hush 21 = .ok (.iload_n 1, 1) := wdX11_hush_21
theorem dX11_hush_22 : decode cX11_hush 22 = .ok (.invokevirtual 144, 3) := wdX11_hush_22
theorem tb_308 : Cond.methodLink "ToneLines" 144 yX9_removeTone ∈ TB := wtb_239
theorem gv_X11_144 : GoodIn TB (wsV RX11 144 RX9 yX9_removeTone (cw yX9_removeTone cX9_removeTone 3 none)) := goodIn_4 tb_308 tb_87 tb_88 tb_5 gc_X9_removeTone
theorem dX11_hush_25 : decode cX11_hush 25 = .ok (.iconst 1, 1) := wdX11_hush_25
theorem dX11_hush_26 : decode cX11_hush 26 = .ok (.ireturn, 1) := wdX11_hush_26
theorem dX11_hush_11 : decode cX11_hush 11 = .ok (.iconst 0, 1) := wdX11_hush_11
theorem dX11_hush_12 : decode cX11_hush 12 = .ok (.ireturn, 1) := wdX11_hush_12
set_option maxRecDepth 4000 in
theorem q_X11_hush {l : Launch} {D : va_G} {B : Nat} {cy : Nat → ClassId} {M : Mem} {t : Int} (ht : (-2147483648) ≤ t ∧ t ≤ 2147483647) (hI : Inv M) : Ci l D B cy yX11_hush cX11_hush 2 (some .boolean) 4 102 [.ref (B + 0), .int (zI t)] M (fun r M1 => ∃ z : Int, r = zI z ∧ (0 ≤ z ∧ z ≤ 1) ∧ Inv M1 ∧ Fr (fun b9 k9 => (b9 = 109 ∧ k9 = 0) ∨ (b9 = 22 ∧ k9 = 7) ∨ (b9 = 71 ∧ k9 = 1) ∨ (b9 = 71 ∧ k9 = 2) ∨ b9 = 135 ∨ b9 = 44 ∨ b9 = 45 ∨ b9 = 46 ∨ (73 ≤ b9 ∧ b9 ≤ 108)) M1 M) := by
  refine s_anyQ (by decide) (Nat.le_of_ble_eq_true rfl) ?_
  intro p e s m args below meth c ls Q F hr hlocks hQ w hl
  have F : CallFix p m c cX11_hush 2 s args TB RX11 := F
  have hx := F.1
  have hb := F.2.1
  have hl : lv_has ls 2 [(0, .ref (B + 0)), (1, .int (zI t))] := hl
  have hF : Fr (fun b9 k9 => (b9 = 109 ∧ k9 = 0) ∨ (b9 = 22 ∧ k9 = 7) ∨ (b9 = 71 ∧ k9 = 1) ∨ (b9 = 71 ∧ k9 = 2) ∨ b9 = 135 ∨ b9 = 44 ∨ b9 = 45 ∨ b9 = 46 ∨ (73 ≤ b9 ∧ b9 ≤ 108)) M M := Fr.rf
  refine lv_aload_n hx hb dX11_hush_0 rfl (lv_at hl 0 rfl) ?_
  refine f_11_4 F w (a := 0) rfl tb_280 dX11_hush_1 ?_
  refine lv_iload_n hx hb dX11_hush_4 rfl (lv_at hl 1 rfl) ?_
  obtain ⟨z1, bz1, ez1⟩ := Inv.ld (k := 0) hI (show iv 44 0 = (0, 12) from rfl) (show 44 < 146 by decide)
  refine k_Vi F w (As := [.int (zI t)]) (rest := []) (a := 44) (kd_lt (a := 44) (show kd 44 = (9, 0, 0) from rfl) (by decide)) (sh_9 rfl _ _) rfl (q_X9_hasTone (a := 44) rfl (t := t) (by omega) (nn := z1) (ez1) (by omega)  hI) gv_X11_141 hv_X9_hasTone ⟨(Nat.le_of_ble_eq_true rfl), (Nat.le_of_ble_eq_true rfl)⟩ hl.1 rfl (Nat.le_of_ble_eq_true rfl) ⟨Nat.zero_le _, Nat.zero_le _⟩ dX11_hush_5 (fun r2 N3 H locs hp w => ?_)
  obtain ⟨z4, rfl, bz4, xz4, hMN3⟩ := hp
  rw [hMN3] at w
  refine z_if_ne (tgt := 13) hx hb (by omega) dX11_hush_8 (by decide) (fun c5 => ?_) (fun c5 => ?_)
  · refine lv_aload_n hx hb dX11_hush_13 rfl (lv_at hl 0 rfl) ?_
    refine k_Vv F w (As := []) (rest := []) (a := 0) (kd_lt (a := 0) (show kd 0 = (11, 0, 0) from rfl) (by decide)) (sh_11 rfl _ _) rfl (q_X11_beginAct   hI) gv_X11_123 hv_X11_beginAct ⟨(Nat.le_of_ble_eq_true rfl), (Nat.le_of_ble_eq_true rfl)⟩ hl.1 rfl (Nat.le_of_ble_eq_true rfl) ⟨Nat.zero_le _, Nat.zero_le _⟩ dX11_hush_14 (fun N7 H locs hp w => ?_)
    obtain ⟨hIN7, hFN7⟩ := hp
    have hGN7 := Fr.tr hF hFN7 (S := (fun b9 k9 => (b9 = 109 ∧ k9 = 0) ∨ (b9 = 22 ∧ k9 = 7) ∨ (b9 = 71 ∧ k9 = 1) ∨ (b9 = 71 ∧ k9 = 2) ∨ b9 = 135 ∨ b9 = 44 ∨ b9 = 45 ∨ b9 = 46 ∨ (73 ≤ b9 ∧ b9 ≤ 108))) (fun b k h => by (try dsimp only at h ⊢); (repeat' (refine Or.elim h ?_ ?_ <;> clear h <;> intro h)); all_goals first | (obtain ⟨rfl, rfl⟩ := h; decide) | (subst h; decide) | omega)
    have kn9 : N7.1 44 0 = zI z1 := (hFN7 44 0 (by first | omega | (dsimp only; omega))).trans (ez1)
    refine lv_aload_n hx hb dX11_hush_17 rfl (lv_at hl 0 rfl) ?_
    refine f_11_4 F w (a := 0) rfl tb_280 dX11_hush_18 ?_
    refine lv_iload_n hx hb dX11_hush_21 rfl (lv_at hl 1 rfl) ?_
    refine k_Vv F w (As := [.int (zI t)]) (rest := []) (a := 44) (kd_lt (a := 44) (show kd 44 = (9, 0, 0) from rfl) (by decide)) (sh_9 rfl _ _) rfl (q_X9_removeTone (a := 44) rfl (t := t) (by omega)  hIN7) gv_X11_144 hv_X9_removeTone ⟨(Nat.le_of_ble_eq_true rfl), (Nat.le_of_ble_eq_true rfl)⟩ hl.1 rfl (Nat.le_of_ble_eq_true rfl) ⟨Nat.zero_le _, Nat.zero_le _⟩ dX11_hush_22 (fun N11 H locs hp w => ?_)
    obtain ⟨hIN11, hFN11⟩ := hp
    have hGN11 := Fr.tr hGN7 hFN11 (S := (fun b9 k9 => (b9 = 109 ∧ k9 = 0) ∨ (b9 = 22 ∧ k9 = 7) ∨ (b9 = 71 ∧ k9 = 1) ∨ (b9 = 71 ∧ k9 = 2) ∨ b9 = 135 ∨ b9 = 44 ∨ b9 = 45 ∨ b9 = 46 ∨ (73 ≤ b9 ∧ b9 ≤ 108))) (fun b k h => by (try dsimp only at h ⊢); (repeat' (refine Or.elim h ?_ ?_ <;> clear h <;> intro h)); all_goals first | (obtain ⟨rfl, rfl⟩ := h; decide) | (subst h; decide) | omega)
    refine lv_iconst (v := zI 1) hx hb dX11_hush_25 rfl ?_
    rw [hQ]
    exact e_z F w hr hlocks (nar_z (by omega)) ⟨_, rfl, (by omega), hIN11, hGN11⟩ dX11_hush_26
  · refine lv_iconst (v := zI 0) hx hb dX11_hush_11 rfl ?_
    rw [hQ]
    exact e_z F w hr hlocks (nar_z (by omega)) ⟨_, rfl, (by omega), hI, hF⟩ dX11_hush_12
theorem dX11_turn_0 : decode cX11_turn 0 = .ok (.aload_n 0, 1) := wdX11_turn_0
theorem dX11_turn_1 : decode cX11_turn 1 = .ok (.getfield 43, 3) := wdX11_turn_1
theorem dX11_turn_4 : decode cX11_turn 4 = .ok (.iload_n 1, 1) := wdX11_turn_4
theorem dX11_turn_5 : decode cX11_turn 5 = .ok (.invokevirtual 141, 3) := wdX11_turn_5
theorem dX11_turn_8 : decode cX11_turn 8 = .ok (.ifCond .eq 23, 3) := wdX11_turn_8
theorem dX11_turn_31 : decode cX11_turn 31 = .ok (.iconst (-1), 1) := wdX11_turn_31
theorem dX11_turn_32 : decode cX11_turn 32 = .ok (.ireturn, 1) := wdX11_turn_32
theorem dX11_turn_11 : decode cX11_turn 11 = .ok (.iload_n 2, 1) := wdX11_turn_11
theorem dX11_turn_12 : decode cX11_turn 12 = .ok (.invokestatic 133, 3) := wdX11_turn_12
theorem dX11_turn_15 : decode cX11_turn 15 = .ok (.ifCond .eq 16, 3) := wdX11_turn_15
theorem dX11_turn_18 : decode cX11_turn 18 = .ok (.aload_n 0, 1) := wdX11_turn_18
theorem dX11_turn_19 : decode cX11_turn 19 = .ok (.getfield 43, 3) := wdX11_turn_19
theorem dX11_turn_22 : decode cX11_turn 22 = .ok (.getfield 147, 3) := wdX11_turn_22
theorem tb_309 : Cond.fieldLink "ToneLines" 147 "ToneLines$Word" "kinds" "[I" ∈ TB := wtb_240
theorem dX11_turn_25 : decode cX11_turn 25 = .ok (.iload_n 1, 1) := wdX11_turn_25
theorem dX11_turn_26 : decode cX11_turn 26 = .ok (.iaload, 1) := wdX11_turn_26
theorem dX11_turn_27 : decode cX11_turn 27 = .ok (.iload_n 2, 1) := wdX11_turn_27
theorem dX11_turn_28 : decode cX11_turn 28 = .ok (.if_icmp .ne 5, 3) := wdX11_turn_28
theorem dX11_turn_33 : decode cX11_turn 33 = .ok (.aload_n 0, 1) := wdX11_turn_33
theorem dX11_turn_34 : decode cX11_turn 34 = .ok (.invokevirtual 123, 3) := wdX11_turn_34
theorem dX11_turn_37 : decode cX11_turn 37 = .ok (.aload_n 0, 1) := wdX11_turn_37
theorem dX11_turn_38 : decode cX11_turn 38 = .ok (.getfield 43, 3) := wdX11_turn_38
theorem dX11_turn_41 : decode cX11_turn 41 = .ok (.getfield 147, 3) := wdX11_turn_41
theorem dX11_turn_44 : decode cX11_turn 44 = .ok (.iload_n 1, 1) := wdX11_turn_44
theorem dX11_turn_45 : decode cX11_turn 45 = .ok (.iaload, 1) := wdX11_turn_45
theorem dX11_turn_46 : decode cX11_turn 46 = .ok (.istore_n 3, 1) := wdX11_turn_46
theorem dX11_turn_47 : decode cX11_turn 47 = .ok (.aload_n 0, 1) := wdX11_turn_47
theorem dX11_turn_48 : decode cX11_turn 48 = .ok (.getfield 43, 3) := wdX11_turn_48
theorem dX11_turn_51 : decode cX11_turn 51 = .ok (.getfield 147, 3) := wdX11_turn_51
theorem dX11_turn_54 : decode cX11_turn 54 = .ok (.iload_n 1, 1) := wdX11_turn_54
theorem dX11_turn_55 : decode cX11_turn 55 = .ok (.iload_n 2, 1) := wdX11_turn_55
theorem dX11_turn_56 : decode cX11_turn 56 = .ok (.iastore, 1) := wdX11_turn_56
theorem dX11_turn_57 : decode cX11_turn 57 = .ok (.iload_n 3, 1) := wdX11_turn_57
theorem dX11_turn_58 : decode cX11_turn 58 = .ok (.ireturn, 1) := wdX11_turn_58
set_option maxRecDepth 4000 in
theorem q_X11_turn {l : Launch} {D : va_G} {B : Nat} {cy : Nat → ClassId} {M : Mem} {t : Int} (ht : (-2147483648) ≤ t ∧ t ≤ 2147483647) {x : Int} (hx : (-2147483648) ≤ x ∧ x ≤ 2147483647) (hI : Inv M) : Ci l D B cy yX11_turn cX11_turn 4 (some .int) 4 102 [.ref (B + 0), .int (zI t), .int (zI x)] M (fun r M1 => ∃ z : Int, r = zI z ∧ ((-2) ≤ z ∧ z ≤ 99) ∧ Inv M1 ∧ Fr (fun b9 k9 => (b9 = 109 ∧ k9 = 0) ∨ (b9 = 22 ∧ k9 = 7) ∨ (b9 = 71 ∧ k9 = 1) ∨ (b9 = 71 ∧ k9 = 2) ∨ b9 = 135 ∨ b9 = 45 ∨ (73 ≤ b9 ∧ b9 ≤ 108)) M1 M) := by
  refine s_anyQ (by decide) (Nat.le_of_ble_eq_true rfl) ?_
  intro p e s m args below meth c ls Q F hr hlocks hQ w hl
  have F : CallFix p m c cX11_turn 4 s args TB RX11 := F
  have hx := F.1
  have hb := F.2.1
  have hl : lv_has ls 4 [(0, .ref (B + 0)), (1, .int (zI t)), (2, .int (zI x))] := hl
  have hF : Fr (fun b9 k9 => (b9 = 109 ∧ k9 = 0) ∨ (b9 = 22 ∧ k9 = 7) ∨ (b9 = 71 ∧ k9 = 1) ∨ (b9 = 71 ∧ k9 = 2) ∨ b9 = 135 ∨ b9 = 45 ∨ (73 ≤ b9 ∧ b9 ≤ 108)) M M := Fr.rf
  refine lv_aload_n hx hb dX11_turn_0 rfl (lv_at hl 0 rfl) ?_
  refine f_11_4 F w (a := 0) rfl tb_280 dX11_turn_1 ?_
  refine lv_iload_n hx hb dX11_turn_4 rfl (lv_at hl 1 rfl) ?_
  obtain ⟨z1, bz1, ez1⟩ := Inv.ld (k := 0) hI (show iv 44 0 = (0, 12) from rfl) (show 44 < 146 by decide)
  refine k_Vi F w (As := [.int (zI t)]) (rest := []) (a := 44) (kd_lt (a := 44) (show kd 44 = (9, 0, 0) from rfl) (by decide)) (sh_9 rfl _ _) rfl (q_X9_hasTone (a := 44) rfl (t := t) (by omega) (nn := z1) (ez1) (by omega)  hI) gv_X11_141 hv_X9_hasTone ⟨(Nat.le_of_ble_eq_true rfl), (Nat.le_of_ble_eq_true rfl)⟩ hl.1 rfl (Nat.le_of_ble_eq_true rfl) ⟨Nat.zero_le _, Nat.zero_le _⟩ dX11_turn_5 (fun r2 N3 H locs hp w => ?_)
  obtain ⟨z4, rfl, bz4, xz4, hMN3⟩ := hp
  rw [hMN3] at w
  refine z_if_eq (tgt := 31) hx hb (by omega) dX11_turn_8 (by decide) (fun c5 => ?_) (fun c5 => ?_)
  · refine lv_iconst (v := zI (-1)) hx hb dX11_turn_31 rfl ?_
    rw [hQ]
    exact e_i F w hr hlocks ⟨_, rfl, (by omega), hI, hF⟩ dX11_turn_32
  · refine lv_iload_n hx hb dX11_turn_11 rfl (lv_at hl 2 rfl) ?_
    refine k_Si F w (As := [.int (zI x)]) (rest := []) (q_X11_isKind (x := x) (by omega)  hI) gs_X11_133 hs_X11_isKind ⟨(Nat.le_of_ble_eq_true rfl), (Nat.le_of_ble_eq_true rfl)⟩ hl.1 rfl (Nat.le_of_ble_eq_true rfl) ⟨Nat.zero_le _, Nat.zero_le _⟩ dX11_turn_12 (fun r6 N7 H locs hp w => ?_)
    obtain ⟨z8, rfl, bz8, xz8, hMN7⟩ := hp
    rw [hMN7] at w
    refine z_if_eq (tgt := 31) hx hb (by omega) dX11_turn_15 (by decide) (fun c9 => ?_) (fun c9 => ?_)
    · refine lv_iconst (v := zI (-1)) hx hb dX11_turn_31 rfl ?_
      rw [hQ]
      exact e_i F w hr hlocks ⟨_, rfl, (by omega), hI, hF⟩ dX11_turn_32
    · refine lv_aload_n hx hb dX11_turn_18 rfl (lv_at hl 0 rfl) ?_
      refine f_11_4 F w (a := 0) rfl tb_280 dX11_turn_19 ?_
      refine f_9_4 F w (a := 44) rfl tb_309 dX11_turn_22 ?_
      refine lv_iload_n hx hb dX11_turn_25 rfl (lv_at hl 1 rfl) ?_
      refine g_iald F w (a := 45) rfl (j := (Int.toNat t)) (ix_z (by omega) (by omega)) (by omega) dX11_turn_26 ?_
      obtain ⟨z10, bz10, ez10⟩ := Inv.ld (k := (Int.toNat t)) hI (show iv 45 (Int.toNat t) = ((-2), 99) from rfl) (show 45 < 146 by decide)
      refine r_val ez10 ?_
      refine lv_iload_n hx hb dX11_turn_27 rfl (lv_at hl 2 rfl) ?_
      refine z_icmp_ne (tgt := 33) hx hb (by omega) (by omega) dX11_turn_28 (by decide) (fun c11 => ?_) (fun c11 => ?_)
      · refine lv_aload_n hx hb dX11_turn_33 rfl (lv_at hl 0 rfl) ?_
        refine k_Vv F w (As := []) (rest := []) (a := 0) (kd_lt (a := 0) (show kd 0 = (11, 0, 0) from rfl) (by decide)) (sh_11 rfl _ _) rfl (q_X11_beginAct   hI) gv_X11_123 hv_X11_beginAct ⟨(Nat.le_of_ble_eq_true rfl), (Nat.le_of_ble_eq_true rfl)⟩ hl.1 rfl (Nat.le_of_ble_eq_true rfl) ⟨Nat.zero_le _, Nat.zero_le _⟩ dX11_turn_34 (fun N13 H locs hp w => ?_)
        obtain ⟨hIN13, hFN13⟩ := hp
        have hGN13 := Fr.tr hF hFN13 (S := (fun b9 k9 => (b9 = 109 ∧ k9 = 0) ∨ (b9 = 22 ∧ k9 = 7) ∨ (b9 = 71 ∧ k9 = 1) ∨ (b9 = 71 ∧ k9 = 2) ∨ b9 = 135 ∨ b9 = 45 ∨ (73 ≤ b9 ∧ b9 ≤ 108))) (fun b k h => by (try dsimp only at h ⊢); (repeat' (refine Or.elim h ?_ ?_ <;> clear h <;> intro h)); all_goals first | (obtain ⟨rfl, rfl⟩ := h; decide) | (subst h; decide) | omega)
        have kn15 : N13.1 44 0 = zI z1 := (hFN13 44 0 (by first | omega | (dsimp only; omega))).trans (ez1)
        refine lv_aload_n hx hb dX11_turn_37 rfl (lv_at hl 0 rfl) ?_
        refine f_11_4 F w (a := 0) rfl tb_280 dX11_turn_38 ?_
        refine f_9_4 F w (a := 44) rfl tb_309 dX11_turn_41 ?_
        refine lv_iload_n hx hb dX11_turn_44 rfl (lv_at hl 1 rfl) ?_
        refine g_iald F w (a := 45) rfl (j := (Int.toNat t)) (ix_z (by omega) (by omega)) (by omega) dX11_turn_45 ?_
        obtain ⟨z16, bz16, ez16⟩ := Inv.ld (k := (Int.toNat t)) hIN13 (show iv 45 (Int.toNat t) = ((-2), 99) from rfl) (show 45 < 146 by decide)
        refine r_val ez16 ?_
        refine lv_istore_n (lv' := [(3, .int (zI z16)), (0, .ref (B + 0)), (1, .int (zI t)), (2, .int (zI x))]) hx hb dX11_turn_46 rfl hl (by decide) rfl (fun ls hl => ?_)
        refine lv_aload_n hx hb dX11_turn_47 rfl (lv_at hl 1 rfl) ?_
        refine f_11_4 F w (a := 0) rfl tb_280 dX11_turn_48 ?_
        refine f_9_4 F w (a := 44) rfl tb_309 dX11_turn_51 ?_
        refine lv_iload_n hx hb dX11_turn_54 rfl (lv_at hl 2 rfl) ?_
        refine lv_iload_n hx hb dX11_turn_55 rfl (lv_at hl 3 rfl) ?_
        refine g_iast F w (a := 45) rfl (j := (Int.toNat t)) (ix_z (by omega) (by omega)) (by omega) dX11_turn_56 (fun H locs w => ?_)
        refine lv_iload_n hx hb dX11_turn_57 rfl (lv_at hl 0 rfl) ?_
        rw [hQ]
        exact e_i F w hr hlocks ⟨_, rfl, (by omega), (Inv.to hIN13 (a := 45) (k := (Int.toNat t)) (x := x) (show iv 45 (Int.toNat t) = ((-2), 99) from rfl) (by omega)), (Fr.to hGN13 (by first | omega | (dsimp only; first | done | omega)))⟩ dX11_turn_58
      · refine lv_iconst (v := zI (-1)) hx hb dX11_turn_31 rfl ?_
        rw [hQ]
        exact e_i F w hr hlocks ⟨_, rfl, (by omega), hI, hF⟩ dX11_turn_32
theorem dX11_grow_0 : decode cX11_grow 0 = .ok (.aload_n 0, 1) := wdX11_grow_0
theorem dX11_grow_1 : decode cX11_grow 1 = .ok (.getfield 43, 3) := wdX11_grow_1
theorem dX11_grow_4 : decode cX11_grow 4 = .ok (.getfield 150, 3) := wdX11_grow_4
theorem tb_310 : Cond.fieldLink "ToneLines" 150 "ToneLines$Word" "syllables" "I" ∈ TB := wtb_241
theorem dX11_grow_7 : decode cX11_grow 7 = .ok (.bipush 12, 2) := wdX11_grow_7
theorem dX11_grow_9 : decode cX11_grow 9 = .ok (.if_icmp .lt 5, 3) := wdX11_grow_9
theorem dX11_grow_14 : decode cX11_grow 14 = .ok (.aload_n 0, 1) := wdX11_grow_14
theorem dX11_grow_15 : decode cX11_grow 15 = .ok (.invokevirtual 123, 3) := wdX11_grow_15
theorem dX11_grow_18 : decode cX11_grow 18 = .ok (.aload_n 0, 1) := wdX11_grow_18
theorem dX11_grow_19 : decode cX11_grow 19 = .ok (.getfield 43, 3) := wdX11_grow_19
theorem dX11_grow_22 : decode cX11_grow 22 = .ok (.iload_n 1, 1) := wdX11_grow_22
theorem dX11_grow_23 : decode cX11_grow 23 = .ok (.iload_n 2, 1) := wdX11_grow_23
theorem dX11_grow_24 : decode cX11_grow 24 = .ok (.invokevirtual 153, 3) := wdX11_grow_24
theorem tk_X9_addSyllable : Cond.code yX9_addSyllable cX9_addSyllable 3 none ∈ TB := wtk_X9_addSyllable
theorem gc_X9_addSyllable : GoodIn TB (cw yX9_addSyllable cX9_addSyllable 3 none) := goodIn_c2 tk_X9_addSyllable
theorem tb_311 : Cond.methodLink "ToneLines" 153 yX9_addSyllable ∈ TB := wtb_242
theorem tb_312 : Cond.instanceMethod yX9_addSyllable ∈ TB := wtb_243
theorem tb_313 : Cond.selects "ToneLines$Word" yX9_addSyllable yX9_addSyllable ∈ TB := wtb_244
theorem gv_X11_153 : GoodIn TB (wsV RX11 153 RX9 yX9_addSyllable (cw yX9_addSyllable cX9_addSyllable 3 none)) := goodIn_4 tb_311 tb_312 tb_313 tb_5 gc_X9_addSyllable
theorem hv_X9_addSyllable : yX9_addSyllable.cls = RX9 ∧ yX9_addSyllable.cls ≠ "java/lang/invoke/MethodHandle" ∧ yX9_addSyllable.cls ≠ "java/lang/invoke/VarHandle" ∧ (parseMethodDescriptor yX9_addSyllable.desc).map (fun d => d.parameters.length) = some 2 := whv_X9_addSyllable
theorem dX11_grow_27 : decode cX11_grow 27 = .ok (.iconst 1, 1) := wdX11_grow_27
theorem dX11_grow_28 : decode cX11_grow 28 = .ok (.ireturn, 1) := wdX11_grow_28
theorem dX11_grow_12 : decode cX11_grow 12 = .ok (.iconst 0, 1) := wdX11_grow_12
theorem dX11_grow_13 : decode cX11_grow 13 = .ok (.ireturn, 1) := wdX11_grow_13
set_option maxRecDepth 4000 in
theorem q_X11_grow {l : Launch} {D : va_G} {B : Nat} {cy : Nat → ClassId} {M : Mem} {x : Int} (hx : 0 ≤ x ∧ x ≤ 1) {x1 : Int} (hx1 : 0 ≤ x1 ∧ x1 ≤ 1) (hI : Inv M) : Ci l D B cy yX11_grow cX11_grow 3 (some .boolean) 4 102 [.ref (B + 0), .int (zI x), .int (zI x1)] M (fun r M1 => ∃ z : Int, r = zI z ∧ (0 ≤ z ∧ z ≤ 1) ∧ Inv M1 ∧ Fr (fun b9 k9 => (b9 = 109 ∧ k9 = 0) ∨ (b9 = 22 ∧ k9 = 7) ∨ (b9 = 71 ∧ k9 = 1) ∨ (b9 = 71 ∧ k9 = 2) ∨ b9 = 135 ∨ b9 = 44 ∨ (73 ≤ b9 ∧ b9 ≤ 108)) M1 M) := by
  refine s_anyQ (by decide) (Nat.le_of_ble_eq_true rfl) ?_
  intro p e s m args below meth c ls Q F hr hlocks hQ w hl
  have F : CallFix p m c cX11_grow 3 s args TB RX11 := F
  have hx := F.1
  have hb := F.2.1
  have hl : lv_has ls 3 [(0, .ref (B + 0)), (1, .int (zI x)), (2, .int (zI x1))] := hl
  have hF : Fr (fun b9 k9 => (b9 = 109 ∧ k9 = 0) ∨ (b9 = 22 ∧ k9 = 7) ∨ (b9 = 71 ∧ k9 = 1) ∨ (b9 = 71 ∧ k9 = 2) ∨ b9 = 135 ∨ b9 = 44 ∨ (73 ≤ b9 ∧ b9 ≤ 108)) M M := Fr.rf
  refine lv_aload_n hx hb dX11_grow_0 rfl (lv_at hl 0 rfl) ?_
  refine f_11_4 F w (a := 0) rfl tb_280 dX11_grow_1 ?_
  refine f_9_1 F w (a := 44) rfl tb_310 dX11_grow_4 ?_
  obtain ⟨z1, bz1, ez1⟩ := Inv.ld (k := 1) hI (show iv 44 1 = (0, 12) from rfl) (show 44 < 146 by decide)
  refine r_val ez1 ?_
  refine lv_bipush (v := zI 12) hx hb dX11_grow_7 (by decide) ?_
  refine z_icmp_lt (tgt := 14) hx hb (by omega) (by omega) dX11_grow_9 (by decide) (fun c2 => ?_) (fun c2 => ?_)
  · refine lv_aload_n hx hb dX11_grow_14 rfl (lv_at hl 0 rfl) ?_
    refine k_Vv F w (As := []) (rest := []) (a := 0) (kd_lt (a := 0) (show kd 0 = (11, 0, 0) from rfl) (by decide)) (sh_11 rfl _ _) rfl (q_X11_beginAct   hI) gv_X11_123 hv_X11_beginAct ⟨(Nat.le_of_ble_eq_true rfl), (Nat.le_of_ble_eq_true rfl)⟩ hl.1 rfl (Nat.le_of_ble_eq_true rfl) ⟨Nat.zero_le _, Nat.zero_le _⟩ dX11_grow_15 (fun N4 H locs hp w => ?_)
    obtain ⟨hIN4, hFN4⟩ := hp
    have hGN4 := Fr.tr hF hFN4 (S := (fun b9 k9 => (b9 = 109 ∧ k9 = 0) ∨ (b9 = 22 ∧ k9 = 7) ∨ (b9 = 71 ∧ k9 = 1) ∨ (b9 = 71 ∧ k9 = 2) ∨ b9 = 135 ∨ b9 = 44 ∨ (73 ≤ b9 ∧ b9 ≤ 108))) (fun b k h => by (try dsimp only at h ⊢); (repeat' (refine Or.elim h ?_ ?_ <;> clear h <;> intro h)); all_goals first | (obtain ⟨rfl, rfl⟩ := h; decide) | (subst h; decide) | omega)
    have kn6 : N4.1 44 1 = zI z1 := (hFN4 44 1 (by first | omega | (dsimp only; omega))).trans (ez1)
    refine lv_aload_n hx hb dX11_grow_18 rfl (lv_at hl 0 rfl) ?_
    refine f_11_4 F w (a := 0) rfl tb_280 dX11_grow_19 ?_
    refine lv_iload_n hx hb dX11_grow_22 rfl (lv_at hl 1 rfl) ?_
    refine lv_iload_n hx hb dX11_grow_23 rfl (lv_at hl 2 rfl) ?_
    refine k_Vv F w (As := [.int (zI x), .int (zI x1)]) (rest := []) (a := 44) (kd_lt (a := 44) (show kd 44 = (9, 0, 0) from rfl) (by decide)) (sh_9 rfl _ _) rfl (q_X9_addSyllable (a := 44) rfl (x := x) (by omega) (x1 := x1) (by omega)  hIN4) gv_X11_153 hv_X9_addSyllable ⟨(Nat.le_of_ble_eq_true rfl), (Nat.le_of_ble_eq_true rfl)⟩ hl.1 rfl (Nat.le_of_ble_eq_true rfl) ⟨Nat.zero_le _, Nat.zero_le _⟩ dX11_grow_24 (fun N8 H locs hp w => ?_)
    obtain ⟨hIN8, hFN8⟩ := hp
    have hGN8 := Fr.tr hGN4 hFN8 (S := (fun b9 k9 => (b9 = 109 ∧ k9 = 0) ∨ (b9 = 22 ∧ k9 = 7) ∨ (b9 = 71 ∧ k9 = 1) ∨ (b9 = 71 ∧ k9 = 2) ∨ b9 = 135 ∨ b9 = 44 ∨ (73 ≤ b9 ∧ b9 ≤ 108))) (fun b k h => by (try dsimp only at h ⊢); (repeat' (refine Or.elim h ?_ ?_ <;> clear h <;> intro h)); all_goals first | (obtain ⟨rfl, rfl⟩ := h; decide) | (subst h; decide) | omega)
    refine lv_iconst (v := zI 1) hx hb dX11_grow_27 rfl ?_
    rw [hQ]
    exact e_z F w hr hlocks (nar_z (by omega)) ⟨_, rfl, (by omega), hIN8, hGN8⟩ dX11_grow_28
  · refine lv_iconst (v := zI 0) hx hb dX11_grow_12 rfl ?_
    rw [hQ]
    exact e_z F w hr hlocks (nar_z (by omega)) ⟨_, rfl, (by omega), hI, hF⟩ dX11_grow_13
theorem dX11_shrink_0 : decode cX11_shrink 0 = .ok (.aload_n 0, 1) := wdX11_shrink_0
theorem dX11_shrink_1 : decode cX11_shrink 1 = .ok (.getfield 43, 3) := wdX11_shrink_1
theorem dX11_shrink_4 : decode cX11_shrink 4 = .ok (.getfield 150, 3) := wdX11_shrink_4
theorem dX11_shrink_7 : decode cX11_shrink 7 = .ok (.ifCond .gt 5, 3) := wdX11_shrink_7
theorem dX11_shrink_12 : decode cX11_shrink 12 = .ok (.aload_n 0, 1) := wdX11_shrink_12
theorem dX11_shrink_13 : decode cX11_shrink 13 = .ok (.invokevirtual 123, 3) := wdX11_shrink_13
theorem dX11_shrink_16 : decode cX11_shrink 16 = .ok (.aload_n 0, 1) := wdX11_shrink_16
theorem dX11_shrink_17 : decode cX11_shrink 17 = .ok (.getfield 43, 3) := wdX11_shrink_17
theorem dX11_shrink_20 : decode cX11_shrink 20 = .ok (.invokevirtual 157, 3) := wdX11_shrink_20
theorem tk_X9_removeSyllable : Cond.code yX9_removeSyllable cX9_removeSyllable 2 none ∈ TB := wtk_X9_removeSyllable
theorem gc_X9_removeSyllable : GoodIn TB (cw yX9_removeSyllable cX9_removeSyllable 2 none) := goodIn_c2 tk_X9_removeSyllable
theorem tb_314 : Cond.methodLink "ToneLines" 157 yX9_removeSyllable ∈ TB := wtb_245
theorem tb_315 : Cond.instanceMethod yX9_removeSyllable ∈ TB := wtb_246
theorem tb_316 : Cond.selects "ToneLines$Word" yX9_removeSyllable yX9_removeSyllable ∈ TB := wtb_247
theorem gv_X11_157 : GoodIn TB (wsV RX11 157 RX9 yX9_removeSyllable (cw yX9_removeSyllable cX9_removeSyllable 2 none)) := goodIn_4 tb_314 tb_315 tb_316 tb_5 gc_X9_removeSyllable
theorem hv_X9_removeSyllable : yX9_removeSyllable.cls = RX9 ∧ yX9_removeSyllable.cls ≠ "java/lang/invoke/MethodHandle" ∧ yX9_removeSyllable.cls ≠ "java/lang/invoke/VarHandle" ∧ (parseMethodDescriptor yX9_removeSyllable.desc).map (fun d => d.parameters.length) = some 0 := whv_X9_removeSyllable
theorem dX11_shrink_23 : decode cX11_shrink 23 = .ok (.iconst 1, 1) := wdX11_shrink_23
theorem dX11_shrink_24 : decode cX11_shrink 24 = .ok (.ireturn, 1) := wdX11_shrink_24
theorem dX11_shrink_10 : decode cX11_shrink 10 = .ok (.iconst 0, 1) := wdX11_shrink_10
theorem dX11_shrink_11 : decode cX11_shrink 11 = .ok (.ireturn, 1) := wdX11_shrink_11
set_option maxRecDepth 4000 in
theorem q_X11_shrink {l : Launch} {D : va_G} {B : Nat} {cy : Nat → ClassId} {M : Mem}  (hI : Inv M) : Ci l D B cy yX11_shrink cX11_shrink 1 (some .boolean) 4 102 [.ref (B + 0)] M (fun r M1 => ∃ z : Int, r = zI z ∧ (0 ≤ z ∧ z ≤ 1) ∧ Inv M1 ∧ Fr (fun b9 k9 => (b9 = 109 ∧ k9 = 0) ∨ (b9 = 22 ∧ k9 = 7) ∨ (b9 = 71 ∧ k9 = 1) ∨ (b9 = 71 ∧ k9 = 2) ∨ b9 = 135 ∨ b9 = 44 ∨ b9 = 46 ∨ (73 ≤ b9 ∧ b9 ≤ 108)) M1 M) := by
  refine s_anyQ (by decide) (Nat.le_of_ble_eq_true rfl) ?_
  intro p e s m args below meth c ls Q F hr hlocks hQ w hl
  have F : CallFix p m c cX11_shrink 1 s args TB RX11 := F
  have hx := F.1
  have hb := F.2.1
  have hl : lv_has ls 1 [(0, .ref (B + 0))] := hl
  have hF : Fr (fun b9 k9 => (b9 = 109 ∧ k9 = 0) ∨ (b9 = 22 ∧ k9 = 7) ∨ (b9 = 71 ∧ k9 = 1) ∨ (b9 = 71 ∧ k9 = 2) ∨ b9 = 135 ∨ b9 = 44 ∨ b9 = 46 ∨ (73 ≤ b9 ∧ b9 ≤ 108)) M M := Fr.rf
  refine lv_aload_n hx hb dX11_shrink_0 rfl (lv_at hl 0 rfl) ?_
  refine f_11_4 F w (a := 0) rfl tb_280 dX11_shrink_1 ?_
  refine f_9_1 F w (a := 44) rfl tb_310 dX11_shrink_4 ?_
  obtain ⟨z1, bz1, ez1⟩ := Inv.ld (k := 1) hI (show iv 44 1 = (0, 12) from rfl) (show 44 < 146 by decide)
  refine r_val ez1 ?_
  refine z_if_gt (tgt := 12) hx hb (by omega) dX11_shrink_7 (by decide) (fun c2 => ?_) (fun c2 => ?_)
  · refine lv_aload_n hx hb dX11_shrink_12 rfl (lv_at hl 0 rfl) ?_
    refine k_Vv F w (As := []) (rest := []) (a := 0) (kd_lt (a := 0) (show kd 0 = (11, 0, 0) from rfl) (by decide)) (sh_11 rfl _ _) rfl (q_X11_beginAct   hI) gv_X11_123 hv_X11_beginAct ⟨(Nat.le_of_ble_eq_true rfl), (Nat.le_of_ble_eq_true rfl)⟩ hl.1 rfl (Nat.le_of_ble_eq_true rfl) ⟨Nat.zero_le _, Nat.zero_le _⟩ dX11_shrink_13 (fun N4 H locs hp w => ?_)
    obtain ⟨hIN4, hFN4⟩ := hp
    have hGN4 := Fr.tr hF hFN4 (S := (fun b9 k9 => (b9 = 109 ∧ k9 = 0) ∨ (b9 = 22 ∧ k9 = 7) ∨ (b9 = 71 ∧ k9 = 1) ∨ (b9 = 71 ∧ k9 = 2) ∨ b9 = 135 ∨ b9 = 44 ∨ b9 = 46 ∨ (73 ≤ b9 ∧ b9 ≤ 108))) (fun b k h => by (try dsimp only at h ⊢); (repeat' (refine Or.elim h ?_ ?_ <;> clear h <;> intro h)); all_goals first | (obtain ⟨rfl, rfl⟩ := h; decide) | (subst h; decide) | omega)
    have kn6 : N4.1 44 1 = zI z1 := (hFN4 44 1 (by first | omega | (dsimp only; omega))).trans (ez1)
    refine lv_aload_n hx hb dX11_shrink_16 rfl (lv_at hl 0 rfl) ?_
    refine f_11_4 F w (a := 0) rfl tb_280 dX11_shrink_17 ?_
    refine k_Vv F w (As := []) (rest := []) (a := 44) (kd_lt (a := 44) (show kd 44 = (9, 0, 0) from rfl) (by decide)) (sh_9 rfl _ _) rfl (q_X9_removeSyllable (a := 44) rfl  hIN4) gv_X11_157 hv_X9_removeSyllable ⟨(Nat.le_of_ble_eq_true rfl), (Nat.le_of_ble_eq_true rfl)⟩ hl.1 rfl (Nat.le_of_ble_eq_true rfl) ⟨Nat.zero_le _, Nat.zero_le _⟩ dX11_shrink_20 (fun N8 H locs hp w => ?_)
    obtain ⟨hIN8, hFN8⟩ := hp
    have hGN8 := Fr.tr hGN4 hFN8 (S := (fun b9 k9 => (b9 = 109 ∧ k9 = 0) ∨ (b9 = 22 ∧ k9 = 7) ∨ (b9 = 71 ∧ k9 = 1) ∨ (b9 = 71 ∧ k9 = 2) ∨ b9 = 135 ∨ b9 = 44 ∨ b9 = 46 ∨ (73 ≤ b9 ∧ b9 ≤ 108))) (fun b k h => by (try dsimp only at h ⊢); (repeat' (refine Or.elim h ?_ ?_ <;> clear h <;> intro h)); all_goals first | (obtain ⟨rfl, rfl⟩ := h; decide) | (subst h; decide) | omega)
    refine lv_iconst (v := zI 1) hx hb dX11_shrink_23 rfl ?_
    rw [hQ]
    exact e_z F w hr hlocks (nar_z (by omega)) ⟨_, rfl, (by omega), hIN8, hGN8⟩ dX11_shrink_24
  · refine lv_iconst (v := zI 0) hx hb dX11_shrink_10 rfl ?_
    rw [hQ]
    exact e_z F w hr hlocks (nar_z (by omega)) ⟨_, rfl, (by omega), hI, hF⟩ dX11_shrink_11
theorem dX11_mark_0 : decode cX11_mark 0 = .ok (.aload_n 0, 1) := wdX11_mark_0
theorem dX11_mark_1 : decode cX11_mark 1 = .ok (.getfield 43, 3) := wdX11_mark_1
theorem dX11_mark_4 : decode cX11_mark 4 = .ok (.iload_n 1, 1) := wdX11_mark_4
theorem dX11_mark_5 : decode cX11_mark 5 = .ok (.invokevirtual 160, 3) := wdX11_mark_5
theorem tb_317 : Cond.methodLink "ToneLines" 160 yX9_hasSyllable ∈ TB := wtb_248
theorem gv_X11_160 : GoodIn TB (wsV RX11 160 RX9 yX9_hasSyllable (cw yX9_hasSyllable cX9_hasSyllable 2 (some .boolean))) := goodIn_4 tb_317 tb_9 tb_10 tb_5 gc_X9_hasSyllable
theorem dX11_mark_8 : decode cX11_mark 8 = .ok (.ifCond .ne 5, 3) := wdX11_mark_8
theorem dX11_mark_13 : decode cX11_mark 13 = .ok (.aload_n 0, 1) := wdX11_mark_13
theorem dX11_mark_14 : decode cX11_mark 14 = .ok (.getfield 43, 3) := wdX11_mark_14
theorem dX11_mark_17 : decode cX11_mark 17 = .ok (.iload_n 1, 1) := wdX11_mark_17
theorem dX11_mark_18 : decode cX11_mark 18 = .ok (.invokevirtual 163, 3) := wdX11_mark_18
theorem tb_318 : Cond.methodLink "ToneLines" 163 yX9_isHeavy ∈ TB := wtb_251
theorem gv_X11_163 : GoodIn TB (wsV RX11 163 RX9 yX9_isHeavy (cw yX9_isHeavy cX9_isHeavy 2 (some .boolean))) := goodIn_4 tb_318 tb_114 tb_115 tb_5 gc_X9_isHeavy
theorem dX11_mark_21 : decode cX11_mark 21 = .ok (.iload_n 2, 1) := wdX11_mark_21
theorem dX11_mark_22 : decode cX11_mark 22 = .ok (.if_icmp .ne 17, 3) := wdX11_mark_22
theorem dX11_mark_39 : decode cX11_mark 39 = .ok (.aload_n 0, 1) := wdX11_mark_39
theorem dX11_mark_40 : decode cX11_mark 40 = .ok (.invokevirtual 123, 3) := wdX11_mark_40
theorem dX11_mark_43 : decode cX11_mark 43 = .ok (.aload_n 0, 1) := wdX11_mark_43
theorem dX11_mark_44 : decode cX11_mark 44 = .ok (.getfield 43, 3) := wdX11_mark_44
theorem dX11_mark_47 : decode cX11_mark 47 = .ok (.iload_n 1, 1) := wdX11_mark_47
theorem dX11_mark_48 : decode cX11_mark 48 = .ok (.iload_n 2, 1) := wdX11_mark_48
theorem dX11_mark_49 : decode cX11_mark 49 = .ok (.iload_n 3, 1) := wdX11_mark_49
theorem dX11_mark_50 : decode cX11_mark 50 = .ok (.invokevirtual 169, 3) := wdX11_mark_50
theorem tb_319 : Cond.methodLink "ToneLines" 169 yX9_setSyllable ∈ TB := wtb_252
theorem gv_X11_169 : GoodIn TB (wsV RX11 169 RX9 yX9_setSyllable (cw yX9_setSyllable cX9_setSyllable 5 none)) := goodIn_4 tb_319 tb_27 tb_28 tb_5 gc_X9_setSyllable
theorem dX11_mark_53 : decode cX11_mark 53 = .ok (.iconst 1, 1) := wdX11_mark_53
theorem dX11_mark_54 : decode cX11_mark 54 = .ok (.ireturn, 1) := wdX11_mark_54
theorem dX11_mark_25 : decode cX11_mark 25 = .ok (.aload_n 0, 1) := wdX11_mark_25
theorem dX11_mark_26 : decode cX11_mark 26 = .ok (.getfield 43, 3) := wdX11_mark_26
theorem dX11_mark_29 : decode cX11_mark 29 = .ok (.iload_n 1, 1) := wdX11_mark_29
theorem dX11_mark_30 : decode cX11_mark 30 = .ok (.invokevirtual 166, 3) := wdX11_mark_30
theorem tb_320 : Cond.methodLink "ToneLines" 166 yX9_hasEdge ∈ TB := wtb_255
theorem gv_X11_166 : GoodIn TB (wsV RX11 166 RX9 yX9_hasEdge (cw yX9_hasEdge cX9_hasEdge 2 (some .boolean))) := goodIn_4 tb_320 tb_99 tb_100 tb_5 gc_X9_hasEdge
theorem dX11_mark_33 : decode cX11_mark 33 = .ok (.iload_n 3, 1) := wdX11_mark_33
theorem dX11_mark_34 : decode cX11_mark 34 = .ok (.if_icmp .ne 5, 3) := wdX11_mark_34
theorem dX11_mark_37 : decode cX11_mark 37 = .ok (.iconst 0, 1) := wdX11_mark_37
theorem dX11_mark_38 : decode cX11_mark 38 = .ok (.ireturn, 1) := wdX11_mark_38
theorem dX11_mark_11 : decode cX11_mark 11 = .ok (.iconst 0, 1) := wdX11_mark_11
theorem dX11_mark_12 : decode cX11_mark 12 = .ok (.ireturn, 1) := wdX11_mark_12
set_option maxRecDepth 4000 in
theorem q_X11_mark {l : Launch} {D : va_G} {B : Nat} {cy : Nat → ClassId} {M : Mem} {y : Int} (hy : (-2147483648) ≤ y ∧ y ≤ 2147483647) {x : Int} (hx : 0 ≤ x ∧ x ≤ 1) {x1 : Int} (hx1 : 0 ≤ x1 ∧ x1 ≤ 1) (hI : Inv M) : Ci l D B cy yX11_mark cX11_mark 4 (some .boolean) 4 102 [.ref (B + 0), .int (zI y), .int (zI x), .int (zI x1)] M (fun r M1 => ∃ z : Int, r = zI z ∧ (0 ≤ z ∧ z ≤ 1) ∧ Inv M1 ∧ Fr (fun b9 k9 => (b9 = 109 ∧ k9 = 0) ∨ (b9 = 22 ∧ k9 = 7) ∨ (b9 = 71 ∧ k9 = 1) ∨ (b9 = 71 ∧ k9 = 2) ∨ b9 = 135 ∨ b9 = 44 ∨ (73 ≤ b9 ∧ b9 ≤ 108)) M1 M) := by
  refine s_anyQ (by decide) (Nat.le_of_ble_eq_true rfl) ?_
  intro p e s m args below meth c ls Q F hr hlocks hQ w hl
  have F : CallFix p m c cX11_mark 4 s args TB RX11 := F
  have hx := F.1
  have hb := F.2.1
  have hl : lv_has ls 4 [(0, .ref (B + 0)), (1, .int (zI y)), (2, .int (zI x)), (3, .int (zI x1))] := hl
  have hF : Fr (fun b9 k9 => (b9 = 109 ∧ k9 = 0) ∨ (b9 = 22 ∧ k9 = 7) ∨ (b9 = 71 ∧ k9 = 1) ∨ (b9 = 71 ∧ k9 = 2) ∨ b9 = 135 ∨ b9 = 44 ∨ (73 ≤ b9 ∧ b9 ≤ 108)) M M := Fr.rf
  refine lv_aload_n hx hb dX11_mark_0 rfl (lv_at hl 0 rfl) ?_
  refine f_11_4 F w (a := 0) rfl tb_280 dX11_mark_1 ?_
  refine lv_iload_n hx hb dX11_mark_4 rfl (lv_at hl 1 rfl) ?_
  refine k_Vi F w (As := [.int (zI y)]) (rest := []) (a := 44) (kd_lt (a := 44) (show kd 44 = (9, 0, 0) from rfl) (by decide)) (sh_9 rfl _ _) rfl (q_X9_hasSyllable (a := 44) rfl (y := y) (by omega)  hI) gv_X11_160 hv_X9_hasSyllable ⟨(Nat.le_of_ble_eq_true rfl), (Nat.le_of_ble_eq_true rfl)⟩ hl.1 rfl (Nat.le_of_ble_eq_true rfl) ⟨Nat.zero_le _, Nat.zero_le _⟩ dX11_mark_5 (fun r1 N2 H locs hp w => ?_)
  obtain ⟨z3, rfl, bz3, xz3, hMN2⟩ := hp
  rw [hMN2] at w
  refine z_if_ne (tgt := 13) hx hb (by omega) dX11_mark_8 (by decide) (fun c4 => ?_) (fun c4 => ?_)
  · refine lv_aload_n hx hb dX11_mark_13 rfl (lv_at hl 0 rfl) ?_
    refine f_11_4 F w (a := 0) rfl tb_280 dX11_mark_14 ?_
    refine lv_iload_n hx hb dX11_mark_17 rfl (lv_at hl 1 rfl) ?_
    refine k_Vi F w (As := [.int (zI y)]) (rest := []) (a := 44) (kd_lt (a := 44) (show kd 44 = (9, 0, 0) from rfl) (by decide)) (sh_9 rfl _ _) rfl (q_X9_isHeavy (a := 44) rfl (y := y) (by omega)  hI) gv_X11_163 hv_X9_isHeavy ⟨(Nat.le_of_ble_eq_true rfl), (Nat.le_of_ble_eq_true rfl)⟩ hl.1 rfl (Nat.le_of_ble_eq_true rfl) ⟨Nat.zero_le _, Nat.zero_le _⟩ dX11_mark_18 (fun r5 N6 H locs hp w => ?_)
    obtain ⟨z7, rfl, bz7, xz7, hMN6⟩ := hp
    rw [hMN6] at w
    refine lv_iload_n hx hb dX11_mark_21 rfl (lv_at hl 2 rfl) ?_
    refine z_icmp_ne (tgt := 39) hx hb (by omega) (by omega) dX11_mark_22 (by decide) (fun c8 => ?_) (fun c8 => ?_)
    · refine lv_aload_n hx hb dX11_mark_39 rfl (lv_at hl 0 rfl) ?_
      refine k_Vv F w (As := []) (rest := []) (a := 0) (kd_lt (a := 0) (show kd 0 = (11, 0, 0) from rfl) (by decide)) (sh_11 rfl _ _) rfl (q_X11_beginAct   hI) gv_X11_123 hv_X11_beginAct ⟨(Nat.le_of_ble_eq_true rfl), (Nat.le_of_ble_eq_true rfl)⟩ hl.1 rfl (Nat.le_of_ble_eq_true rfl) ⟨Nat.zero_le _, Nat.zero_le _⟩ dX11_mark_40 (fun N10 H locs hp w => ?_)
      obtain ⟨hIN10, hFN10⟩ := hp
      have hGN10 := Fr.tr hF hFN10 (S := (fun b9 k9 => (b9 = 109 ∧ k9 = 0) ∨ (b9 = 22 ∧ k9 = 7) ∨ (b9 = 71 ∧ k9 = 1) ∨ (b9 = 71 ∧ k9 = 2) ∨ b9 = 135 ∨ b9 = 44 ∨ (73 ≤ b9 ∧ b9 ≤ 108))) (fun b k h => by (try dsimp only at h ⊢); (repeat' (refine Or.elim h ?_ ?_ <;> clear h <;> intro h)); all_goals first | (obtain ⟨rfl, rfl⟩ := h; decide) | (subst h; decide) | omega)
      refine lv_aload_n hx hb dX11_mark_43 rfl (lv_at hl 0 rfl) ?_
      refine f_11_4 F w (a := 0) rfl tb_280 dX11_mark_44 ?_
      refine lv_iload_n hx hb dX11_mark_47 rfl (lv_at hl 1 rfl) ?_
      refine lv_iload_n hx hb dX11_mark_48 rfl (lv_at hl 2 rfl) ?_
      refine lv_iload_n hx hb dX11_mark_49 rfl (lv_at hl 3 rfl) ?_
      refine k_Vv F w (As := [.int (zI y), .int (zI x), .int (zI x1)]) (rest := []) (a := 44) (kd_lt (a := 44) (show kd 44 = (9, 0, 0) from rfl) (by decide)) (sh_9 rfl _ _) rfl (q_X9_setSyllable (a := 44) rfl (y := y) (by omega) (x := x) (by omega) (x1 := x1) (by omega)  hIN10) gv_X11_169 hv_X9_setSyllable ⟨(Nat.le_of_ble_eq_true rfl), (Nat.le_of_ble_eq_true rfl)⟩ hl.1 rfl (Nat.le_of_ble_eq_true rfl) ⟨Nat.zero_le _, Nat.zero_le _⟩ dX11_mark_50 (fun N13 H locs hp w => ?_)
      obtain ⟨hIN13, hFN13⟩ := hp
      have hGN13 := Fr.tr hGN10 hFN13 (S := (fun b9 k9 => (b9 = 109 ∧ k9 = 0) ∨ (b9 = 22 ∧ k9 = 7) ∨ (b9 = 71 ∧ k9 = 1) ∨ (b9 = 71 ∧ k9 = 2) ∨ b9 = 135 ∨ b9 = 44 ∨ (73 ≤ b9 ∧ b9 ≤ 108))) (fun b k h => by (try dsimp only at h ⊢); (repeat' (refine Or.elim h ?_ ?_ <;> clear h <;> intro h)); all_goals first | (obtain ⟨rfl, rfl⟩ := h; decide) | (subst h; decide) | omega)
      refine lv_iconst (v := zI 1) hx hb dX11_mark_53 rfl ?_
      rw [hQ]
      exact e_z F w hr hlocks (nar_z (by omega)) ⟨_, rfl, (by omega), hIN13, hGN13⟩ dX11_mark_54
    · refine lv_aload_n hx hb dX11_mark_25 rfl (lv_at hl 0 rfl) ?_
      refine f_11_4 F w (a := 0) rfl tb_280 dX11_mark_26 ?_
      refine lv_iload_n hx hb dX11_mark_29 rfl (lv_at hl 1 rfl) ?_
      refine k_Vi F w (As := [.int (zI y)]) (rest := []) (a := 44) (kd_lt (a := 44) (show kd 44 = (9, 0, 0) from rfl) (by decide)) (sh_9 rfl _ _) rfl (q_X9_hasEdge (a := 44) rfl (y := y) (by omega)  hI) gv_X11_166 hv_X9_hasEdge ⟨(Nat.le_of_ble_eq_true rfl), (Nat.le_of_ble_eq_true rfl)⟩ hl.1 rfl (Nat.le_of_ble_eq_true rfl) ⟨Nat.zero_le _, Nat.zero_le _⟩ dX11_mark_30 (fun r15 N16 H locs hp w => ?_)
      obtain ⟨z17, rfl, bz17, xz17, hMN16⟩ := hp
      rw [hMN16] at w
      refine lv_iload_n hx hb dX11_mark_33 rfl (lv_at hl 3 rfl) ?_
      refine z_icmp_ne (tgt := 39) hx hb (by omega) (by omega) dX11_mark_34 (by decide) (fun c18 => ?_) (fun c18 => ?_)
      · refine lv_aload_n hx hb dX11_mark_39 rfl (lv_at hl 0 rfl) ?_
        refine k_Vv F w (As := []) (rest := []) (a := 0) (kd_lt (a := 0) (show kd 0 = (11, 0, 0) from rfl) (by decide)) (sh_11 rfl _ _) rfl (q_X11_beginAct   hI) gv_X11_123 hv_X11_beginAct ⟨(Nat.le_of_ble_eq_true rfl), (Nat.le_of_ble_eq_true rfl)⟩ hl.1 rfl (Nat.le_of_ble_eq_true rfl) ⟨Nat.zero_le _, Nat.zero_le _⟩ dX11_mark_40 (fun N20 H locs hp w => ?_)
        obtain ⟨hIN20, hFN20⟩ := hp
        have hGN20 := Fr.tr hF hFN20 (S := (fun b9 k9 => (b9 = 109 ∧ k9 = 0) ∨ (b9 = 22 ∧ k9 = 7) ∨ (b9 = 71 ∧ k9 = 1) ∨ (b9 = 71 ∧ k9 = 2) ∨ b9 = 135 ∨ b9 = 44 ∨ (73 ≤ b9 ∧ b9 ≤ 108))) (fun b k h => by (try dsimp only at h ⊢); (repeat' (refine Or.elim h ?_ ?_ <;> clear h <;> intro h)); all_goals first | (obtain ⟨rfl, rfl⟩ := h; decide) | (subst h; decide) | omega)
        refine lv_aload_n hx hb dX11_mark_43 rfl (lv_at hl 0 rfl) ?_
        refine f_11_4 F w (a := 0) rfl tb_280 dX11_mark_44 ?_
        refine lv_iload_n hx hb dX11_mark_47 rfl (lv_at hl 1 rfl) ?_
        refine lv_iload_n hx hb dX11_mark_48 rfl (lv_at hl 2 rfl) ?_
        refine lv_iload_n hx hb dX11_mark_49 rfl (lv_at hl 3 rfl) ?_
        refine k_Vv F w (As := [.int (zI y), .int (zI x), .int (zI x1)]) (rest := []) (a := 44) (kd_lt (a := 44) (show kd 44 = (9, 0, 0) from rfl) (by decide)) (sh_9 rfl _ _) rfl (q_X9_setSyllable (a := 44) rfl (y := y) (by omega) (x := x) (by omega) (x1 := x1) (by omega)  hIN20) gv_X11_169 hv_X9_setSyllable ⟨(Nat.le_of_ble_eq_true rfl), (Nat.le_of_ble_eq_true rfl)⟩ hl.1 rfl (Nat.le_of_ble_eq_true rfl) ⟨Nat.zero_le _, Nat.zero_le _⟩ dX11_mark_50 (fun N23 H locs hp w => ?_)
        obtain ⟨hIN23, hFN23⟩ := hp
        have hGN23 := Fr.tr hGN20 hFN23 (S := (fun b9 k9 => (b9 = 109 ∧ k9 = 0) ∨ (b9 = 22 ∧ k9 = 7) ∨ (b9 = 71 ∧ k9 = 1) ∨ (b9 = 71 ∧ k9 = 2) ∨ b9 = 135 ∨ b9 = 44 ∨ (73 ≤ b9 ∧ b9 ≤ 108))) (fun b k h => by (try dsimp only at h ⊢); (repeat' (refine Or.elim h ?_ ?_ <;> clear h <;> intro h)); all_goals first | (obtain ⟨rfl, rfl⟩ := h; decide) | (subst h; decide) | omega)
        refine lv_iconst (v := zI 1) hx hb dX11_mark_53 rfl ?_
        rw [hQ]
        exact e_z F w hr hlocks (nar_z (by omega)) ⟨_, rfl, (by omega), hIN23, hGN23⟩ dX11_mark_54
      · refine lv_iconst (v := zI 0) hx hb dX11_mark_37 rfl ?_
        rw [hQ]
        exact e_z F w hr hlocks (nar_z (by omega)) ⟨_, rfl, (by omega), hI, hF⟩ dX11_mark_38
  · refine lv_iconst (v := zI 0) hx hb dX11_mark_11 rfl ?_
    rw [hQ]
    exact e_z F w hr hlocks (nar_z (by omega)) ⟨_, rfl, (by omega), hI, hF⟩ dX11_mark_12
theorem dX11_does_0 : decode cX11_does 0 = .ok (.aload_n 0, 1) := wdX11_does_0
theorem dX11_does_1 : decode cX11_does 1 = .ok (.getfield 35, 3) := wdX11_does_1
theorem dX11_does_4 : decode cX11_does 4 = .ok (.iload_n 1, 1) := wdX11_does_4
theorem dX11_does_5 : decode cX11_does 5 = .ok (.invokevirtual 173, 3) := wdX11_does_5
theorem tk_X0_hasRule : Cond.code yX0_hasRule cX0_hasRule 2 (some .boolean) ∈ TB := rtk_X0_hasRule
theorem gc_X0_hasRule : GoodIn TB (cw yX0_hasRule cX0_hasRule 2 (some .boolean)) := goodIn_c2 tk_X0_hasRule
theorem tb_321 : Cond.methodLink "ToneLines" 173 yX0_hasRule ∈ TB := rtb_169
theorem tb_322 : Cond.instanceMethod yX0_hasRule ∈ TB := rtb_170
theorem tb_323 : Cond.selects "ToneLines$Derivation" yX0_hasRule yX0_hasRule ∈ TB := rtb_171
theorem gv_X11_173 : GoodIn TB (wsV RX11 173 RX0 yX0_hasRule (cw yX0_hasRule cX0_hasRule 2 (some .boolean))) := goodIn_4 tb_321 tb_322 tb_323 tb_187 gc_X0_hasRule
theorem hv_X0_hasRule : yX0_hasRule.cls = RX0 ∧ yX0_hasRule.cls ≠ "java/lang/invoke/MethodHandle" ∧ yX0_hasRule.cls ≠ "java/lang/invoke/VarHandle" ∧ (parseMethodDescriptor yX0_hasRule.desc).map (fun d => d.parameters.length) = some 1 := rhv_X0_hasRule
theorem dX11_does_8 : decode cX11_does 8 = .ok (.ifCond .ne 5, 3) := wdX11_does_8
theorem dX11_does_13 : decode cX11_does 13 = .ok (.aload_n 0, 1) := wdX11_does_13
theorem dX11_does_14 : decode cX11_does 14 = .ok (.getfield 75, 3) := wdX11_does_14
theorem tb_324 : Cond.fieldLink "ToneLines" 75 "ToneLines" "draft" "LToneLines$Word;" ∈ TB := wtb_261
theorem dX11_does_17 : decode cX11_does 17 = .ok (.aload_n 0, 1) := wdX11_does_17
theorem dX11_does_18 : decode cX11_does 18 = .ok (.getfield 43, 3) := wdX11_does_18
theorem dX11_does_21 : decode cX11_does 21 = .ok (.invokevirtual 90, 3) := wdX11_does_21
theorem dX11_does_24 : decode cX11_does 24 = .ok (.aload_n 0, 1) := wdX11_does_24
theorem dX11_does_25 : decode cX11_does 25 = .ok (.getfield 35, 3) := wdX11_does_25
theorem dX11_does_28 : decode cX11_does 28 = .ok (.getfield 176, 3) := wdX11_does_28
theorem tb_325 : Cond.fieldLink "ToneLines" 176 "ToneLines$Derivation" "doer" "LToneLines$Doer;" ∈ TB := wtb_262
theorem dX11_does_31 : decode cX11_does 31 = .ok (.aload_n 0, 1) := wdX11_does_31
theorem dX11_does_32 : decode cX11_does 32 = .ok (.getfield 35, 3) := wdX11_does_32
theorem dX11_does_35 : decode cX11_does 35 = .ok (.getfield 180, 3) := wdX11_does_35
theorem tb_326 : Cond.fieldLink "ToneLines" 180 "ToneLines$Derivation" "list" "[LToneLines$Rule;" ∈ TB := rtb_172
theorem dX11_does_38 : decode cX11_does 38 = .ok (.iload_n 1, 1) := wdX11_does_38
theorem dX11_does_39 : decode cX11_does 39 = .ok (.aaload, 1) := wdX11_does_39
theorem dX11_does_40 : decode cX11_does 40 = .ok (.aload_n 0, 1) := wdX11_does_40
theorem dX11_does_41 : decode cX11_does 41 = .ok (.getfield 75, 3) := wdX11_does_41
theorem dX11_does_44 : decode cX11_does 44 = .ok (.invokevirtual 183, 3) := wdX11_does_44
theorem tb_327 : Cond.methodLink "ToneLines" 183 yX1_perform ∈ TB := wtb_264
theorem gv_X11_183 : GoodIn TB (wsV RX11 183 RX1 yX1_perform (cw yX1_perform cX1_perform 6 (some .int))) := goodIn_4 tb_327 tb_196 tb_197 tb_76 gc_X1_perform
theorem dX11_does_47 : decode cX11_does 47 = .ok (.istore_n 2, 1) := wdX11_does_47
theorem dX11_does_48 : decode cX11_does 48 = .ok (.aload_n 0, 1) := wdX11_does_48
theorem dX11_does_49 : decode cX11_does 49 = .ok (.aload_n 0, 1) := wdX11_does_49
theorem dX11_does_50 : decode cX11_does 50 = .ok (.getfield 75, 3) := wdX11_does_50
theorem dX11_does_53 : decode cX11_does 53 = .ok (.iload_n 2, 1) := wdX11_does_53
theorem dX11_does_54 : decode cX11_does 54 = .ok (.invokevirtual 189, 3) := wdX11_does_54
theorem tk_X11_becomes : Cond.code yX11_becomes cX11_becomes 3 none ∈ TB := wtk_X11_becomes
theorem gc_X11_becomes : GoodIn TB (cw yX11_becomes cX11_becomes 3 none) := goodIn_c2 tk_X11_becomes
theorem tb_328 : Cond.methodLink "ToneLines" 189 yX11_becomes ∈ TB := wtb_265
theorem tb_329 : Cond.instanceMethod yX11_becomes ∈ TB := wtb_266
theorem tb_330 : Cond.selects "ToneLines" yX11_becomes yX11_becomes ∈ TB := wtb_267
theorem gv_X11_189 : GoodIn TB (wsV RX11 189 RX11 yX11_becomes (cw yX11_becomes cX11_becomes 3 none)) := goodIn_4 tb_328 tb_329 tb_330 tb_95 gc_X11_becomes
theorem hv_X11_becomes : yX11_becomes.cls = RX11 ∧ yX11_becomes.cls ≠ "java/lang/invoke/MethodHandle" ∧ yX11_becomes.cls ≠ "java/lang/invoke/VarHandle" ∧ (parseMethodDescriptor yX11_becomes.desc).map (fun d => d.parameters.length) = some 2 := whv_X11_becomes
theorem dX11_does_57 : decode cX11_does 57 = .ok (.iload_n 2, 1) := wdX11_does_57
theorem dX11_does_58 : decode cX11_does 58 = .ok (.ireturn, 1) := wdX11_does_58
theorem dX11_does_11 : decode cX11_does 11 = .ok (.iconst (-1), 1) := wdX11_does_11
theorem dX11_does_12 : decode cX11_does 12 = .ok (.ireturn, 1) := wdX11_does_12
set_option maxRecDepth 4000 in
theorem q_X11_does {l : Launch} {D : va_G} {B : Nat} {cy : Nat → ClassId} {M : Mem} {x : Int} (hx : (-2147483648) ≤ x ∧ x ≤ 2147483647) (hI : Inv M) : Ci l D B cy yX11_does cX11_does 3 (some .int) 5 133 [.ref (B + 0), .int (zI x)] M (fun r M1 => ∃ z : Int, r = zI z ∧ ((-2147483648) ≤ z ∧ z ≤ 2147483647) ∧ Inv M1 ∧ Fr (fun b9 k9 => (b9 = 109 ∧ k9 = 0) ∨ (b9 = 22 ∧ k9 = 7) ∨ (b9 = 23 ∧ k9 = 0) ∨ (b9 = 71 ∧ k9 = 1) ∨ (b9 = 71 ∧ k9 = 2) ∨ b9 = 135 ∨ b9 = 143 ∨ b9 = 144 ∨ b9 = 145 ∨ b9 = 44 ∨ b9 = 45 ∨ b9 = 46 ∨ (73 ≤ b9 ∧ b9 ≤ 108)) M1 M) := by
  refine s_anyQ (by decide) (Nat.le_of_ble_eq_true rfl) ?_
  intro p e s m args below meth c ls Q F hr hlocks hQ w hl
  have F : CallFix p m c cX11_does 3 s args TB RX11 := F
  have hx := F.1
  have hb := F.2.1
  have hl : lv_has ls 3 [(0, .ref (B + 0)), (1, .int (zI x))] := hl
  have hF : Fr (fun b9 k9 => (b9 = 109 ∧ k9 = 0) ∨ (b9 = 22 ∧ k9 = 7) ∨ (b9 = 23 ∧ k9 = 0) ∨ (b9 = 71 ∧ k9 = 1) ∨ (b9 = 71 ∧ k9 = 2) ∨ b9 = 135 ∨ b9 = 143 ∨ b9 = 144 ∨ b9 = 145 ∨ b9 = 44 ∨ b9 = 45 ∨ b9 = 46 ∨ (73 ≤ b9 ∧ b9 ≤ 108)) M M := Fr.rf
  refine lv_aload_n hx hb dX11_does_0 rfl (lv_at hl 0 rfl) ?_
  refine f_11_3 F w (a := 0) rfl tb_273 dX11_does_1 ?_
  refine lv_iload_n hx hb dX11_does_4 rfl (lv_at hl 1 rfl) ?_
  refine k_Vi F w (As := [.int (zI x)]) (rest := []) (a := 22) (kd_lt (a := 22) (show kd 22 = (0, 0, 0) from rfl) (by decide)) (sh_0 rfl _ _) rfl (q_X0_hasRule (x := x) (by omega)  hI) gv_X11_173 hv_X0_hasRule ⟨(Nat.le_of_ble_eq_true rfl), (Nat.le_of_ble_eq_true rfl)⟩ hl.1 rfl (Nat.le_of_ble_eq_true rfl) ⟨Nat.zero_le _, Nat.zero_le _⟩ dX11_does_5 (fun r1 N2 H locs hp w => ?_)
  obtain ⟨z3, rfl, bz3, xz3, hMN2⟩ := hp
  rw [hMN2] at w
  refine z_if_ne (tgt := 13) hx hb (by omega) dX11_does_8 (by decide) (fun c4 => ?_) (fun c4 => ?_)
  · refine lv_aload_n hx hb dX11_does_13 rfl (lv_at hl 0 rfl) ?_
    refine f_11_9 F w (a := 0) rfl tb_324 dX11_does_14 ?_
    refine lv_aload_n hx hb dX11_does_17 rfl (lv_at hl 0 rfl) ?_
    refine f_11_4 F w (a := 0) rfl tb_280 dX11_does_18 ?_
    refine k_Vv F w (As := [.ref (B + 44)]) (rest := []) (a := 143) (kd_lt (a := 143) (show kd 143 = (9, 0, 0) from rfl) (by decide)) (sh_9 rfl _ _) rfl (q_X9_copyFrom (a := 143) rfl (d := 44) rfl  hI) gv_X11_90 hv_X9_copyFrom ⟨(Nat.le_of_ble_eq_true rfl), (Nat.le_of_ble_eq_true rfl)⟩ hl.1 rfl (Nat.le_of_ble_eq_true rfl) ⟨Nat.zero_le _, Nat.zero_le _⟩ dX11_does_21 (fun N6 H locs hp w => ?_)
    obtain ⟨hIN6, hFN6⟩ := hp
    have hGN6 := Fr.tr hF hFN6 (S := (fun b9 k9 => (b9 = 109 ∧ k9 = 0) ∨ (b9 = 22 ∧ k9 = 7) ∨ (b9 = 23 ∧ k9 = 0) ∨ (b9 = 71 ∧ k9 = 1) ∨ (b9 = 71 ∧ k9 = 2) ∨ b9 = 135 ∨ b9 = 143 ∨ b9 = 144 ∨ b9 = 145 ∨ b9 = 44 ∨ b9 = 45 ∨ b9 = 46 ∨ (73 ≤ b9 ∧ b9 ≤ 108))) (fun b k h => by (try dsimp only at h ⊢); (repeat' (refine Or.elim h ?_ ?_ <;> clear h <;> intro h)); all_goals first | (obtain ⟨rfl, rfl⟩ := h; decide) | (subst h; decide) | omega)
    refine lv_aload_n hx hb dX11_does_24 rfl (lv_at hl 0 rfl) ?_
    refine f_11_3 F w (a := 0) rfl tb_273 dX11_does_25 ?_
    refine f_0_0 F w (a := 22) rfl tb_325 dX11_does_28 ?_
    refine lv_aload_n hx hb dX11_does_31 rfl (lv_at hl 0 rfl) ?_
    refine f_11_3 F w (a := 0) rfl tb_273 dX11_does_32 ?_
    refine f_0_1 F w (a := 22) rfl tb_326 dX11_does_35 ?_
    refine lv_iload_n hx hb dX11_does_38 rfl (lv_at hl 1 rfl) ?_
    have hk8 := kd_lst (j := (Int.toNat x)) (by omega)
    refine g_aldR F w (a := 24) rfl (j := (Int.toNat x)) (o := (28 + 2 * (Int.toNat x))) rfl (ix_z (by omega) (by omega)) (by omega) dX11_does_39 ?_
    refine lv_aload_n hx hb dX11_does_40 rfl (lv_at hl 0 rfl) ?_
    refine f_11_9 F w (a := 0) rfl tb_324 dX11_does_41 ?_
    refine k_Vi F w (As := [.ref (B + (28 + 2 * (Int.toNat x))), .ref (B + 143)]) (rest := []) (a := 23) (kd_lt (a := 23) (show kd 23 = (1, 0, 0) from rfl) (by decide)) (sh_1 rfl _ _) rfl (q_X1_perform (u1 := (28 + 2 * (Int.toNat x))) hk8 (a := 143) rfl  hIN6) gv_X11_183 hv_X1_perform ⟨(Nat.le_of_ble_eq_true rfl), (Nat.le_of_ble_eq_true rfl)⟩ hl.1 rfl (Nat.le_of_ble_eq_true rfl) ⟨Nat.zero_le _, Nat.zero_le _⟩ dX11_does_44 (fun r9 N10 H locs hp w => ?_)
    obtain ⟨z11, rfl, bz11, hIN10, hFN10⟩ := hp
    have hGN10 := Fr.tr hGN6 hFN10 (S := (fun b9 k9 => (b9 = 109 ∧ k9 = 0) ∨ (b9 = 22 ∧ k9 = 7) ∨ (b9 = 23 ∧ k9 = 0) ∨ (b9 = 71 ∧ k9 = 1) ∨ (b9 = 71 ∧ k9 = 2) ∨ b9 = 135 ∨ b9 = 143 ∨ b9 = 144 ∨ b9 = 145 ∨ b9 = 44 ∨ b9 = 45 ∨ b9 = 46 ∨ (73 ≤ b9 ∧ b9 ≤ 108))) (fun b k h => by (try dsimp only at h ⊢); (repeat' (refine Or.elim h ?_ ?_ <;> clear h <;> intro h)); all_goals first | (obtain ⟨rfl, rfl⟩ := h; decide) | (subst h; decide) | omega)
    refine lv_istore_n (lv' := [(2, .int (zI z11)), (0, .ref (B + 0)), (1, .int (zI x))]) hx hb dX11_does_47 rfl hl (by decide) rfl (fun ls hl => ?_)
    refine lv_aload_n hx hb dX11_does_48 rfl (lv_at hl 1 rfl) ?_
    refine lv_aload_n hx hb dX11_does_49 rfl (lv_at hl 1 rfl) ?_
    refine f_11_9 F w (a := 0) rfl tb_324 dX11_does_50 ?_
    refine lv_iload_n hx hb dX11_does_53 rfl (lv_at hl 0 rfl) ?_
    refine k_Vv F w (As := [.ref (B + 143), .int (zI z11)]) (rest := []) (a := 0) (kd_lt (a := 0) (show kd 0 = (11, 0, 0) from rfl) (by decide)) (sh_11 rfl _ _) rfl (q_X11_becomes (a := 143) rfl (x := z11) (by omega)  hIN10) gv_X11_189 hv_X11_becomes ⟨(Nat.le_of_ble_eq_true rfl), (Nat.le_of_ble_eq_true rfl)⟩ hl.1 rfl (Nat.le_of_ble_eq_true rfl) ⟨Nat.zero_le _, Nat.zero_le _⟩ dX11_does_54 (fun N13 H locs hp w => ?_)
    obtain ⟨hIN13, hFN13⟩ := hp
    have hGN13 := Fr.tr hGN10 hFN13 (S := (fun b9 k9 => (b9 = 109 ∧ k9 = 0) ∨ (b9 = 22 ∧ k9 = 7) ∨ (b9 = 23 ∧ k9 = 0) ∨ (b9 = 71 ∧ k9 = 1) ∨ (b9 = 71 ∧ k9 = 2) ∨ b9 = 135 ∨ b9 = 143 ∨ b9 = 144 ∨ b9 = 145 ∨ b9 = 44 ∨ b9 = 45 ∨ b9 = 46 ∨ (73 ≤ b9 ∧ b9 ≤ 108))) (fun b k h => by (try dsimp only at h ⊢); (repeat' (refine Or.elim h ?_ ?_ <;> clear h <;> intro h)); all_goals first | (obtain ⟨rfl, rfl⟩ := h; decide) | (subst h; decide) | omega)
    refine lv_iload_n hx hb dX11_does_57 rfl (lv_at hl 0 rfl) ?_
    rw [hQ]
    exact e_i F w hr hlocks ⟨_, rfl, (by omega), hIN13, hGN13⟩ dX11_does_58
  · refine lv_iconst (v := zI (-1)) hx hb dX11_does_11 rfl ?_
    rw [hQ]
    exact e_i F w hr hlocks ⟨_, rfl, (by omega), hI, hF⟩ dX11_does_12
theorem dX11_derive_0 : decode cX11_derive 0 = .ok (.aload_n 0, 1) := wdX11_derive_0
theorem dX11_derive_1 : decode cX11_derive 1 = .ok (.getfield 35, 3) := wdX11_derive_1
theorem dX11_derive_4 : decode cX11_derive 4 = .ok (.iload_n 1, 1) := wdX11_derive_4
theorem dX11_derive_5 : decode cX11_derive 5 = .ok (.invokevirtual 193, 3) := wdX11_derive_5
theorem tb_331 : Cond.methodLink "ToneLines" 193 yX0_covers ∈ TB := wtb_268
theorem gv_X11_193 : GoodIn TB (wsV RX11 193 RX0 yX0_covers (cw yX0_covers cX0_covers 2 (some .boolean))) := goodIn_4 tb_331 tb_185 tb_186 tb_187 gc_X0_covers
theorem dX11_derive_8 : decode cX11_derive 8 = .ok (.ifCond .ne 5, 3) := wdX11_derive_8
theorem dX11_derive_13 : decode cX11_derive 13 = .ok (.aload_n 0, 1) := wdX11_derive_13
theorem dX11_derive_14 : decode cX11_derive 14 = .ok (.getfield 35, 3) := wdX11_derive_14
theorem dX11_derive_17 : decode cX11_derive 17 = .ok (.iload_n 1, 1) := wdX11_derive_17
theorem dX11_derive_18 : decode cX11_derive 18 = .ok (.invokevirtual 196, 3) := wdX11_derive_18
theorem tk_X0_stageOf : Cond.code yX0_stageOf cX0_stageOf 3 (some (.object "ToneLines$Word")) ∈ TB := wtk_X0_stageOf
theorem gc_X0_stageOf : GoodIn TB (cw yX0_stageOf cX0_stageOf 3 (some (.object "ToneLines$Word"))) := goodIn_c2 tk_X0_stageOf
theorem tb_332 : Cond.methodLink "ToneLines" 196 yX0_stageOf ∈ TB := wtb_269
theorem tb_333 : Cond.instanceMethod yX0_stageOf ∈ TB := wtb_270
theorem tb_334 : Cond.selects "ToneLines$Derivation" yX0_stageOf yX0_stageOf ∈ TB := wtb_271
theorem gv_X11_196 : GoodIn TB (wsV RX11 196 RX0 yX0_stageOf (cw yX0_stageOf cX0_stageOf 3 (some (.object "ToneLines$Word")))) := goodIn_4 tb_332 tb_333 tb_334 tb_187 gc_X0_stageOf
theorem hv_X0_stageOf : yX0_stageOf.cls = RX0 ∧ yX0_stageOf.cls ≠ "java/lang/invoke/MethodHandle" ∧ yX0_stageOf.cls ≠ "java/lang/invoke/VarHandle" ∧ (parseMethodDescriptor yX0_stageOf.desc).map (fun d => d.parameters.length) = some 1 := whv_X0_stageOf
theorem dX11_derive_21 : decode cX11_derive 21 = .ok (.astore_n 2, 1) := wdX11_derive_21
theorem dX11_derive_22 : decode cX11_derive 22 = .ok (.aload_n 0, 1) := wdX11_derive_22
theorem dX11_derive_23 : decode cX11_derive 23 = .ok (.getfield 35, 3) := wdX11_derive_23
theorem dX11_derive_26 : decode cX11_derive 26 = .ok (.iload_n 1, 1) := wdX11_derive_26
theorem dX11_derive_27 : decode cX11_derive 27 = .ok (.invokevirtual 200, 3) := wdX11_derive_27
theorem tk_X0_changesUpTo : Cond.code yX0_changesUpTo cX0_changesUpTo 4 (some .int) ∈ TB := wtk_X0_changesUpTo
theorem gc_X0_changesUpTo : GoodIn TB (cw yX0_changesUpTo cX0_changesUpTo 4 (some .int)) := goodIn_c2 tk_X0_changesUpTo
theorem tb_335 : Cond.methodLink "ToneLines" 200 yX0_changesUpTo ∈ TB := wtb_272
theorem tb_336 : Cond.instanceMethod yX0_changesUpTo ∈ TB := wtb_273
theorem tb_337 : Cond.selects "ToneLines$Derivation" yX0_changesUpTo yX0_changesUpTo ∈ TB := wtb_274
theorem gv_X11_200 : GoodIn TB (wsV RX11 200 RX0 yX0_changesUpTo (cw yX0_changesUpTo cX0_changesUpTo 4 (some .int))) := goodIn_4 tb_335 tb_336 tb_337 tb_187 gc_X0_changesUpTo
theorem hv_X0_changesUpTo : yX0_changesUpTo.cls = RX0 ∧ yX0_changesUpTo.cls ≠ "java/lang/invoke/MethodHandle" ∧ yX0_changesUpTo.cls ≠ "java/lang/invoke/VarHandle" ∧ (parseMethodDescriptor yX0_changesUpTo.desc).map (fun d => d.parameters.length) = some 1 := whv_X0_changesUpTo
theorem dX11_derive_30 : decode cX11_derive 30 = .ok (.istore_n 3, 1) := wdX11_derive_30
theorem dX11_derive_31 : decode cX11_derive 31 = .ok (.aload_n 0, 1) := wdX11_derive_31
theorem dX11_derive_32 : decode cX11_derive 32 = .ok (.aload_n 2, 1) := wdX11_derive_32
theorem dX11_derive_33 : decode cX11_derive 33 = .ok (.iload_n 3, 1) := wdX11_derive_33
theorem dX11_derive_34 : decode cX11_derive 34 = .ok (.invokevirtual 189, 3) := wdX11_derive_34
theorem dX11_derive_37 : decode cX11_derive 37 = .ok (.iload_n 3, 1) := wdX11_derive_37
theorem dX11_derive_38 : decode cX11_derive 38 = .ok (.ireturn, 1) := wdX11_derive_38
theorem dX11_derive_11 : decode cX11_derive 11 = .ok (.iconst (-1), 1) := wdX11_derive_11
theorem dX11_derive_12 : decode cX11_derive 12 = .ok (.ireturn, 1) := wdX11_derive_12
set_option maxRecDepth 4000 in
theorem q_X11_derive {l : Launch} {D : va_G} {B : Nat} {cy : Nat → ClassId} {M : Mem} {x : Int} (hx : (-2147483648) ≤ x ∧ x ≤ 2147483647) (hI : Inv M) : Ci l D B cy yX11_derive cX11_derive 4 (some .int) 6 155 [.ref (B + 0), .int (zI x)] M (fun r M1 => ∃ z : Int, r = zI z ∧ ((-2147483648) ≤ z ∧ z ≤ 2147483647) ∧ Inv M1 ∧ Fr (fun b9 k9 => (b9 = 109 ∧ k9 = 0) ∨ (b9 = 22 ∧ k9 = 7) ∨ (b9 = 23 ∧ k9 = 0) ∨ (b9 = 71 ∧ k9 = 1) ∨ (b9 = 71 ∧ k9 = 2) ∨ b9 = 135 ∨ b9 = 26 ∨ b9 = 27 ∨ (44 ≤ b9 ∧ b9 ≤ 70) ∨ (73 ≤ b9 ∧ b9 ≤ 108)) M1 M) := by
  refine s_anyQ (by decide) (Nat.le_of_ble_eq_true rfl) ?_
  intro p e s m args below meth c ls Q F hr hlocks hQ w hl
  have F : CallFix p m c cX11_derive 4 s args TB RX11 := F
  have hx := F.1
  have hb := F.2.1
  have hl : lv_has ls 4 [(0, .ref (B + 0)), (1, .int (zI x))] := hl
  have hF : Fr (fun b9 k9 => (b9 = 109 ∧ k9 = 0) ∨ (b9 = 22 ∧ k9 = 7) ∨ (b9 = 23 ∧ k9 = 0) ∨ (b9 = 71 ∧ k9 = 1) ∨ (b9 = 71 ∧ k9 = 2) ∨ b9 = 135 ∨ b9 = 26 ∨ b9 = 27 ∨ (44 ≤ b9 ∧ b9 ≤ 70) ∨ (73 ≤ b9 ∧ b9 ≤ 108)) M M := Fr.rf
  refine lv_aload_n hx hb dX11_derive_0 rfl (lv_at hl 0 rfl) ?_
  refine f_11_3 F w (a := 0) rfl tb_273 dX11_derive_1 ?_
  refine lv_iload_n hx hb dX11_derive_4 rfl (lv_at hl 1 rfl) ?_
  refine k_Vi F w (As := [.int (zI x)]) (rest := []) (a := 22) (kd_lt (a := 22) (show kd 22 = (0, 0, 0) from rfl) (by decide)) (sh_0 rfl _ _) rfl (q_X0_covers (x := x) (by omega)  hI) gv_X11_193 hv_X0_covers ⟨(Nat.le_of_ble_eq_true rfl), (Nat.le_of_ble_eq_true rfl)⟩ hl.1 rfl (Nat.le_of_ble_eq_true rfl) ⟨Nat.zero_le _, Nat.zero_le _⟩ dX11_derive_5 (fun r1 N2 H locs hp w => ?_)
  obtain ⟨z3, rfl, bz3, xz3, hMN2⟩ := hp
  rw [hMN2] at w
  refine z_if_ne (tgt := 13) hx hb (by omega) dX11_derive_8 (by decide) (fun c4 => ?_) (fun c4 => ?_)
  · refine lv_aload_n hx hb dX11_derive_13 rfl (lv_at hl 0 rfl) ?_
    refine f_11_3 F w (a := 0) rfl tb_273 dX11_derive_14 ?_
    refine lv_iload_n hx hb dX11_derive_17 rfl (lv_at hl 1 rfl) ?_
    refine k_Vr F w (As := [.int (zI x)]) (rest := []) (a := 22) (kd_lt (a := 22) (show kd 22 = (0, 0, 0) from rfl) (by decide)) (sh_0 rfl _ _) rfl (q_X0_stageOf (x := x) (by omega)  hI) gv_X11_196 hv_X0_stageOf ⟨(Nat.le_of_ble_eq_true rfl), (Nat.le_of_ble_eq_true rfl)⟩ hl.1 rfl (Nat.le_of_ble_eq_true rfl) ⟨Nat.zero_le _, Nat.zero_le _⟩ dX11_derive_18 (fun r5 N6 H locs hp w => ?_)
    obtain ⟨z7, rfl, br5, hIN6, hFN6⟩ := hp
    have hGN6 := Fr.tr hF hFN6 (S := (fun b9 k9 => (b9 = 109 ∧ k9 = 0) ∨ (b9 = 22 ∧ k9 = 7) ∨ (b9 = 23 ∧ k9 = 0) ∨ (b9 = 71 ∧ k9 = 1) ∨ (b9 = 71 ∧ k9 = 2) ∨ b9 = 135 ∨ b9 = 26 ∨ b9 = 27 ∨ (44 ≤ b9 ∧ b9 ≤ 70) ∨ (73 ≤ b9 ∧ b9 ≤ 108))) (fun b k h => by (try dsimp only at h ⊢); (repeat' (refine Or.elim h ?_ ?_ <;> clear h <;> intro h)); all_goals first | (obtain ⟨rfl, rfl⟩ := h; decide) | (subst h; decide) | omega)
    refine lv_astore_n (lv' := [(2, .ref (B + r5)), (0, .ref (B + 0)), (1, .int (zI x))]) hx hb dX11_derive_21 rfl hl (by decide) rfl (fun ls hl => ?_)
    refine lv_aload_n hx hb dX11_derive_22 rfl (lv_at hl 1 rfl) ?_
    refine f_11_3 F w (a := 0) rfl tb_273 dX11_derive_23 ?_
    refine lv_iload_n hx hb dX11_derive_26 rfl (lv_at hl 2 rfl) ?_
    refine k_Vi F w (As := [.int (zI x)]) (rest := []) (a := 22) (kd_lt (a := 22) (show kd 22 = (0, 0, 0) from rfl) (by decide)) (sh_0 rfl _ _) rfl (q_X0_changesUpTo (x := x) (by omega)  hIN6) gv_X11_200 hv_X0_changesUpTo ⟨(Nat.le_of_ble_eq_true rfl), (Nat.le_of_ble_eq_true rfl)⟩ hl.1 rfl (Nat.le_of_ble_eq_true rfl) ⟨Nat.zero_le _, Nat.zero_le _⟩ dX11_derive_27 (fun r8 N9 H locs hp w => ?_)
    obtain ⟨z10, rfl, bz10, hMN9⟩ := hp
    rw [hMN9] at w
    refine lv_istore_n (lv' := [(3, .int (zI z10)), (2, .ref (B + r5)), (0, .ref (B + 0)), (1, .int (zI x))]) hx hb dX11_derive_30 rfl hl (by decide) rfl (fun ls hl => ?_)
    refine lv_aload_n hx hb dX11_derive_31 rfl (lv_at hl 2 rfl) ?_
    refine lv_aload_n hx hb dX11_derive_32 rfl (lv_at hl 1 rfl) ?_
    refine lv_iload_n hx hb dX11_derive_33 rfl (lv_at hl 0 rfl) ?_
    refine k_Vv F w (As := [.ref (B + r5), .int (zI z10)]) (rest := []) (a := 0) (kd_lt (a := 0) (show kd 0 = (11, 0, 0) from rfl) (by decide)) (sh_11 rfl _ _) rfl (q_X11_becomes (a := r5) br5.1 (x := z10) (by omega)  hIN6) gv_X11_189 hv_X11_becomes ⟨(Nat.le_of_ble_eq_true rfl), (Nat.le_of_ble_eq_true rfl)⟩ hl.1 rfl (Nat.le_of_ble_eq_true rfl) ⟨Nat.zero_le _, Nat.zero_le _⟩ dX11_derive_34 (fun N12 H locs hp w => ?_)
    obtain ⟨hIN12, hFN12⟩ := hp
    have hGN12 := Fr.tr hGN6 hFN12 (S := (fun b9 k9 => (b9 = 109 ∧ k9 = 0) ∨ (b9 = 22 ∧ k9 = 7) ∨ (b9 = 23 ∧ k9 = 0) ∨ (b9 = 71 ∧ k9 = 1) ∨ (b9 = 71 ∧ k9 = 2) ∨ b9 = 135 ∨ b9 = 26 ∨ b9 = 27 ∨ (44 ≤ b9 ∧ b9 ≤ 70) ∨ (73 ≤ b9 ∧ b9 ≤ 108))) (fun b k h => by (try dsimp only at h ⊢); (repeat' (refine Or.elim h ?_ ?_ <;> clear h <;> intro h)); all_goals first | (obtain ⟨rfl, rfl⟩ := h; decide) | (subst h; decide) | omega)
    refine lv_iload_n hx hb dX11_derive_37 rfl (lv_at hl 0 rfl) ?_
    rw [hQ]
    exact e_i F w hr hlocks ⟨_, rfl, (by omega), hIN12, hGN12⟩ dX11_derive_38
  · refine lv_iconst (v := zI (-1)) hx hb dX11_derive_11 rfl ?_
    rw [hQ]
    exact e_i F w hr hlocks ⟨_, rfl, (by omega), hI, hF⟩ dX11_derive_12
theorem dX11_undo_0 : decode cX11_undo 0 = .ok (.aload_n 0, 1) := wdX11_undo_0
theorem dX11_undo_1 : decode cX11_undo 1 = .ok (.getfield 47, 3) := wdX11_undo_1
theorem dX11_undo_4 : decode cX11_undo 4 = .ok (.getfield 94, 3) := wdX11_undo_4
theorem tb_338 : Cond.fieldLink "ToneLines" 94 "ToneLines$History" "acts" "I" ∈ TB := wtb_275
theorem dX11_undo_7 : decode cX11_undo 7 = .ok (.ifCond .gt 5, 3) := wdX11_undo_7
theorem dX11_undo_12 : decode cX11_undo 12 = .ok (.aload_n 0, 1) := wdX11_undo_12
theorem dX11_undo_13 : decode cX11_undo 13 = .ok (.getfield 47, 3) := wdX11_undo_13
theorem dX11_undo_16 : decode cX11_undo 16 = .ok (.aload_n 0, 1) := wdX11_undo_16
theorem dX11_undo_17 : decode cX11_undo 17 = .ok (.getfield 43, 3) := wdX11_undo_17
theorem dX11_undo_20 : decode cX11_undo 20 = .ok (.invokevirtual 204, 3) := wdX11_undo_20
theorem tk_X2_giveBack : Cond.code yX2_giveBack cX2_giveBack 2 none ∈ TB := wtk_X2_giveBack
theorem gc_X2_giveBack : GoodIn TB (cw yX2_giveBack cX2_giveBack 2 none) := goodIn_c2 tk_X2_giveBack
theorem tb_339 : Cond.methodLink "ToneLines" 204 yX2_giveBack ∈ TB := wtb_276
theorem tb_340 : Cond.instanceMethod yX2_giveBack ∈ TB := wtb_277
theorem tb_341 : Cond.selects "ToneLines$History" yX2_giveBack yX2_giveBack ∈ TB := wtb_278
theorem gv_X11_204 : GoodIn TB (wsV RX11 204 RX2 yX2_giveBack (cw yX2_giveBack cX2_giveBack 2 none)) := goodIn_4 tb_339 tb_340 tb_341 tb_284 gc_X2_giveBack
theorem hv_X2_giveBack : yX2_giveBack.cls = RX2 ∧ yX2_giveBack.cls ≠ "java/lang/invoke/MethodHandle" ∧ yX2_giveBack.cls ≠ "java/lang/invoke/VarHandle" ∧ (parseMethodDescriptor yX2_giveBack.desc).map (fun d => d.parameters.length) = some 1 := whv_X2_giveBack
theorem dX11_undo_23 : decode cX11_undo 23 = .ok (.aload_n 0, 1) := wdX11_undo_23
theorem dX11_undo_24 : decode cX11_undo 24 = .ok (.invokevirtual 97, 3) := wdX11_undo_24
theorem dX11_undo_27 : decode cX11_undo 27 = .ok (.aload_n 0, 1) := wdX11_undo_27
theorem dX11_undo_28 : decode cX11_undo 28 = .ok (.getfield 47, 3) := wdX11_undo_28
theorem dX11_undo_31 : decode cX11_undo 31 = .ok (.getfield 94, 3) := wdX11_undo_31
theorem dX11_undo_34 : decode cX11_undo 34 = .ok (.ireturn, 1) := wdX11_undo_34
theorem dX11_undo_10 : decode cX11_undo 10 = .ok (.iconst (-1), 1) := wdX11_undo_10
theorem dX11_undo_11 : decode cX11_undo 11 = .ok (.ireturn, 1) := wdX11_undo_11
set_option maxRecDepth 4000 in
theorem q_X11_undo {l : Launch} {D : va_G} {B : Nat} {cy : Nat → ClassId} {M : Mem}  (hI : Inv M) : Ci l D B cy yX11_undo cX11_undo 1 (some .int) 3 82 [.ref (B + 0)] M (fun r M1 => ∃ z : Int, r = zI z ∧ ((-1) ≤ z ∧ z ≤ 12) ∧ Inv M1 ∧ Fr (fun b9 k9 => (b9 = 109 ∧ k9 = 0) ∨ (b9 = 22 ∧ k9 = 7) ∨ (b9 = 71 ∧ k9 = 1) ∨ (b9 = 71 ∧ k9 = 2) ∨ b9 = 135 ∨ b9 = 44 ∨ b9 = 45 ∨ b9 = 46) M1 M) := by
  refine s_anyQ (by decide) (Nat.le_of_ble_eq_true rfl) ?_
  intro p e s m args below meth c ls Q F hr hlocks hQ w hl
  have F : CallFix p m c cX11_undo 1 s args TB RX11 := F
  have hx := F.1
  have hb := F.2.1
  have hl : lv_has ls 1 [(0, .ref (B + 0))] := hl
  have hF : Fr (fun b9 k9 => (b9 = 109 ∧ k9 = 0) ∨ (b9 = 22 ∧ k9 = 7) ∨ (b9 = 71 ∧ k9 = 1) ∨ (b9 = 71 ∧ k9 = 2) ∨ b9 = 135 ∨ b9 = 44 ∨ b9 = 45 ∨ b9 = 46) M M := Fr.rf
  refine lv_aload_n hx hb dX11_undo_0 rfl (lv_at hl 0 rfl) ?_
  refine f_11_5 F w (a := 0) rfl tb_279 dX11_undo_1 ?_
  refine f_2_2 F w (a := 71) rfl tb_338 dX11_undo_4 ?_
  obtain ⟨z1, bz1, ez1⟩ := Inv.ld (k := 2) hI (show iv 71 2 = (0, 12) from rfl) (show 71 < 146 by decide)
  refine r_val ez1 ?_
  refine z_if_gt (tgt := 12) hx hb (by omega) dX11_undo_7 (by decide) (fun c2 => ?_) (fun c2 => ?_)
  · refine lv_aload_n hx hb dX11_undo_12 rfl (lv_at hl 0 rfl) ?_
    refine f_11_5 F w (a := 0) rfl tb_279 dX11_undo_13 ?_
    refine lv_aload_n hx hb dX11_undo_16 rfl (lv_at hl 0 rfl) ?_
    refine f_11_4 F w (a := 0) rfl tb_280 dX11_undo_17 ?_
    refine k_Vv F w (As := [.ref (B + 44)]) (rest := []) (a := 71) (kd_lt (a := 71) (show kd 71 = (2, 0, 0) from rfl) (by decide)) (sh_2 rfl _ _) rfl (q_X2_giveBack (a := 44) rfl  hI) gv_X11_204 hv_X2_giveBack ⟨(Nat.le_of_ble_eq_true rfl), (Nat.le_of_ble_eq_true rfl)⟩ hl.1 rfl (Nat.le_of_ble_eq_true rfl) ⟨Nat.zero_le _, Nat.zero_le _⟩ dX11_undo_20 (fun N4 H locs hp w => ?_)
    obtain ⟨hIN4, hFN4⟩ := hp
    have hGN4 := Fr.tr hF hFN4 (S := (fun b9 k9 => (b9 = 109 ∧ k9 = 0) ∨ (b9 = 22 ∧ k9 = 7) ∨ (b9 = 71 ∧ k9 = 1) ∨ (b9 = 71 ∧ k9 = 2) ∨ b9 = 135 ∨ b9 = 44 ∨ b9 = 45 ∨ b9 = 46)) (fun b k h => by (try dsimp only at h ⊢); (repeat' (refine Or.elim h ?_ ?_ <;> clear h <;> intro h)); all_goals first | (obtain ⟨rfl, rfl⟩ := h; decide) | (subst h; decide) | omega)
    refine lv_aload_n hx hb dX11_undo_23 rfl (lv_at hl 0 rfl) ?_
    refine k_Vv F w (As := []) (rest := []) (a := 0) (kd_lt (a := 0) (show kd 0 = (11, 0, 0) from rfl) (by decide)) (sh_11 rfl _ _) rfl (q_X11_outdate   hIN4) gv_X11_97 hv_X11_outdate ⟨(Nat.le_of_ble_eq_true rfl), (Nat.le_of_ble_eq_true rfl)⟩ hl.1 rfl (Nat.le_of_ble_eq_true rfl) ⟨Nat.zero_le _, Nat.zero_le _⟩ dX11_undo_24 (fun N7 H locs hp w => ?_)
    obtain ⟨hIN7, hFN7⟩ := hp
    have hGN7 := Fr.tr hGN4 hFN7 (S := (fun b9 k9 => (b9 = 109 ∧ k9 = 0) ∨ (b9 = 22 ∧ k9 = 7) ∨ (b9 = 71 ∧ k9 = 1) ∨ (b9 = 71 ∧ k9 = 2) ∨ b9 = 135 ∨ b9 = 44 ∨ b9 = 45 ∨ b9 = 46)) (fun b k h => by (try dsimp only at h ⊢); (repeat' (refine Or.elim h ?_ ?_ <;> clear h <;> intro h)); all_goals first | (obtain ⟨rfl, rfl⟩ := h; decide) | (subst h; decide) | omega)
    refine lv_aload_n hx hb dX11_undo_27 rfl (lv_at hl 0 rfl) ?_
    refine f_11_5 F w (a := 0) rfl tb_279 dX11_undo_28 ?_
    refine f_2_2 F w (a := 71) rfl tb_338 dX11_undo_31 ?_
    obtain ⟨z9, bz9, ez9⟩ := Inv.ld (k := 2) hIN7 (show iv 71 2 = (0, 12) from rfl) (show 71 < 146 by decide)
    refine r_val ez9 ?_
    rw [hQ]
    exact e_i F w hr hlocks ⟨_, rfl, (by omega), hIN7, hGN7⟩ dX11_undo_34
  · refine lv_iconst (v := zI (-1)) hx hb dX11_undo_10 rfl ?_
    rw [hQ]
    exact e_i F w hr hlocks ⟨_, rfl, (by omega), hI, hF⟩ dX11_undo_11
theorem dX11_has_0 : decode cX11_has 0 = .ok (.aload_n 0, 1) := dq0 kk_42 (by decide +kernel)
theorem dX11_has_1 : decode cX11_has 1 = .ok (.getfield 35, 3) := dqV kk_180 (by decide +kernel)
theorem dX11_has_4 : decode cX11_has 4 = .ok (.iload_n 1, 1) := dq0 kk_27 (by decide +kernel)
theorem dX11_has_5 : decode cX11_has 5 = .ok (.invokevirtual 193, 3) := dqV kk_182 (by decide +kernel)
theorem dX11_has_8 : decode cX11_has 8 = .ok (.ifCond .ne 5, 3) := dqT kk_154 (by decide +kernel)
theorem dX11_has_13 : decode cX11_has 13 = .ok (.aload_n 0, 1) := dq0 kk_42 (by decide +kernel)
theorem dX11_has_14 : decode cX11_has 14 = .ok (.getfield 35, 3) := dqV kk_180 (by decide +kernel)
theorem dX11_has_17 : decode cX11_has 17 = .ok (.iload_n 1, 1) := dq0 kk_27 (by decide +kernel)
theorem dX11_has_18 : decode cX11_has 18 = .ok (.invokevirtual 196, 3) := dqV kk_182 (by decide +kernel)
theorem dX11_has_21 : decode cX11_has 21 = .ok (.astore_n 3, 1) := dq0 kk_78 (by decide +kernel)
theorem dX11_has_22 : decode cX11_has 22 = .ok (.iload_n 2, 1) := dq0 kk_28 (by decide +kernel)
theorem dX11_has_23 : decode cX11_has 23 = .ok (.tableswitch 100 0 8 #[49, 54, 59, 64, 69, 74, 85, 90, 95], 49) := by decide +kernel
theorem dX11_has_72 : decode cX11_has 72 = .ok (.aload_n 3, 1) := dq0 kk_45 (by decide +kernel)
theorem dX11_has_73 : decode cX11_has 73 = .ok (.getfield 100, 3) := dqV kk_180 (by decide +kernel)
theorem dX11_has_76 : decode cX11_has 76 = .ok (.ireturn, 1) := dq0 kk_172 (by decide +kernel)
theorem dX11_has_77 : decode cX11_has 77 = .ok (.aload_n 3, 1) := dq0 kk_45 (by decide +kernel)
theorem dX11_has_78 : decode cX11_has 78 = .ok (.getfield 150, 3) := dqV kk_180 (by decide +kernel)
theorem dX11_has_81 : decode cX11_has 81 = .ok (.ireturn, 1) := dq0 kk_172 (by decide +kernel)
theorem dX11_has_82 : decode cX11_has 82 = .ok (.aload_n 3, 1) := dq0 kk_45 (by decide +kernel)
theorem dX11_has_83 : decode cX11_has 83 = .ok (.invokevirtual 207, 3) := dqV kk_182 (by decide +kernel)
theorem tk_X9_lineCount : Cond.code yX9_lineCount cX9_lineCount 3 (some .int) ∈ TB := tbm (tc4 (List.mem_of_getElem? (i := 128) rfl)) rfl
theorem gc_X9_lineCount : GoodIn TB (cw yX9_lineCount cX9_lineCount 3 (some .int)) := goodIn_c2 tk_X9_lineCount
theorem tb_342 : Cond.methodLink "ToneLines" 207 yX9_lineCount ∈ TB := tbm (tc4 (List.mem_of_getElem? (i := 125) rfl)) rfl
theorem tb_343 : Cond.instanceMethod yX9_lineCount ∈ TB := tbm (tc4 (List.mem_of_getElem? (i := 126) rfl)) rfl
theorem tb_344 : Cond.selects "ToneLines$Word" yX9_lineCount yX9_lineCount ∈ TB := tbm (tc4 (List.mem_of_getElem? (i := 127) rfl)) rfl
theorem gv_X11_207 : GoodIn TB (wsV RX11 207 RX9 yX9_lineCount (cw yX9_lineCount cX9_lineCount 3 (some .int))) := goodIn_4 tb_342 tb_343 tb_344 tb_5 gc_X9_lineCount
theorem hv_X9_lineCount : yX9_lineCount.cls = RX9 ∧ yX9_lineCount.cls ≠ "java/lang/invoke/MethodHandle" ∧ yX9_lineCount.cls ≠ "java/lang/invoke/VarHandle" ∧ (parseMethodDescriptor yX9_lineCount.desc).map (fun d => d.parameters.length) = some 0 := by decide +kernel
theorem dX11_has_86 : decode cX11_has 86 = .ok (.ireturn, 1) := dq0 kk_172 (by decide +kernel)
theorem dX11_has_87 : decode cX11_has 87 = .ok (.aload_n 3, 1) := dq0 kk_45 (by decide +kernel)
theorem dX11_has_88 : decode cX11_has 88 = .ok (.invokevirtual 210, 3) := dqV kk_182 (by decide +kernel)
theorem tk_X9_floating : Cond.code yX9_floating cX9_floating 3 (some .int) ∈ TB := tbm (tc4 (List.mem_of_getElem? (i := 133) rfl)) rfl
theorem gc_X9_floating : GoodIn TB (cw yX9_floating cX9_floating 3 (some .int)) := goodIn_c2 tk_X9_floating
theorem tb_345 : Cond.methodLink "ToneLines" 210 yX9_floating ∈ TB := tbm (tc4 (List.mem_of_getElem? (i := 130) rfl)) rfl
theorem tb_346 : Cond.instanceMethod yX9_floating ∈ TB := tbm (tc4 (List.mem_of_getElem? (i := 131) rfl)) rfl
theorem tb_347 : Cond.selects "ToneLines$Word" yX9_floating yX9_floating ∈ TB := tbm (tc4 (List.mem_of_getElem? (i := 132) rfl)) rfl
theorem gv_X11_210 : GoodIn TB (wsV RX11 210 RX9 yX9_floating (cw yX9_floating cX9_floating 3 (some .int))) := goodIn_4 tb_345 tb_346 tb_347 tb_5 gc_X9_floating
theorem hv_X9_floating : yX9_floating.cls = RX9 ∧ yX9_floating.cls ≠ "java/lang/invoke/MethodHandle" ∧ yX9_floating.cls ≠ "java/lang/invoke/VarHandle" ∧ (parseMethodDescriptor yX9_floating.desc).map (fun d => d.parameters.length) = some 0 := by decide +kernel
theorem dX11_has_91 : decode cX11_has 91 = .ok (.ireturn, 1) := dq0 kk_172 (by decide +kernel)
theorem dX11_has_92 : decode cX11_has 92 = .ok (.aload_n 3, 1) := dq0 kk_45 (by decide +kernel)
theorem dX11_has_93 : decode cX11_has 93 = .ok (.invokevirtual 213, 3) := dqV kk_182 (by decide +kernel)
theorem tb_348 : Cond.methodLink "ToneLines" 213 yX9_bare ∈ TB := tbm (tc4 (List.mem_of_getElem? (i := 134) rfl)) rfl
theorem gv_X11_213 : GoodIn TB (wsV RX11 213 RX9 yX9_bare (cw yX9_bare cX9_bare 3 (some .int))) := goodIn_4 tb_348 tb_14 tb_15 tb_5 gc_X9_bare
theorem dX11_has_96 : decode cX11_has 96 = .ok (.ireturn, 1) := dq0 kk_172 (by decide +kernel)
theorem dX11_has_97 : decode cX11_has 97 = .ok (.aload_n 3, 1) := dq0 kk_45 (by decide +kernel)
theorem dX11_has_98 : decode cX11_has 98 = .ok (.aload_n 3, 1) := dq0 kk_45 (by decide +kernel)
theorem dX11_has_99 : decode cX11_has 99 = .ok (.getfield 100, 3) := dqV kk_180 (by decide +kernel)
theorem dX11_has_102 : decode cX11_has 102 = .ok (.iconst 1, 1) := dq0 kk_4 (by decide +kernel)
theorem dX11_has_103 : decode cX11_has 103 = .ok (.isub, 1) := dq0 kk_100 (by decide +kernel)
theorem dX11_has_104 : decode cX11_has 104 = .ok (.invokevirtual 216, 3) := dqV kk_182 (by decide +kernel)
theorem tk_X9_fallsUpTo : Cond.code yX9_fallsUpTo cX9_fallsUpTo 6 (some .int) ∈ TB := tbm (tc4 (List.mem_of_getElem? (i := 138) rfl)) rfl
theorem gc_X9_fallsUpTo : GoodIn TB (cw yX9_fallsUpTo cX9_fallsUpTo 6 (some .int)) := goodIn_c2 tk_X9_fallsUpTo
theorem tb_349 : Cond.methodLink "ToneLines" 216 yX9_fallsUpTo ∈ TB := tbm (tc4 (List.mem_of_getElem? (i := 135) rfl)) rfl
theorem tb_350 : Cond.instanceMethod yX9_fallsUpTo ∈ TB := tbm (tc4 (List.mem_of_getElem? (i := 136) rfl)) rfl
theorem tb_351 : Cond.selects "ToneLines$Word" yX9_fallsUpTo yX9_fallsUpTo ∈ TB := tbm (tc4 (List.mem_of_getElem? (i := 137) rfl)) rfl
theorem gv_X11_216 : GoodIn TB (wsV RX11 216 RX9 yX9_fallsUpTo (cw yX9_fallsUpTo cX9_fallsUpTo 6 (some .int))) := goodIn_4 tb_349 tb_350 tb_351 tb_5 gc_X9_fallsUpTo
theorem hv_X9_fallsUpTo : yX9_fallsUpTo.cls = RX9 ∧ yX9_fallsUpTo.cls ≠ "java/lang/invoke/MethodHandle" ∧ yX9_fallsUpTo.cls ≠ "java/lang/invoke/VarHandle" ∧ (parseMethodDescriptor yX9_fallsUpTo.desc).map (fun d => d.parameters.length) = some 1 := by decide +kernel
theorem dX11_has_107 : decode cX11_has 107 = .ok (.ireturn, 1) := dq0 kk_172 (by decide +kernel)
theorem dX11_has_108 : decode cX11_has 108 = .ok (.aload_n 3, 1) := dq0 kk_45 (by decide +kernel)
theorem dX11_has_109 : decode cX11_has 109 = .ok (.invokevirtual 219, 3) := dqV kk_182 (by decide +kernel)
theorem tk_X9_mostTones : Cond.code yX9_mostTones cX9_mostTones 3 (some .int) ∈ TB := tbm (tc4 (List.mem_of_getElem? (i := 142) rfl)) rfl
theorem gc_X9_mostTones : GoodIn TB (cw yX9_mostTones cX9_mostTones 3 (some .int)) := goodIn_c2 tk_X9_mostTones
theorem tb_352 : Cond.methodLink "ToneLines" 219 yX9_mostTones ∈ TB := tbm (tc4 (List.mem_of_getElem? (i := 139) rfl)) rfl
theorem tb_353 : Cond.instanceMethod yX9_mostTones ∈ TB := tbm (tc4 (List.mem_of_getElem? (i := 140) rfl)) rfl
theorem tb_354 : Cond.selects "ToneLines$Word" yX9_mostTones yX9_mostTones ∈ TB := tbm (tc4 (List.mem_of_getElem? (i := 141) rfl)) rfl
theorem gv_X11_219 : GoodIn TB (wsV RX11 219 RX9 yX9_mostTones (cw yX9_mostTones cX9_mostTones 3 (some .int))) := goodIn_4 tb_352 tb_353 tb_354 tb_5 gc_X9_mostTones
theorem hv_X9_mostTones : yX9_mostTones.cls = RX9 ∧ yX9_mostTones.cls ≠ "java/lang/invoke/MethodHandle" ∧ yX9_mostTones.cls ≠ "java/lang/invoke/VarHandle" ∧ (parseMethodDescriptor yX9_mostTones.desc).map (fun d => d.parameters.length) = some 0 := by decide +kernel
theorem dX11_has_112 : decode cX11_has 112 = .ok (.ireturn, 1) := dq0 kk_172 (by decide +kernel)
theorem dX11_has_113 : decode cX11_has 113 = .ok (.aload_n 3, 1) := dq0 kk_45 (by decide +kernel)
theorem dX11_has_114 : decode cX11_has 114 = .ok (.invokevirtual 222, 3) := dqV kk_182 (by decide +kernel)
theorem tk_X9_mostSyllables : Cond.code yX9_mostSyllables cX9_mostSyllables 3 (some .int) ∈ TB := tbm (tc4 (List.mem_of_getElem? (i := 148) rfl)) rfl
theorem gc_X9_mostSyllables : GoodIn TB (cw yX9_mostSyllables cX9_mostSyllables 3 (some .int)) := goodIn_c2 tk_X9_mostSyllables
theorem tb_355 : Cond.methodLink "ToneLines" 222 yX9_mostSyllables ∈ TB := tbm (tc4 (List.mem_of_getElem? (i := 145) rfl)) rfl
theorem tb_356 : Cond.instanceMethod yX9_mostSyllables ∈ TB := tbm (tc4 (List.mem_of_getElem? (i := 146) rfl)) rfl
theorem tb_357 : Cond.selects "ToneLines$Word" yX9_mostSyllables yX9_mostSyllables ∈ TB := tbm (tc4 (List.mem_of_getElem? (i := 147) rfl)) rfl
theorem gv_X11_222 : GoodIn TB (wsV RX11 222 RX9 yX9_mostSyllables (cw yX9_mostSyllables cX9_mostSyllables 3 (some .int))) := goodIn_4 tb_355 tb_356 tb_357 tb_5 gc_X9_mostSyllables
theorem hv_X9_mostSyllables : yX9_mostSyllables.cls = RX9 ∧ yX9_mostSyllables.cls ≠ "java/lang/invoke/MethodHandle" ∧ yX9_mostSyllables.cls ≠ "java/lang/invoke/VarHandle" ∧ (parseMethodDescriptor yX9_mostSyllables.desc).map (fun d => d.parameters.length) = some 0 := by decide +kernel
theorem dX11_has_117 : decode cX11_has 117 = .ok (.ireturn, 1) := dq0 kk_172 (by decide +kernel)
theorem dX11_has_118 : decode cX11_has 118 = .ok (.aload_n 3, 1) := dq0 kk_45 (by decide +kernel)
theorem dX11_has_119 : decode cX11_has 119 = .ok (.invokevirtual 225, 3) := dqV kk_182 (by decide +kernel)
theorem tk_X9_linkedFromFirst : Cond.code yX9_linkedFromFirst cX9_linkedFromFirst 2 (some .int) ∈ TB := tbm (tc4 (List.mem_of_getElem? (i := 152) rfl)) rfl
theorem gc_X9_linkedFromFirst : GoodIn TB (cw yX9_linkedFromFirst cX9_linkedFromFirst 2 (some .int)) := goodIn_c2 tk_X9_linkedFromFirst
theorem tb_358 : Cond.methodLink "ToneLines" 225 yX9_linkedFromFirst ∈ TB := tbm (tc4 (List.mem_of_getElem? (i := 149) rfl)) rfl
theorem tb_359 : Cond.instanceMethod yX9_linkedFromFirst ∈ TB := tbm (tc4 (List.mem_of_getElem? (i := 150) rfl)) rfl
theorem tb_360 : Cond.selects "ToneLines$Word" yX9_linkedFromFirst yX9_linkedFromFirst ∈ TB := tbm (tc4 (List.mem_of_getElem? (i := 151) rfl)) rfl
theorem gv_X11_225 : GoodIn TB (wsV RX11 225 RX9 yX9_linkedFromFirst (cw yX9_linkedFromFirst cX9_linkedFromFirst 2 (some .int))) := goodIn_4 tb_358 tb_359 tb_360 tb_5 gc_X9_linkedFromFirst
theorem hv_X9_linkedFromFirst : yX9_linkedFromFirst.cls = RX9 ∧ yX9_linkedFromFirst.cls ≠ "java/lang/invoke/MethodHandle" ∧ yX9_linkedFromFirst.cls ≠ "java/lang/invoke/VarHandle" ∧ (parseMethodDescriptor yX9_linkedFromFirst.desc).map (fun d => d.parameters.length) = some 0 := by decide +kernel
theorem dX11_has_122 : decode cX11_has 122 = .ok (.ireturn, 1) := dq0 kk_172 (by decide +kernel)
theorem dX11_has_123 : decode cX11_has 123 = .ok (.iconst (-1), 1) := dq0 kk_2 (by decide +kernel)
theorem dX11_has_124 : decode cX11_has 124 = .ok (.ireturn, 1) := dq0 kk_172 (by decide +kernel)
theorem dX11_has_11 : decode cX11_has 11 = .ok (.iconst (-1), 1) := dq0 kk_2 (by decide +kernel)
theorem dX11_has_12 : decode cX11_has 12 = .ok (.ireturn, 1) := dq0 kk_172 (by decide +kernel)
theorem dX11_toneAt_0 : decode cX11_toneAt 0 = .ok (.aload_n 0, 1) := dq0 kk_42 (by decide +kernel)
theorem dX11_toneAt_1 : decode cX11_toneAt 1 = .ok (.getfield 35, 3) := dqV kk_180 (by decide +kernel)
theorem dX11_toneAt_4 : decode cX11_toneAt 4 = .ok (.iload_n 1, 1) := dq0 kk_27 (by decide +kernel)
theorem dX11_toneAt_5 : decode cX11_toneAt 5 = .ok (.invokevirtual 193, 3) := dqV kk_182 (by decide +kernel)
theorem dX11_toneAt_8 : decode cX11_toneAt 8 = .ok (.ifCond .ne 5, 3) := dqT kk_154 (by decide +kernel)
theorem dX11_toneAt_13 : decode cX11_toneAt 13 = .ok (.aload_n 0, 1) := dq0 kk_42 (by decide +kernel)
theorem dX11_toneAt_14 : decode cX11_toneAt 14 = .ok (.getfield 35, 3) := dqV kk_180 (by decide +kernel)
theorem dX11_toneAt_17 : decode cX11_toneAt 17 = .ok (.iload_n 1, 1) := dq0 kk_27 (by decide +kernel)
theorem dX11_toneAt_18 : decode cX11_toneAt 18 = .ok (.invokevirtual 196, 3) := dqV kk_182 (by decide +kernel)
theorem dX11_toneAt_21 : decode cX11_toneAt 21 = .ok (.astore 4, 2) := dqU kk_58 (by decide +kernel)
theorem dX11_toneAt_23 : decode cX11_toneAt 23 = .ok (.aload 4, 2) := dqU kk_25 (by decide +kernel)
theorem dX11_toneAt_25 : decode cX11_toneAt 25 = .ok (.iload_n 2, 1) := dq0 kk_28 (by decide +kernel)
theorem dX11_toneAt_26 : decode cX11_toneAt 26 = .ok (.invokevirtual 141, 3) := dqV kk_182 (by decide +kernel)
theorem dX11_toneAt_29 : decode cX11_toneAt 29 = .ok (.ifCond .ne 15, 3) := dqT kk_154 (by decide +kernel)
theorem dX11_toneAt_44 : decode cX11_toneAt 44 = .ok (.aload 4, 2) := dqU kk_25 (by decide +kernel)
theorem dX11_toneAt_46 : decode cX11_toneAt 46 = .ok (.getfield 126, 3) := dqV kk_180 (by decide +kernel)
theorem dX11_toneAt_49 : decode cX11_toneAt 49 = .ok (.iload_n 2, 1) := dq0 kk_28 (by decide +kernel)
theorem dX11_toneAt_50 : decode cX11_toneAt 50 = .ok (.iaload, 1) := dq0 kk_46 (by decide +kernel)
theorem dX11_toneAt_51 : decode cX11_toneAt 51 = .ok (.ifCond .ne 7, 3) := dqT kk_154 (by decide +kernel)
theorem dX11_toneAt_58 : decode cX11_toneAt 58 = .ok (.iconst 0, 1) := dq0 kk_3 (by decide +kernel)
theorem dX11_toneAt_59 : decode cX11_toneAt 59 = .ok (.istore 5, 2) := dqU kk_54 (by decide +kernel)
theorem dX11_toneAt_61 : decode cX11_toneAt 61 = .ok (.iload_n 3, 1) := dq0 kk_29 (by decide +kernel)
theorem dX11_toneAt_62 : decode cX11_toneAt 62 = .ok (.tableswitch 114 0 4 #[34, 42, 63, 84, 95], 34) := by decide +kernel
theorem dX11_toneAt_96 : decode cX11_toneAt 96 = .ok (.aload 4, 2) := dqU kk_25 (by decide +kernel)
theorem dX11_toneAt_98 : decode cX11_toneAt 98 = .ok (.getfield 147, 3) := dqV kk_180 (by decide +kernel)
theorem dX11_toneAt_101 : decode cX11_toneAt 101 = .ok (.iload_n 2, 1) := dq0 kk_28 (by decide +kernel)
theorem dX11_toneAt_102 : decode cX11_toneAt 102 = .ok (.iaload, 1) := dq0 kk_46 (by decide +kernel)
theorem dX11_toneAt_103 : decode cX11_toneAt 103 = .ok (.ireturn, 1) := dq0 kk_172 (by decide +kernel)
theorem dX11_toneAt_104 : decode cX11_toneAt 104 = .ok (.iload 5, 2) := dqU kk_21 (by decide +kernel)
theorem dX11_toneAt_106 : decode cX11_toneAt 106 = .ok (.ifCond .eq 8, 3) := dqT kk_153 (by decide +kernel)
theorem dX11_toneAt_114 : decode cX11_toneAt 114 = .ok (.aload 4, 2) := dqU kk_25 (by decide +kernel)
theorem dX11_toneAt_116 : decode cX11_toneAt 116 = .ok (.getfield 126, 3) := dqV kk_180 (by decide +kernel)
theorem dX11_toneAt_119 : decode cX11_toneAt 119 = .ok (.iload_n 2, 1) := dq0 kk_28 (by decide +kernel)
theorem dX11_toneAt_120 : decode cX11_toneAt 120 = .ok (.iaload, 1) := dq0 kk_46 (by decide +kernel)
theorem dX11_toneAt_121 : decode cX11_toneAt 121 = .ok (.invokestatic 228, 3) := dqV kk_184 (by decide +kernel)
theorem tb_361 : Cond.methodLink "ToneLines" 228 yX11_lowest ∈ TB := tbm (tc4 (List.mem_of_getElem? (i := 158) rfl)) rfl
theorem gs_X11_228 : GoodIn TB (va_wsS RX11 228 yX11_lowest (cw yX11_lowest cX11_lowest 1 (some .int))) := goodIn_3 tb_361 tb_96 tb_95 gc_X11_lowest
theorem dX11_toneAt_124 : decode cX11_toneAt 124 = .ok (.ireturn, 1) := dq0 kk_172 (by decide +kernel)
theorem dX11_toneAt_125 : decode cX11_toneAt 125 = .ok (.iload 5, 2) := dqU kk_21 (by decide +kernel)
theorem dX11_toneAt_127 : decode cX11_toneAt 127 = .ok (.ifCond .eq 8, 3) := dqT kk_153 (by decide +kernel)
theorem dX11_toneAt_135 : decode cX11_toneAt 135 = .ok (.aload 4, 2) := dqU kk_25 (by decide +kernel)
theorem dX11_toneAt_137 : decode cX11_toneAt 137 = .ok (.getfield 126, 3) := dqV kk_180 (by decide +kernel)
theorem dX11_toneAt_140 : decode cX11_toneAt 140 = .ok (.iload_n 2, 1) := dq0 kk_28 (by decide +kernel)
theorem dX11_toneAt_141 : decode cX11_toneAt 141 = .ok (.iaload, 1) := dq0 kk_46 (by decide +kernel)
theorem dX11_toneAt_142 : decode cX11_toneAt 142 = .ok (.invokestatic 231, 3) := dqV kk_184 (by decide +kernel)
theorem tb_362 : Cond.methodLink "ToneLines" 231 yX11_highest ∈ TB := tbm (tc4 (List.mem_of_getElem? (i := 159) rfl)) rfl
theorem gs_X11_231 : GoodIn TB (va_wsS RX11 231 yX11_highest (cw yX11_highest cX11_highest 2 (some .int))) := goodIn_3 tb_362 tb_97 tb_95 gc_X11_highest
theorem dX11_toneAt_145 : decode cX11_toneAt 145 = .ok (.ireturn, 1) := dq0 kk_172 (by decide +kernel)
theorem dX11_toneAt_146 : decode cX11_toneAt 146 = .ok (.aload 4, 2) := dqU kk_25 (by decide +kernel)
theorem dX11_toneAt_148 : decode cX11_toneAt 148 = .ok (.getfield 126, 3) := dqV kk_180 (by decide +kernel)
theorem dX11_toneAt_151 : decode cX11_toneAt 151 = .ok (.iload_n 2, 1) := dq0 kk_28 (by decide +kernel)
theorem dX11_toneAt_152 : decode cX11_toneAt 152 = .ok (.iaload, 1) := dq0 kk_46 (by decide +kernel)
theorem dX11_toneAt_153 : decode cX11_toneAt 153 = .ok (.invokestatic 234, 3) := dqV kk_184 (by decide +kernel)
theorem dX11_toneAt_156 : decode cX11_toneAt 156 = .ok (.ireturn, 1) := dq0 kk_172 (by decide +kernel)
theorem dX11_toneAt_157 : decode cX11_toneAt 157 = .ok (.iconst 3, 1) := dq0 kk_6 (by decide +kernel)
theorem dX11_toneAt_158 : decode cX11_toneAt 158 = .ok (.aload 4, 2) := dqU kk_25 (by decide +kernel)
theorem dX11_toneAt_160 : decode cX11_toneAt 160 = .ok (.getfield 147, 3) := dqV kk_180 (by decide +kernel)
theorem dX11_toneAt_163 : decode cX11_toneAt 163 = .ok (.iload_n 2, 1) := dq0 kk_28 (by decide +kernel)
theorem dX11_toneAt_164 : decode cX11_toneAt 164 = .ok (.iaload, 1) := dq0 kk_46 (by decide +kernel)
theorem dX11_toneAt_165 : decode cX11_toneAt 165 = .ok (.iconst 1, 1) := dq0 kk_4 (by decide +kernel)
theorem dX11_toneAt_166 : decode cX11_toneAt 166 = .ok (.iadd, 1) := dq0 kk_96 (by decide +kernel)
theorem dX11_toneAt_167 : decode cX11_toneAt 167 = .ok (.imul, 1) := dq0 kk_104 (by decide +kernel)
theorem dX11_toneAt_168 : decode cX11_toneAt 168 = .ok (.aload 4, 2) := dqU kk_25 (by decide +kernel)
theorem dX11_toneAt_170 : decode cX11_toneAt 170 = .ok (.iload_n 2, 1) := dq0 kk_28 (by decide +kernel)
theorem dX11_toneAt_171 : decode cX11_toneAt 171 = .ok (.invokevirtual 216, 3) := dqV kk_182 (by decide +kernel)
theorem dX11_toneAt_174 : decode cX11_toneAt 174 = .ok (.isub, 1) := dq0 kk_100 (by decide +kernel)
theorem dX11_toneAt_175 : decode cX11_toneAt 175 = .ok (.ireturn, 1) := dq0 kk_172 (by decide +kernel)
theorem dX11_toneAt_176 : decode cX11_toneAt 176 = .ok (.iconst (-1), 1) := dq0 kk_2 (by decide +kernel)
theorem dX11_toneAt_177 : decode cX11_toneAt 177 = .ok (.ireturn, 1) := dq0 kk_172 (by decide +kernel)
theorem dX11_toneAt_54 : decode cX11_toneAt 54 = .ok (.iconst 1, 1) := dq0 kk_4 (by decide +kernel)
theorem dX11_toneAt_55 : decode cX11_toneAt 55 = .ok (.goto 4, 3) := dqT kk_167 (by decide +kernel)
theorem dX11_toneAt_109 : decode cX11_toneAt 109 = .ok (.bipush (-2), 2) := dqS kk_16 (by decide +kernel)
theorem dX11_toneAt_111 : decode cX11_toneAt 111 = .ok (.goto 13, 3) := dqT kk_167 (by decide +kernel)
theorem dX11_toneAt_130 : decode cX11_toneAt 130 = .ok (.bipush (-2), 2) := dqS kk_16 (by decide +kernel)
theorem dX11_toneAt_132 : decode cX11_toneAt 132 = .ok (.goto 13, 3) := dqT kk_167 (by decide +kernel)
theorem dX11_toneAt_32 : decode cX11_toneAt 32 = .ok (.iload_n 3, 1) := dq0 kk_29 (by decide +kernel)
theorem dX11_toneAt_33 : decode cX11_toneAt 33 = .ok (.iconst 4, 1) := dq0 kk_7 (by decide +kernel)
theorem dX11_toneAt_34 : decode cX11_toneAt 34 = .ok (.if_icmp .ne 8, 3) := dqT kk_160 (by decide +kernel)
theorem dX11_toneAt_42 : decode cX11_toneAt 42 = .ok (.iconst (-1), 1) := dq0 kk_2 (by decide +kernel)
theorem dX11_toneAt_43 : decode cX11_toneAt 43 = .ok (.ireturn, 1) := dq0 kk_172 (by decide +kernel)
theorem dX11_toneAt_37 : decode cX11_toneAt 37 = .ok (.bipush (-100), 2) := dqS kk_16 (by decide +kernel)
theorem dX11_toneAt_39 : decode cX11_toneAt 39 = .ok (.goto 4, 3) := dqT kk_167 (by decide +kernel)
theorem dX11_toneAt_11 : decode cX11_toneAt 11 = .ok (.iconst (-1), 1) := dq0 kk_2 (by decide +kernel)
theorem dX11_toneAt_12 : decode cX11_toneAt 12 = .ok (.ireturn, 1) := dq0 kk_172 (by decide +kernel)
theorem dX11_syllableAt_0 : decode cX11_syllableAt 0 = .ok (.aload_n 0, 1) := dq0 kk_42 (by decide +kernel)
theorem dX11_syllableAt_1 : decode cX11_syllableAt 1 = .ok (.getfield 35, 3) := dqV kk_180 (by decide +kernel)
theorem dX11_syllableAt_4 : decode cX11_syllableAt 4 = .ok (.iload_n 1, 1) := dq0 kk_27 (by decide +kernel)
theorem dX11_syllableAt_5 : decode cX11_syllableAt 5 = .ok (.invokevirtual 193, 3) := dqV kk_182 (by decide +kernel)
theorem dX11_syllableAt_8 : decode cX11_syllableAt 8 = .ok (.ifCond .ne 5, 3) := dqT kk_154 (by decide +kernel)
theorem dX11_syllableAt_13 : decode cX11_syllableAt 13 = .ok (.aload_n 0, 1) := dq0 kk_42 (by decide +kernel)
theorem dX11_syllableAt_14 : decode cX11_syllableAt 14 = .ok (.getfield 35, 3) := dqV kk_180 (by decide +kernel)
theorem dX11_syllableAt_17 : decode cX11_syllableAt 17 = .ok (.iload_n 1, 1) := dq0 kk_27 (by decide +kernel)
theorem dX11_syllableAt_18 : decode cX11_syllableAt 18 = .ok (.invokevirtual 196, 3) := dqV kk_182 (by decide +kernel)
theorem dX11_syllableAt_21 : decode cX11_syllableAt 21 = .ok (.astore 4, 2) := dqU kk_58 (by decide +kernel)
theorem dX11_syllableAt_23 : decode cX11_syllableAt 23 = .ok (.aload 4, 2) := dqU kk_25 (by decide +kernel)
theorem dX11_syllableAt_25 : decode cX11_syllableAt 25 = .ok (.iload_n 2, 1) := dq0 kk_28 (by decide +kernel)
theorem dX11_syllableAt_26 : decode cX11_syllableAt 26 = .ok (.invokevirtual 160, 3) := dqV kk_182 (by decide +kernel)
theorem dX11_syllableAt_29 : decode cX11_syllableAt 29 = .ok (.ifCond .ne 5, 3) := dqT kk_154 (by decide +kernel)
theorem dX11_syllableAt_34 : decode cX11_syllableAt 34 = .ok (.aload 4, 2) := dqU kk_25 (by decide +kernel)
theorem dX11_syllableAt_36 : decode cX11_syllableAt 36 = .ok (.iload_n 2, 1) := dq0 kk_28 (by decide +kernel)
theorem dX11_syllableAt_37 : decode cX11_syllableAt 37 = .ok (.invokevirtual 239, 3) := dqV kk_182 (by decide +kernel)
theorem tb_363 : Cond.methodLink "ToneLines" 239 yX9_tonesOf ∈ TB := tbm (tc4 (List.mem_of_getElem? (i := 164) rfl)) rfl
theorem gv_X11_239 : GoodIn TB (wsV RX11 239 RX9 yX9_tonesOf (cw yX9_tonesOf cX9_tonesOf 4 (some .int))) := goodIn_4 tb_363 tb_102 tb_103 tb_5 gc_X9_tonesOf
theorem dX11_syllableAt_40 : decode cX11_syllableAt 40 = .ok (.istore 5, 2) := dqU kk_54 (by decide +kernel)
theorem dX11_syllableAt_42 : decode cX11_syllableAt 42 = .ok (.iload_n 3, 1) := dq0 kk_29 (by decide +kernel)
theorem dX11_syllableAt_43 : decode cX11_syllableAt 43 = .ok (.tableswitch 112 0 5 #[37, 52, 67, 73, 89, 105], 37) := by decide +kernel
theorem dX11_syllableAt_80 : decode cX11_syllableAt 80 = .ok (.aload 4, 2) := dqU kk_25 (by decide +kernel)
theorem dX11_syllableAt_82 : decode cX11_syllableAt 82 = .ok (.iload_n 2, 1) := dq0 kk_28 (by decide +kernel)
theorem dX11_syllableAt_83 : decode cX11_syllableAt 83 = .ok (.invokevirtual 163, 3) := dqV kk_182 (by decide +kernel)
theorem dX11_syllableAt_86 : decode cX11_syllableAt 86 = .ok (.ifCond .eq 7, 3) := dqT kk_153 (by decide +kernel)
theorem dX11_syllableAt_93 : decode cX11_syllableAt 93 = .ok (.iconst 0, 1) := dq0 kk_3 (by decide +kernel)
theorem dX11_syllableAt_94 : decode cX11_syllableAt 94 = .ok (.ireturn, 1) := dq0 kk_172 (by decide +kernel)
theorem dX11_syllableAt_89 : decode cX11_syllableAt 89 = .ok (.iconst 1, 1) := dq0 kk_4 (by decide +kernel)
theorem dX11_syllableAt_90 : decode cX11_syllableAt 90 = .ok (.goto 4, 3) := dqT kk_167 (by decide +kernel)
theorem dX11_syllableAt_95 : decode cX11_syllableAt 95 = .ok (.aload 4, 2) := dqU kk_25 (by decide +kernel)
theorem dX11_syllableAt_97 : decode cX11_syllableAt 97 = .ok (.iload_n 2, 1) := dq0 kk_28 (by decide +kernel)
theorem dX11_syllableAt_98 : decode cX11_syllableAt 98 = .ok (.invokevirtual 166, 3) := dqV kk_182 (by decide +kernel)
theorem dX11_syllableAt_101 : decode cX11_syllableAt 101 = .ok (.ifCond .eq 7, 3) := dqT kk_153 (by decide +kernel)
theorem dX11_syllableAt_108 : decode cX11_syllableAt 108 = .ok (.iconst 0, 1) := dq0 kk_3 (by decide +kernel)
theorem dX11_syllableAt_109 : decode cX11_syllableAt 109 = .ok (.ireturn, 1) := dq0 kk_172 (by decide +kernel)
theorem dX11_syllableAt_104 : decode cX11_syllableAt 104 = .ok (.iconst 1, 1) := dq0 kk_4 (by decide +kernel)
theorem dX11_syllableAt_105 : decode cX11_syllableAt 105 = .ok (.goto 4, 3) := dqT kk_167 (by decide +kernel)
theorem dX11_syllableAt_110 : decode cX11_syllableAt 110 = .ok (.iload 5, 2) := dqU kk_21 (by decide +kernel)
theorem dX11_syllableAt_112 : decode cX11_syllableAt 112 = .ok (.invokestatic 234, 3) := dqV kk_184 (by decide +kernel)
theorem dX11_syllableAt_115 : decode cX11_syllableAt 115 = .ok (.ireturn, 1) := dq0 kk_172 (by decide +kernel)
theorem dX11_syllableAt_116 : decode cX11_syllableAt 116 = .ok (.iload 5, 2) := dqU kk_21 (by decide +kernel)
theorem dX11_syllableAt_118 : decode cX11_syllableAt 118 = .ok (.ifCond .ne 8, 3) := dqT kk_154 (by decide +kernel)
theorem dX11_syllableAt_126 : decode cX11_syllableAt 126 = .ok (.iload 5, 2) := dqU kk_21 (by decide +kernel)
theorem dX11_syllableAt_128 : decode cX11_syllableAt 128 = .ok (.invokestatic 228, 3) := dqV kk_184 (by decide +kernel)
theorem dX11_syllableAt_131 : decode cX11_syllableAt 131 = .ok (.ireturn, 1) := dq0 kk_172 (by decide +kernel)
theorem dX11_syllableAt_121 : decode cX11_syllableAt 121 = .ok (.bipush (-2), 2) := dqS kk_16 (by decide +kernel)
theorem dX11_syllableAt_123 : decode cX11_syllableAt 123 = .ok (.goto 8, 3) := dqT kk_167 (by decide +kernel)
theorem dX11_syllableAt_132 : decode cX11_syllableAt 132 = .ok (.iload 5, 2) := dqU kk_21 (by decide +kernel)
theorem dX11_syllableAt_134 : decode cX11_syllableAt 134 = .ok (.ifCond .ne 8, 3) := dqT kk_154 (by decide +kernel)
theorem dX11_syllableAt_142 : decode cX11_syllableAt 142 = .ok (.iload 5, 2) := dqU kk_21 (by decide +kernel)
theorem dX11_syllableAt_144 : decode cX11_syllableAt 144 = .ok (.invokestatic 231, 3) := dqV kk_184 (by decide +kernel)
theorem dX11_syllableAt_147 : decode cX11_syllableAt 147 = .ok (.ireturn, 1) := dq0 kk_172 (by decide +kernel)
theorem dX11_syllableAt_137 : decode cX11_syllableAt 137 = .ok (.bipush (-2), 2) := dqS kk_16 (by decide +kernel)
theorem dX11_syllableAt_139 : decode cX11_syllableAt 139 = .ok (.goto 8, 3) := dqT kk_167 (by decide +kernel)
theorem dX11_syllableAt_148 : decode cX11_syllableAt 148 = .ok (.aload 4, 2) := dqU kk_25 (by decide +kernel)
theorem dX11_syllableAt_150 : decode cX11_syllableAt 150 = .ok (.iload_n 2, 1) := dq0 kk_28 (by decide +kernel)
theorem dX11_syllableAt_151 : decode cX11_syllableAt 151 = .ok (.invokevirtual 242, 3) := dqV kk_182 (by decide +kernel)
theorem tk_X9_readOf : Cond.code yX9_readOf cX9_readOf 4 (some .int) ∈ TB := tbm (tc4 (List.mem_of_getElem? (i := 168) rfl)) rfl
theorem gc_X9_readOf : GoodIn TB (cw yX9_readOf cX9_readOf 4 (some .int)) := goodIn_c2 tk_X9_readOf
theorem tb_364 : Cond.methodLink "ToneLines" 242 yX9_readOf ∈ TB := tbm (tc4 (List.mem_of_getElem? (i := 165) rfl)) rfl
theorem tb_365 : Cond.instanceMethod yX9_readOf ∈ TB := tbm (tc4 (List.mem_of_getElem? (i := 166) rfl)) rfl
theorem tb_366 : Cond.selects "ToneLines$Word" yX9_readOf yX9_readOf ∈ TB := tbm (tc4 (List.mem_of_getElem? (i := 167) rfl)) rfl
theorem gv_X11_242 : GoodIn TB (wsV RX11 242 RX9 yX9_readOf (cw yX9_readOf cX9_readOf 4 (some .int))) := goodIn_4 tb_364 tb_365 tb_366 tb_5 gc_X9_readOf
theorem hv_X9_readOf : yX9_readOf.cls = RX9 ∧ yX9_readOf.cls ≠ "java/lang/invoke/MethodHandle" ∧ yX9_readOf.cls ≠ "java/lang/invoke/VarHandle" ∧ (parseMethodDescriptor yX9_readOf.desc).map (fun d => d.parameters.length) = some 1 := by decide +kernel
theorem dX11_syllableAt_154 : decode cX11_syllableAt 154 = .ok (.ireturn, 1) := dq0 kk_172 (by decide +kernel)
theorem dX11_syllableAt_155 : decode cX11_syllableAt 155 = .ok (.iconst (-1), 1) := dq0 kk_2 (by decide +kernel)
theorem dX11_syllableAt_156 : decode cX11_syllableAt 156 = .ok (.ireturn, 1) := dq0 kk_172 (by decide +kernel)
theorem dX11_syllableAt_32 : decode cX11_syllableAt 32 = .ok (.iconst (-1), 1) := dq0 kk_2 (by decide +kernel)
theorem dX11_syllableAt_33 : decode cX11_syllableAt 33 = .ok (.ireturn, 1) := dq0 kk_172 (by decide +kernel)
theorem dX11_syllableAt_11 : decode cX11_syllableAt 11 = .ok (.iconst (-1), 1) := dq0 kk_2 (by decide +kernel)
theorem dX11_syllableAt_12 : decode cX11_syllableAt 12 = .ok (.ireturn, 1) := dq0 kk_172 (by decide +kernel)
theorem dX11_linesOf_0 : decode cX11_linesOf 0 = .ok (.aload_n 0, 1) := dq0 kk_42 (by decide +kernel)
theorem dX11_linesOf_1 : decode cX11_linesOf 1 = .ok (.getfield 35, 3) := dqV kk_180 (by decide +kernel)
theorem dX11_linesOf_4 : decode cX11_linesOf 4 = .ok (.iload_n 1, 1) := dq0 kk_27 (by decide +kernel)
theorem dX11_linesOf_5 : decode cX11_linesOf 5 = .ok (.invokevirtual 193, 3) := dqV kk_182 (by decide +kernel)
theorem dX11_linesOf_8 : decode cX11_linesOf 8 = .ok (.ifCond .ne 5, 3) := dqT kk_154 (by decide +kernel)
theorem dX11_linesOf_13 : decode cX11_linesOf 13 = .ok (.aload_n 0, 1) := dq0 kk_42 (by decide +kernel)
theorem dX11_linesOf_14 : decode cX11_linesOf 14 = .ok (.getfield 35, 3) := dqV kk_180 (by decide +kernel)
theorem dX11_linesOf_17 : decode cX11_linesOf 17 = .ok (.iload_n 1, 1) := dq0 kk_27 (by decide +kernel)
theorem dX11_linesOf_18 : decode cX11_linesOf 18 = .ok (.invokevirtual 196, 3) := dqV kk_182 (by decide +kernel)
theorem dX11_linesOf_21 : decode cX11_linesOf 21 = .ok (.astore_n 3, 1) := dq0 kk_78 (by decide +kernel)
theorem dX11_linesOf_22 : decode cX11_linesOf 22 = .ok (.aload_n 3, 1) := dq0 kk_45 (by decide +kernel)
theorem dX11_linesOf_23 : decode cX11_linesOf 23 = .ok (.iload_n 2, 1) := dq0 kk_28 (by decide +kernel)
theorem dX11_linesOf_24 : decode cX11_linesOf 24 = .ok (.invokevirtual 141, 3) := dqV kk_182 (by decide +kernel)
theorem dX11_linesOf_27 : decode cX11_linesOf 27 = .ok (.ifCond .eq 12, 3) := dqT kk_153 (by decide +kernel)
theorem dX11_linesOf_39 : decode cX11_linesOf 39 = .ok (.iconst (-1), 1) := dq0 kk_2 (by decide +kernel)
theorem dX11_linesOf_40 : decode cX11_linesOf 40 = .ok (.ireturn, 1) := dq0 kk_172 (by decide +kernel)
theorem dX11_linesOf_30 : decode cX11_linesOf 30 = .ok (.aload_n 3, 1) := dq0 kk_45 (by decide +kernel)
theorem dX11_linesOf_31 : decode cX11_linesOf 31 = .ok (.getfield 126, 3) := dqV kk_180 (by decide +kernel)
theorem dX11_linesOf_34 : decode cX11_linesOf 34 = .ok (.iload_n 2, 1) := dq0 kk_28 (by decide +kernel)
theorem dX11_linesOf_35 : decode cX11_linesOf 35 = .ok (.iaload, 1) := dq0 kk_46 (by decide +kernel)
theorem dX11_linesOf_36 : decode cX11_linesOf 36 = .ok (.goto 4, 3) := dqT kk_167 (by decide +kernel)
theorem dX11_linesOf_11 : decode cX11_linesOf 11 = .ok (.iconst (-1), 1) := dq0 kk_2 (by decide +kernel)
theorem dX11_linesOf_12 : decode cX11_linesOf 12 = .ok (.ireturn, 1) := dq0 kk_172 (by decide +kernel)
theorem dX11_open_0 : decode cX11_open 0 = .ok (.aload_n 0, 1) := dq0 kk_42 (by decide +kernel)
theorem dX11_open_1 : decode cX11_open 1 = .ok (.getfield 35, 3) := dqV kk_180 (by decide +kernel)
theorem dX11_open_4 : decode cX11_open 4 = .ok (.iload_n 1, 1) := dq0 kk_27 (by decide +kernel)
theorem dX11_open_5 : decode cX11_open 5 = .ok (.invokevirtual 193, 3) := dqV kk_182 (by decide +kernel)
theorem dX11_open_8 : decode cX11_open 8 = .ok (.ifCond .ne 5, 3) := dqT kk_154 (by decide +kernel)
theorem dX11_open_13 : decode cX11_open 13 = .ok (.aload_n 0, 1) := dq0 kk_42 (by decide +kernel)
theorem dX11_open_14 : decode cX11_open 14 = .ok (.getfield 35, 3) := dqV kk_180 (by decide +kernel)
theorem dX11_open_17 : decode cX11_open 17 = .ok (.iload_n 1, 1) := dq0 kk_27 (by decide +kernel)
theorem dX11_open_18 : decode cX11_open 18 = .ok (.invokevirtual 196, 3) := dqV kk_182 (by decide +kernel)
theorem dX11_open_21 : decode cX11_open 21 = .ok (.astore 4, 2) := dqU kk_58 (by decide +kernel)
theorem dX11_open_23 : decode cX11_open 23 = .ok (.aload 4, 2) := dqU kk_25 (by decide +kernel)
theorem dX11_open_25 : decode cX11_open 25 = .ok (.iload_n 2, 1) := dq0 kk_28 (by decide +kernel)
theorem dX11_open_26 : decode cX11_open 26 = .ok (.invokevirtual 141, 3) := dqV kk_182 (by decide +kernel)
theorem dX11_open_29 : decode cX11_open 29 = .ok (.ifCond .eq 12, 3) := dqT kk_153 (by decide +kernel)
theorem dX11_open_41 : decode cX11_open 41 = .ok (.iconst (-1), 1) := dq0 kk_2 (by decide +kernel)
theorem dX11_open_42 : decode cX11_open 42 = .ok (.ireturn, 1) := dq0 kk_172 (by decide +kernel)
theorem dX11_open_32 : decode cX11_open 32 = .ok (.aload 4, 2) := dqU kk_25 (by decide +kernel)
theorem dX11_open_34 : decode cX11_open 34 = .ok (.iload_n 3, 1) := dq0 kk_29 (by decide +kernel)
theorem dX11_open_35 : decode cX11_open 35 = .ok (.invokevirtual 160, 3) := dqV kk_182 (by decide +kernel)
theorem dX11_open_38 : decode cX11_open 38 = .ok (.ifCond .ne 5, 3) := dqT kk_154 (by decide +kernel)
theorem dX11_open_43 : decode cX11_open 43 = .ok (.aload 4, 2) := dqU kk_25 (by decide +kernel)
theorem dX11_open_45 : decode cX11_open 45 = .ok (.iload_n 2, 1) := dq0 kk_28 (by decide +kernel)
theorem dX11_open_46 : decode cX11_open 46 = .ok (.iload_n 3, 1) := dq0 kk_29 (by decide +kernel)
theorem dX11_open_47 : decode cX11_open 47 = .ok (.invokevirtual 119, 3) := dqV kk_182 (by decide +kernel)
theorem dX11_open_50 : decode cX11_open 50 = .ok (.ifCond .eq 7, 3) := dqT kk_153 (by decide +kernel)
theorem dX11_open_57 : decode cX11_open 57 = .ok (.iconst 0, 1) := dq0 kk_3 (by decide +kernel)
theorem dX11_open_58 : decode cX11_open 58 = .ok (.ireturn, 1) := dq0 kk_172 (by decide +kernel)
theorem dX11_open_53 : decode cX11_open 53 = .ok (.iconst 1, 1) := dq0 kk_4 (by decide +kernel)
theorem dX11_open_54 : decode cX11_open 54 = .ok (.goto 4, 3) := dqT kk_167 (by decide +kernel)
theorem dX11_open_11 : decode cX11_open 11 = .ok (.iconst (-1), 1) := dq0 kk_2 (by decide +kernel)
theorem dX11_open_12 : decode cX11_open 12 = .ok (.ireturn, 1) := dq0 kk_172 (by decide +kernel)
theorem dX11_spell_0 : decode cX11_spell 0 = .ok (.aload_n 0, 1) := dq0 kk_42 (by decide +kernel)
theorem dX11_spell_1 : decode cX11_spell 1 = .ok (.getfield 35, 3) := dqV kk_180 (by decide +kernel)
theorem dX11_spell_4 : decode cX11_spell 4 = .ok (.iload_n 1, 1) := dq0 kk_27 (by decide +kernel)
theorem dX11_spell_5 : decode cX11_spell 5 = .ok (.invokevirtual 193, 3) := dqV kk_182 (by decide +kernel)
theorem dX11_spell_8 : decode cX11_spell 8 = .ok (.ifCond .eq 8, 3) := dqT kk_153 (by decide +kernel)
theorem dX11_spell_16 : decode cX11_spell 16 = .ok (.iconst (-1), 1) := dq0 kk_2 (by decide +kernel)
theorem dX11_spell_17 : decode cX11_spell 17 = .ok (.ireturn, 1) := dq0 kk_172 (by decide +kernel)
theorem dX11_spell_11 : decode cX11_spell 11 = .ok (.iload_n 2, 1) := dq0 kk_28 (by decide +kernel)
theorem dX11_spell_12 : decode cX11_spell 12 = .ok (.iconst (-1), 1) := dq0 kk_2 (by decide +kernel)
theorem dX11_spell_13 : decode cX11_spell 13 = .ok (.if_icmp .ge 5, 3) := dqT kk_162 (by decide +kernel)
theorem dX11_spell_18 : decode cX11_spell 18 = .ok (.aload_n 0, 1) := dq0 kk_42 (by decide +kernel)
theorem dX11_spell_19 : decode cX11_spell 19 = .ok (.getfield 68, 3) := dqV kk_180 (by decide +kernel)
theorem tb_367 : Cond.fieldLink "ToneLines" 68 "ToneLines" "speller" "LToneLines$Speller;" ∈ TB := tbm (tc2 (List.mem_of_getElem? (i := 65) rfl)) rfl
theorem dX11_spell_22 : decode cX11_spell 22 = .ok (.aload_n 0, 1) := dq0 kk_42 (by decide +kernel)
theorem dX11_spell_23 : decode cX11_spell 23 = .ok (.getfield 35, 3) := dqV kk_180 (by decide +kernel)
theorem dX11_spell_26 : decode cX11_spell 26 = .ok (.iload_n 1, 1) := dq0 kk_27 (by decide +kernel)
theorem dX11_spell_27 : decode cX11_spell 27 = .ok (.invokevirtual 196, 3) := dqV kk_182 (by decide +kernel)
theorem dX11_spell_30 : decode cX11_spell 30 = .ok (.invokevirtual 245, 3) := dqV kk_182 (by decide +kernel)
theorem tk_X7_write : Cond.code yX7_write cX7_write 4 none ∈ TB := tbm (tc4 (List.mem_of_getElem? (i := 184) rfl)) rfl
theorem gc_X7_write : GoodIn TB (cw yX7_write cX7_write 4 none) := goodIn_c2 tk_X7_write
theorem tb_368 : Cond.methodLink "ToneLines" 245 yX7_write ∈ TB := tbm (tc4 (List.mem_of_getElem? (i := 181) rfl)) rfl
theorem tb_369 : Cond.instanceMethod yX7_write ∈ TB := tbm (tc4 (List.mem_of_getElem? (i := 182) rfl)) rfl
theorem tb_370 : Cond.selects "ToneLines$Speller" yX7_write yX7_write ∈ TB := tbm (tc4 (List.mem_of_getElem? (i := 183) rfl)) rfl
theorem gv_X11_245 : GoodIn TB (wsV RX11 245 RX7 yX7_write (cw yX7_write cX7_write 4 none)) := goodIn_4 tb_368 tb_369 tb_370 tb_258 gc_X7_write
theorem hv_X7_write : yX7_write.cls = RX7 ∧ yX7_write.cls ≠ "java/lang/invoke/MethodHandle" ∧ yX7_write.cls ≠ "java/lang/invoke/VarHandle" ∧ (parseMethodDescriptor yX7_write.desc).map (fun d => d.parameters.length) = some 1 := by decide +kernel
theorem dX11_spell_33 : decode cX11_spell 33 = .ok (.iload_n 2, 1) := dq0 kk_28 (by decide +kernel)
theorem dX11_spell_34 : decode cX11_spell 34 = .ok (.iconst (-1), 1) := dq0 kk_2 (by decide +kernel)
theorem dX11_spell_35 : decode cX11_spell 35 = .ok (.if_icmp .ne 11, 3) := dqT kk_160 (by decide +kernel)
theorem dX11_spell_46 : decode cX11_spell 46 = .ok (.iload_n 2, 1) := dq0 kk_28 (by decide +kernel)
theorem dX11_spell_47 : decode cX11_spell 47 = .ok (.aload_n 0, 1) := dq0 kk_42 (by decide +kernel)
theorem dX11_spell_48 : decode cX11_spell 48 = .ok (.getfield 68, 3) := dqV kk_180 (by decide +kernel)
theorem dX11_spell_51 : decode cX11_spell 51 = .ok (.getfield 248, 3) := dqV kk_180 (by decide +kernel)
theorem tb_371 : Cond.fieldLink "ToneLines" 248 "ToneLines$Speller" "size" "I" ∈ TB := tbm (tc2 (List.mem_of_getElem? (i := 48) rfl)) rfl
theorem dX11_spell_54 : decode cX11_spell 54 = .ok (.if_icmp .ge 15, 3) := dqT kk_162 (by decide +kernel)
theorem dX11_spell_69 : decode cX11_spell 69 = .ok (.iconst (-1), 1) := dq0 kk_2 (by decide +kernel)
theorem dX11_spell_70 : decode cX11_spell 70 = .ok (.ireturn, 1) := dq0 kk_172 (by decide +kernel)
theorem dX11_spell_57 : decode cX11_spell 57 = .ok (.aload_n 0, 1) := dq0 kk_42 (by decide +kernel)
theorem dX11_spell_58 : decode cX11_spell 58 = .ok (.getfield 68, 3) := dqV kk_180 (by decide +kernel)
theorem dX11_spell_61 : decode cX11_spell 61 = .ok (.getfield 249, 3) := dqV kk_180 (by decide +kernel)
theorem tb_372 : Cond.fieldLink "ToneLines" 249 "ToneLines$Speller" "signs" "[C" ∈ TB := tbm (tc2 (List.mem_of_getElem? (i := 46) rfl)) rfl
theorem dX11_spell_64 : decode cX11_spell 64 = .ok (.iload_n 2, 1) := dq0 kk_28 (by decide +kernel)
theorem dX11_spell_65 : decode cX11_spell 65 = .ok (.caload, 1) := by decide +kernel
theorem dX11_spell_66 : decode cX11_spell 66 = .ok (.goto 4, 3) := dqT kk_167 (by decide +kernel)
theorem dX11_spell_38 : decode cX11_spell 38 = .ok (.aload_n 0, 1) := dq0 kk_42 (by decide +kernel)
theorem dX11_spell_39 : decode cX11_spell 39 = .ok (.getfield 68, 3) := dqV kk_180 (by decide +kernel)
theorem dX11_spell_42 : decode cX11_spell 42 = .ok (.getfield 248, 3) := dqV kk_180 (by decide +kernel)
theorem dX11_spell_45 : decode cX11_spell 45 = .ok (.ireturn, 1) := dq0 kk_172 (by decide +kernel)
theorem dX11_rule_0 : decode cX11_rule 0 = .ok (.aload_n 0, 1) := rdX11_rule_0
theorem dX11_rule_1 : decode cX11_rule 1 = .ok (.getfield 35, 3) := rdX11_rule_1
theorem dX11_rule_4 : decode cX11_rule 4 = .ok (.iload_n 1, 1) := rdX11_rule_4
theorem dX11_rule_5 : decode cX11_rule 5 = .ok (.invokevirtual 173, 3) := rdX11_rule_5
theorem dX11_rule_8 : decode cX11_rule 8 = .ok (.ifCond .eq 13, 3) := rdX11_rule_8
theorem dX11_rule_21 : decode cX11_rule 21 = .ok (.iconst (-1), 1) := rdX11_rule_21
theorem dX11_rule_22 : decode cX11_rule 22 = .ok (.ireturn, 1) := rdX11_rule_22
theorem dX11_rule_11 : decode cX11_rule 11 = .ok (.iload_n 2, 1) := rdX11_rule_11
theorem dX11_rule_12 : decode cX11_rule 12 = .ok (.ifCond .lt 9, 3) := rdX11_rule_12
theorem dX11_rule_15 : decode cX11_rule 15 = .ok (.iload_n 2, 1) := rdX11_rule_15
theorem dX11_rule_16 : decode cX11_rule 16 = .ok (.bipush 8, 2) := rdX11_rule_16
theorem dX11_rule_18 : decode cX11_rule 18 = .ok (.if_icmp .lt 5, 3) := rdX11_rule_18
theorem dX11_rule_23 : decode cX11_rule 23 = .ok (.aload_n 0, 1) := rdX11_rule_23
theorem dX11_rule_24 : decode cX11_rule 24 = .ok (.getfield 35, 3) := rdX11_rule_24
theorem dX11_rule_27 : decode cX11_rule 27 = .ok (.getfield 180, 3) := rdX11_rule_27
theorem dX11_rule_30 : decode cX11_rule 30 = .ok (.iload_n 1, 1) := rdX11_rule_30
theorem dX11_rule_31 : decode cX11_rule 31 = .ok (.aaload, 1) := rdX11_rule_31
theorem dX11_rule_32 : decode cX11_rule 32 = .ok (.getfield 253, 3) := rdX11_rule_32
theorem tb_373 : Cond.fieldLink "ToneLines" 253 "ToneLines$Rule" "parts" "[I" ∈ TB := rtb_173
theorem dX11_rule_35 : decode cX11_rule 35 = .ok (.iload_n 2, 1) := rdX11_rule_35
theorem dX11_rule_36 : decode cX11_rule 36 = .ok (.iaload, 1) := rdX11_rule_36
theorem dX11_rule_37 : decode cX11_rule 37 = .ok (.ireturn, 1) := rdX11_rule_37
set_option maxRecDepth 4000 in
theorem q_X11_rule {l : Launch} {D : va_G} {B : Nat} {cy : Nat → ClassId} {M : Mem} {x : Int} (hx : (-2147483648) ≤ x ∧ x ≤ 2147483647) {x1 : Int} (hx1 : (-2147483648) ≤ x1 ∧ x1 ≤ 2147483647) (hI : Inv M) : Ci l D B cy yX11_rule cX11_rule 3 (some .int) 1 21 [.ref (B + 0), .int (zI x), .int (zI x1)] M (fun r M1 => ∃ z : Int, r = zI z ∧ ((-2) ≤ z ∧ z ≤ 99) ∧ M1 = M) := by
  refine s_anyQ (by decide) (Nat.le_of_ble_eq_true rfl) ?_
  intro p e s m args below meth c ls Q F hr hlocks hQ w hl
  have F : CallFix p m c cX11_rule 3 s args TB RX11 := F
  have hx := F.1
  have hb := F.2.1
  have hl : lv_has ls 3 [(0, .ref (B + 0)), (1, .int (zI x)), (2, .int (zI x1))] := hl
  refine lv_aload_n hx hb dX11_rule_0 rfl (lv_at hl 0 rfl) ?_
  refine f_11_3 F w (a := 0) rfl tb_273 dX11_rule_1 ?_
  refine lv_iload_n hx hb dX11_rule_4 rfl (lv_at hl 1 rfl) ?_
  refine k_Vi F w (As := [.int (zI x)]) (rest := []) (a := 22) (kd_lt (a := 22) (show kd 22 = (0, 0, 0) from rfl) (by decide)) (sh_0 rfl _ _) rfl (q_X0_hasRule (x := x) (by omega)  hI) gv_X11_173 hv_X0_hasRule ⟨(Nat.le_of_ble_eq_true rfl), (Nat.le_of_ble_eq_true rfl)⟩ hl.1 rfl (Nat.le_of_ble_eq_true rfl) ⟨Nat.zero_le _, Nat.zero_le _⟩ dX11_rule_5 (fun r1 N2 H locs hp w => ?_)
  obtain ⟨z3, rfl, bz3, xz3, hMN2⟩ := hp
  rw [hMN2] at w
  refine z_if_eq (tgt := 21) hx hb (by omega) dX11_rule_8 (by decide) (fun c4 => ?_) (fun c4 => ?_)
  · refine lv_iconst (v := zI (-1)) hx hb dX11_rule_21 rfl ?_
    rw [hQ]
    exact e_i F w hr hlocks ⟨_, rfl, (by omega), rfl⟩ dX11_rule_22
  · refine lv_iload_n hx hb dX11_rule_11 rfl (lv_at hl 2 rfl) ?_
    refine z_if_lt (tgt := 21) hx hb (by omega) dX11_rule_12 (by decide) (fun c5 => ?_) (fun c5 => ?_)
    · refine lv_iconst (v := zI (-1)) hx hb dX11_rule_21 rfl ?_
      rw [hQ]
      exact e_i F w hr hlocks ⟨_, rfl, (by omega), rfl⟩ dX11_rule_22
    · refine lv_iload_n hx hb dX11_rule_15 rfl (lv_at hl 2 rfl) ?_
      refine lv_bipush (v := zI 8) hx hb dX11_rule_16 (by decide) ?_
      refine z_icmp_lt (tgt := 23) hx hb (by omega) (by omega) dX11_rule_18 (by decide) (fun c6 => ?_) (fun c6 => ?_)
      · refine lv_aload_n hx hb dX11_rule_23 rfl (lv_at hl 0 rfl) ?_
        refine f_11_3 F w (a := 0) rfl tb_273 dX11_rule_24 ?_
        refine f_0_1 F w (a := 22) rfl tb_326 dX11_rule_27 ?_
        refine lv_iload_n hx hb dX11_rule_30 rfl (lv_at hl 1 rfl) ?_
        have hk7 := kd_lst (j := (Int.toNat x)) (by omega)
        refine g_aldR F w (a := 24) rfl (j := (Int.toNat x)) (o := (28 + 2 * (Int.toNat x))) rfl (ix_z (by omega) (by omega)) (by omega) dX11_rule_31 ?_
        refine f_4_0 F w (a := (28 + 2 * (Int.toNat x))) hk7 tb_373 dX11_rule_32 ?_
        refine lv_iload_n hx hb dX11_rule_35 rfl (lv_at hl 2 rfl) ?_
        refine g_iald F w (a := ((28 + 2 * (Int.toNat x)) + 1)) (iv_u hk7).2.2 (j := (Int.toNat x1)) (ix_z (by omega) (by omega)) (by omega) dX11_rule_36 ?_
        obtain ⟨z8, bz8, ez8⟩ := Inv.ld (k := (Int.toNat x1)) hI (iv_up hk7 _) (by have := lt_u hk7; omega)
        refine r_val ez8 ?_
        rw [hQ]
        exact e_i F w hr hlocks ⟨_, rfl, (by omega), rfl⟩ dX11_rule_37
      · refine lv_iconst (v := zI (-1)) hx hb dX11_rule_21 rfl ?_
        rw [hQ]
        exact e_i F w hr hlocks ⟨_, rfl, (by omega), rfl⟩ dX11_rule_22
theorem dX11_done_0 : decode cX11_done 0 = .ok (.aload_n 0, 1) := dq0 kk_42 (by decide +kernel)
theorem dX11_done_1 : decode cX11_done 1 = .ok (.getfield 35, 3) := dqV kk_180 (by decide +kernel)
theorem dX11_done_4 : decode cX11_done 4 = .ok (.iload_n 1, 1) := dq0 kk_27 (by decide +kernel)
theorem dX11_done_5 : decode cX11_done 5 = .ok (.invokevirtual 173, 3) := dqV kk_182 (by decide +kernel)
theorem dX11_done_8 : decode cX11_done 8 = .ok (.ifCond .eq 12, 3) := dqT kk_153 (by decide +kernel)
theorem dX11_done_20 : decode cX11_done 20 = .ok (.iconst (-1), 1) := dq0 kk_2 (by decide +kernel)
theorem dX11_done_21 : decode cX11_done 21 = .ok (.ireturn, 1) := dq0 kk_172 (by decide +kernel)
theorem dX11_done_11 : decode cX11_done 11 = .ok (.iload_n 2, 1) := dq0 kk_28 (by decide +kernel)
theorem dX11_done_12 : decode cX11_done 12 = .ok (.ifCond .lt 8, 3) := dqT kk_155 (by decide +kernel)
theorem dX11_done_15 : decode cX11_done 15 = .ok (.iload_n 2, 1) := dq0 kk_28 (by decide +kernel)
theorem dX11_done_16 : decode cX11_done 16 = .ok (.iconst 1, 1) := dq0 kk_4 (by decide +kernel)
theorem dX11_done_17 : decode cX11_done 17 = .ok (.if_icmp .le 5, 3) := dqT kk_164 (by decide +kernel)
theorem dX11_done_22 : decode cX11_done 22 = .ok (.aload_n 0, 1) := dq0 kk_42 (by decide +kernel)
theorem dX11_done_23 : decode cX11_done 23 = .ok (.getfield 35, 3) := dqV kk_180 (by decide +kernel)
theorem dX11_done_26 : decode cX11_done 26 = .ok (.iload_n 1, 1) := dq0 kk_27 (by decide +kernel)
theorem dX11_done_27 : decode cX11_done 27 = .ok (.iconst 1, 1) := dq0 kk_4 (by decide +kernel)
theorem dX11_done_28 : decode cX11_done 28 = .ok (.iadd, 1) := dq0 kk_96 (by decide +kernel)
theorem dX11_done_29 : decode cX11_done 29 = .ok (.invokevirtual 196, 3) := dqV kk_182 (by decide +kernel)
theorem dX11_done_32 : decode cX11_done 32 = .ok (.pop, 1) := dq0 kk_87 (by decide +kernel)
theorem dX11_done_33 : decode cX11_done 33 = .ok (.iload_n 2, 1) := dq0 kk_28 (by decide +kernel)
theorem dX11_done_34 : decode cX11_done 34 = .ok (.ifCond .ne 15, 3) := dqT kk_154 (by decide +kernel)
theorem dX11_done_49 : decode cX11_done 49 = .ok (.aload_n 0, 1) := dq0 kk_42 (by decide +kernel)
theorem dX11_done_50 : decode cX11_done 50 = .ok (.getfield 35, 3) := dqV kk_180 (by decide +kernel)
theorem dX11_done_53 : decode cX11_done 53 = .ok (.getfield 261, 3) := dqV kk_180 (by decide +kernel)
theorem tb_374 : Cond.fieldLink "ToneLines" 261 "ToneLines$Derivation" "passes" "[I" ∈ TB := tbm (tc1 (List.mem_of_getElem? (i := 182) rfl)) rfl
theorem dX11_done_56 : decode cX11_done 56 = .ok (.iload_n 1, 1) := dq0 kk_27 (by decide +kernel)
theorem dX11_done_57 : decode cX11_done 57 = .ok (.iaload, 1) := dq0 kk_46 (by decide +kernel)
theorem dX11_done_58 : decode cX11_done 58 = .ok (.ireturn, 1) := dq0 kk_172 (by decide +kernel)
theorem dX11_done_37 : decode cX11_done 37 = .ok (.aload_n 0, 1) := dq0 kk_42 (by decide +kernel)
theorem dX11_done_38 : decode cX11_done 38 = .ok (.getfield 35, 3) := dqV kk_180 (by decide +kernel)
theorem dX11_done_41 : decode cX11_done 41 = .ok (.getfield 258, 3) := dqV kk_180 (by decide +kernel)
theorem tb_375 : Cond.fieldLink "ToneLines" 258 "ToneLines$Derivation" "changes" "[I" ∈ TB := tbm (tc1 (List.mem_of_getElem? (i := 180) rfl)) rfl
theorem dX11_done_44 : decode cX11_done 44 = .ok (.iload_n 1, 1) := dq0 kk_27 (by decide +kernel)
theorem dX11_done_45 : decode cX11_done 45 = .ok (.iaload, 1) := dq0 kk_46 (by decide +kernel)
theorem dX11_done_46 : decode cX11_done 46 = .ok (.goto 12, 3) := dqT kk_167 (by decide +kernel)
theorem dX11_exchanged_0 : decode cX11_exchanged 0 = .ok (.aload_n 0, 1) := dq0 kk_42 (by decide +kernel)
theorem dX11_exchanged_1 : decode cX11_exchanged 1 = .ok (.getfield 35, 3) := dqV kk_180 (by decide +kernel)
theorem dX11_exchanged_4 : decode cX11_exchanged 4 = .ok (.iload_n 1, 1) := dq0 kk_27 (by decide +kernel)
theorem dX11_exchanged_5 : decode cX11_exchanged 5 = .ok (.invokevirtual 173, 3) := dqV kk_182 (by decide +kernel)
theorem dX11_exchanged_8 : decode cX11_exchanged 8 = .ok (.ifCond .eq 16, 3) := dqT kk_153 (by decide +kernel)
theorem dX11_exchanged_24 : decode cX11_exchanged 24 = .ok (.iconst (-1), 1) := dq0 kk_2 (by decide +kernel)
theorem dX11_exchanged_25 : decode cX11_exchanged 25 = .ok (.ireturn, 1) := dq0 kk_172 (by decide +kernel)
theorem dX11_exchanged_11 : decode cX11_exchanged 11 = .ok (.aload_n 0, 1) := dq0 kk_42 (by decide +kernel)
theorem dX11_exchanged_12 : decode cX11_exchanged 12 = .ok (.getfield 35, 3) := dqV kk_180 (by decide +kernel)
theorem dX11_exchanged_15 : decode cX11_exchanged 15 = .ok (.iload_n 1, 1) := dq0 kk_27 (by decide +kernel)
theorem dX11_exchanged_16 : decode cX11_exchanged 16 = .ok (.iconst 1, 1) := dq0 kk_4 (by decide +kernel)
theorem dX11_exchanged_17 : decode cX11_exchanged 17 = .ok (.iadd, 1) := dq0 kk_96 (by decide +kernel)
theorem dX11_exchanged_18 : decode cX11_exchanged 18 = .ok (.invokevirtual 173, 3) := dqV kk_182 (by decide +kernel)
theorem dX11_exchanged_21 : decode cX11_exchanged 21 = .ok (.ifCond .ne 5, 3) := dqT kk_154 (by decide +kernel)
theorem dX11_exchanged_26 : decode cX11_exchanged 26 = .ok (.aload_n 0, 1) := dq0 kk_42 (by decide +kernel)
theorem dX11_exchanged_27 : decode cX11_exchanged 27 = .ok (.getfield 75, 3) := dqV kk_180 (by decide +kernel)
theorem dX11_exchanged_30 : decode cX11_exchanged 30 = .ok (.aload_n 0, 1) := dq0 kk_42 (by decide +kernel)
theorem dX11_exchanged_31 : decode cX11_exchanged 31 = .ok (.getfield 35, 3) := dqV kk_180 (by decide +kernel)
theorem dX11_exchanged_34 : decode cX11_exchanged 34 = .ok (.iload_n 1, 1) := dq0 kk_27 (by decide +kernel)
theorem dX11_exchanged_35 : decode cX11_exchanged 35 = .ok (.invokevirtual 196, 3) := dqV kk_182 (by decide +kernel)
theorem dX11_exchanged_38 : decode cX11_exchanged 38 = .ok (.invokevirtual 90, 3) := dqV kk_182 (by decide +kernel)
theorem dX11_exchanged_41 : decode cX11_exchanged 41 = .ok (.aload_n 0, 1) := dq0 kk_42 (by decide +kernel)
theorem dX11_exchanged_42 : decode cX11_exchanged 42 = .ok (.getfield 35, 3) := dqV kk_180 (by decide +kernel)
theorem dX11_exchanged_45 : decode cX11_exchanged 45 = .ok (.getfield 176, 3) := dqV kk_180 (by decide +kernel)
theorem dX11_exchanged_48 : decode cX11_exchanged 48 = .ok (.aload_n 0, 1) := dq0 kk_42 (by decide +kernel)
theorem dX11_exchanged_49 : decode cX11_exchanged 49 = .ok (.getfield 35, 3) := dqV kk_180 (by decide +kernel)
theorem dX11_exchanged_52 : decode cX11_exchanged 52 = .ok (.getfield 180, 3) := dqV kk_180 (by decide +kernel)
theorem dX11_exchanged_55 : decode cX11_exchanged 55 = .ok (.iload_n 1, 1) := dq0 kk_27 (by decide +kernel)
theorem dX11_exchanged_56 : decode cX11_exchanged 56 = .ok (.iconst 1, 1) := dq0 kk_4 (by decide +kernel)
theorem dX11_exchanged_57 : decode cX11_exchanged 57 = .ok (.iadd, 1) := dq0 kk_96 (by decide +kernel)
theorem dX11_exchanged_58 : decode cX11_exchanged 58 = .ok (.aaload, 1) := dq0 kk_50 (by decide +kernel)
theorem dX11_exchanged_59 : decode cX11_exchanged 59 = .ok (.aload_n 0, 1) := dq0 kk_42 (by decide +kernel)
theorem dX11_exchanged_60 : decode cX11_exchanged 60 = .ok (.getfield 75, 3) := dqV kk_180 (by decide +kernel)
theorem dX11_exchanged_63 : decode cX11_exchanged 63 = .ok (.invokevirtual 183, 3) := dqV kk_182 (by decide +kernel)
theorem dX11_exchanged_66 : decode cX11_exchanged 66 = .ok (.pop, 1) := dq0 kk_87 (by decide +kernel)
theorem dX11_exchanged_67 : decode cX11_exchanged 67 = .ok (.aload_n 0, 1) := dq0 kk_42 (by decide +kernel)
theorem dX11_exchanged_68 : decode cX11_exchanged 68 = .ok (.getfield 35, 3) := dqV kk_180 (by decide +kernel)
theorem dX11_exchanged_71 : decode cX11_exchanged 71 = .ok (.getfield 176, 3) := dqV kk_180 (by decide +kernel)
theorem dX11_exchanged_74 : decode cX11_exchanged 74 = .ok (.aload_n 0, 1) := dq0 kk_42 (by decide +kernel)
theorem dX11_exchanged_75 : decode cX11_exchanged 75 = .ok (.getfield 35, 3) := dqV kk_180 (by decide +kernel)
theorem dX11_exchanged_78 : decode cX11_exchanged 78 = .ok (.getfield 180, 3) := dqV kk_180 (by decide +kernel)
theorem dX11_exchanged_81 : decode cX11_exchanged 81 = .ok (.iload_n 1, 1) := dq0 kk_27 (by decide +kernel)
theorem dX11_exchanged_82 : decode cX11_exchanged 82 = .ok (.aaload, 1) := dq0 kk_50 (by decide +kernel)
theorem dX11_exchanged_83 : decode cX11_exchanged 83 = .ok (.aload_n 0, 1) := dq0 kk_42 (by decide +kernel)
theorem dX11_exchanged_84 : decode cX11_exchanged 84 = .ok (.getfield 75, 3) := dqV kk_180 (by decide +kernel)
theorem dX11_exchanged_87 : decode cX11_exchanged 87 = .ok (.invokevirtual 183, 3) := dqV kk_182 (by decide +kernel)
theorem dX11_exchanged_90 : decode cX11_exchanged 90 = .ok (.pop, 1) := dq0 kk_87 (by decide +kernel)
theorem dX11_exchanged_91 : decode cX11_exchanged 91 = .ok (.aload_n 0, 1) := dq0 kk_42 (by decide +kernel)
theorem dX11_exchanged_92 : decode cX11_exchanged 92 = .ok (.getfield 35, 3) := dqV kk_180 (by decide +kernel)
theorem dX11_exchanged_95 : decode cX11_exchanged 95 = .ok (.aload_n 0, 1) := dq0 kk_42 (by decide +kernel)
theorem dX11_exchanged_96 : decode cX11_exchanged 96 = .ok (.getfield 75, 3) := dqV kk_180 (by decide +kernel)
theorem dX11_exchanged_99 : decode cX11_exchanged 99 = .ok (.iload_n 1, 1) := dq0 kk_27 (by decide +kernel)
theorem dX11_exchanged_100 : decode cX11_exchanged 100 = .ok (.iconst 2, 1) := dq0 kk_5 (by decide +kernel)
theorem dX11_exchanged_101 : decode cX11_exchanged 101 = .ok (.iadd, 1) := dq0 kk_96 (by decide +kernel)
theorem dX11_exchanged_102 : decode cX11_exchanged 102 = .ok (.invokevirtual 264, 3) := dqV kk_182 (by decide +kernel)
theorem tk_X0_finish : Cond.code yX0_finish cX0_finish 4 none ∈ TB := tbm (tc4 (List.mem_of_getElem? (i := 217) rfl)) rfl
theorem gc_X0_finish : GoodIn TB (cw yX0_finish cX0_finish 4 none) := goodIn_c2 tk_X0_finish
theorem tb_376 : Cond.methodLink "ToneLines" 264 yX0_finish ∈ TB := tbm (tc4 (List.mem_of_getElem? (i := 214) rfl)) rfl
theorem tb_377 : Cond.instanceMethod yX0_finish ∈ TB := tbm (tc4 (List.mem_of_getElem? (i := 215) rfl)) rfl
theorem tb_378 : Cond.selects "ToneLines$Derivation" yX0_finish yX0_finish ∈ TB := tbm (tc4 (List.mem_of_getElem? (i := 216) rfl)) rfl
theorem gv_X11_264 : GoodIn TB (wsV RX11 264 RX0 yX0_finish (cw yX0_finish cX0_finish 4 none)) := goodIn_4 tb_376 tb_377 tb_378 tb_187 gc_X0_finish
theorem hv_X0_finish : yX0_finish.cls = RX0 ∧ yX0_finish.cls ≠ "java/lang/invoke/MethodHandle" ∧ yX0_finish.cls ≠ "java/lang/invoke/VarHandle" ∧ (parseMethodDescriptor yX0_finish.desc).map (fun d => d.parameters.length) = some 2 := by decide +kernel
theorem dX11_exchanged_105 : decode cX11_exchanged 105 = .ok (.aload_n 0, 1) := dq0 kk_42 (by decide +kernel)
theorem dX11_exchanged_106 : decode cX11_exchanged 106 = .ok (.getfield 75, 3) := dqV kk_180 (by decide +kernel)
theorem dX11_exchanged_109 : decode cX11_exchanged 109 = .ok (.aload_n 0, 1) := dq0 kk_42 (by decide +kernel)
theorem dX11_exchanged_110 : decode cX11_exchanged 110 = .ok (.getfield 35, 3) := dqV kk_180 (by decide +kernel)
theorem dX11_exchanged_113 : decode cX11_exchanged 113 = .ok (.aload_n 0, 1) := dq0 kk_42 (by decide +kernel)
theorem dX11_exchanged_114 : decode cX11_exchanged 114 = .ok (.getfield 35, 3) := dqV kk_180 (by decide +kernel)
theorem dX11_exchanged_117 : decode cX11_exchanged 117 = .ok (.getfield 118, 3) := dqV kk_180 (by decide +kernel)
theorem tb_379 : Cond.fieldLink "ToneLines" 118 "ToneLines$Derivation" "size" "I" ∈ TB := rtb_116
theorem dX11_exchanged_120 : decode cX11_exchanged 120 = .ok (.invokevirtual 196, 3) := dqV kk_182 (by decide +kernel)
theorem dX11_exchanged_123 : decode cX11_exchanged 123 = .ok (.invokevirtual 267, 3) := dqV kk_182 (by decide +kernel)
theorem tk_X9_isReadAs : Cond.code yX9_isReadAs cX9_isReadAs 2 (some .boolean) ∈ TB := tbm (tc4 (List.mem_of_getElem? (i := 222) rfl)) rfl
theorem gc_X9_isReadAs : GoodIn TB (cw yX9_isReadAs cX9_isReadAs 2 (some .boolean)) := goodIn_c2 tk_X9_isReadAs
theorem tb_380 : Cond.methodLink "ToneLines" 267 yX9_isReadAs ∈ TB := tbm (tc4 (List.mem_of_getElem? (i := 219) rfl)) rfl
theorem tb_381 : Cond.instanceMethod yX9_isReadAs ∈ TB := tbm (tc4 (List.mem_of_getElem? (i := 220) rfl)) rfl
theorem tb_382 : Cond.selects "ToneLines$Word" yX9_isReadAs yX9_isReadAs ∈ TB := tbm (tc4 (List.mem_of_getElem? (i := 221) rfl)) rfl
theorem gv_X11_267 : GoodIn TB (wsV RX11 267 RX9 yX9_isReadAs (cw yX9_isReadAs cX9_isReadAs 2 (some .boolean))) := goodIn_4 tb_380 tb_381 tb_382 tb_5 gc_X9_isReadAs
theorem hv_X9_isReadAs : yX9_isReadAs.cls = RX9 ∧ yX9_isReadAs.cls ≠ "java/lang/invoke/MethodHandle" ∧ yX9_isReadAs.cls ≠ "java/lang/invoke/VarHandle" ∧ (parseMethodDescriptor yX9_isReadAs.desc).map (fun d => d.parameters.length) = some 1 := by decide +kernel
theorem dX11_exchanged_126 : decode cX11_exchanged 126 = .ok (.ifCond .eq 7, 3) := dqT kk_153 (by decide +kernel)
theorem dX11_exchanged_133 : decode cX11_exchanged 133 = .ok (.iconst 1, 1) := dq0 kk_4 (by decide +kernel)
theorem dX11_exchanged_134 : decode cX11_exchanged 134 = .ok (.ireturn, 1) := dq0 kk_172 (by decide +kernel)
theorem dX11_exchanged_129 : decode cX11_exchanged 129 = .ok (.iconst 0, 1) := dq0 kk_3 (by decide +kernel)
theorem dX11_exchanged_130 : decode cX11_exchanged 130 = .ok (.goto 4, 3) := dqT kk_167 (by decide +kernel)
theorem dX11_needed_0 : decode cX11_needed 0 = .ok (.iconst 0, 1) := dq0 kk_3 (by decide +kernel)
theorem dX11_needed_1 : decode cX11_needed 1 = .ok (.istore_n 1, 1) := dq0 kk_60 (by decide +kernel)
theorem dX11_needed_2 : decode cX11_needed 2 = .ok (.aload_n 0, 1) := dq0 kk_42 (by decide +kernel)
theorem dX11_needed_3 : decode cX11_needed 3 = .ok (.getfield 35, 3) := dqV kk_180 (by decide +kernel)
theorem dX11_needed_6 : decode cX11_needed 6 = .ok (.aload_n 0, 1) := dq0 kk_42 (by decide +kernel)
theorem dX11_needed_7 : decode cX11_needed 7 = .ok (.getfield 35, 3) := dqV kk_180 (by decide +kernel)
theorem dX11_needed_10 : decode cX11_needed 10 = .ok (.getfield 118, 3) := dqV kk_180 (by decide +kernel)
theorem dX11_needed_13 : decode cX11_needed 13 = .ok (.invokevirtual 196, 3) := dqV kk_182 (by decide +kernel)
theorem dX11_needed_16 : decode cX11_needed 16 = .ok (.astore_n 2, 1) := dq0 kk_77 (by decide +kernel)
theorem dX11_needed_17 : decode cX11_needed 17 = .ok (.iconst 0, 1) := dq0 kk_3 (by decide +kernel)
theorem dX11_needed_18 : decode cX11_needed 18 = .ok (.istore_n 3, 1) := dq0 kk_62 (by decide +kernel)
theorem dX11_needed_19 : decode cX11_needed 19 = .ok (.iload_n 3, 1) := dq0 kk_29 (by decide +kernel)
theorem dX11_needed_20 : decode cX11_needed 20 = .ok (.aload_n 0, 1) := dq0 kk_42 (by decide +kernel)
theorem dX11_needed_21 : decode cX11_needed 21 = .ok (.getfield 35, 3) := dqV kk_180 (by decide +kernel)
theorem dX11_needed_24 : decode cX11_needed 24 = .ok (.getfield 118, 3) := dqV kk_180 (by decide +kernel)
theorem dX11_needed_27 : decode cX11_needed 27 = .ok (.if_icmp .ge 55, 3) := dqT kk_162 (by decide +kernel)
theorem dX11_needed_82 : decode cX11_needed 82 = .ok (.iload_n 1, 1) := dq0 kk_27 (by decide +kernel)
theorem dX11_needed_83 : decode cX11_needed 83 = .ok (.ireturn, 1) := dq0 kk_172 (by decide +kernel)
theorem dX11_needed_30 : decode cX11_needed 30 = .ok (.aload_n 0, 1) := dq0 kk_42 (by decide +kernel)
theorem dX11_needed_31 : decode cX11_needed 31 = .ok (.getfield 75, 3) := dqV kk_180 (by decide +kernel)
theorem dX11_needed_34 : decode cX11_needed 34 = .ok (.aload_n 0, 1) := dq0 kk_42 (by decide +kernel)
theorem dX11_needed_35 : decode cX11_needed 35 = .ok (.getfield 35, 3) := dqV kk_180 (by decide +kernel)
theorem dX11_needed_38 : decode cX11_needed 38 = .ok (.iload_n 3, 1) := dq0 kk_29 (by decide +kernel)
theorem dX11_needed_39 : decode cX11_needed 39 = .ok (.invokevirtual 196, 3) := dqV kk_182 (by decide +kernel)
theorem dX11_needed_42 : decode cX11_needed 42 = .ok (.invokevirtual 90, 3) := dqV kk_182 (by decide +kernel)
theorem dX11_needed_45 : decode cX11_needed 45 = .ok (.aload_n 0, 1) := dq0 kk_42 (by decide +kernel)
theorem dX11_needed_46 : decode cX11_needed 46 = .ok (.getfield 35, 3) := dqV kk_180 (by decide +kernel)
theorem dX11_needed_49 : decode cX11_needed 49 = .ok (.aload_n 0, 1) := dq0 kk_42 (by decide +kernel)
theorem dX11_needed_50 : decode cX11_needed 50 = .ok (.getfield 75, 3) := dqV kk_180 (by decide +kernel)
theorem dX11_needed_53 : decode cX11_needed 53 = .ok (.iload_n 3, 1) := dq0 kk_29 (by decide +kernel)
theorem dX11_needed_54 : decode cX11_needed 54 = .ok (.iconst 1, 1) := dq0 kk_4 (by decide +kernel)
theorem dX11_needed_55 : decode cX11_needed 55 = .ok (.iadd, 1) := dq0 kk_96 (by decide +kernel)
theorem dX11_needed_56 : decode cX11_needed 56 = .ok (.invokevirtual 264, 3) := dqV kk_182 (by decide +kernel)
theorem dX11_needed_59 : decode cX11_needed 59 = .ok (.aload_n 0, 1) := dq0 kk_42 (by decide +kernel)
theorem dX11_needed_60 : decode cX11_needed 60 = .ok (.getfield 75, 3) := dqV kk_180 (by decide +kernel)
theorem dX11_needed_63 : decode cX11_needed 63 = .ok (.aload_n 2, 1) := dq0 kk_44 (by decide +kernel)
theorem dX11_needed_64 : decode cX11_needed 64 = .ok (.invokevirtual 267, 3) := dqV kk_182 (by decide +kernel)
theorem dX11_needed_67 : decode cX11_needed 67 = .ok (.ifCond .ne 9, 3) := dqT kk_154 (by decide +kernel)
theorem dX11_needed_76 : decode cX11_needed 76 = .ok (.iinc 3 1, 3) := dqI kk_132 (by decide +kernel)
theorem dX11_needed_79 : decode cX11_needed 79 = .ok (.goto (-60), 3) := dqT kk_167 (by decide +kernel)
theorem dX11_needed_70 : decode cX11_needed 70 = .ok (.iload_n 1, 1) := dq0 kk_27 (by decide +kernel)
theorem dX11_needed_71 : decode cX11_needed 71 = .ok (.iconst 1, 1) := dq0 kk_4 (by decide +kernel)
theorem dX11_needed_72 : decode cX11_needed 72 = .ok (.iload_n 3, 1) := dq0 kk_29 (by decide +kernel)
theorem dX11_needed_73 : decode cX11_needed 73 = .ok (.ishl, 1) := dq0 kk_120 (by decide +kernel)
theorem dX11_needed_74 : decode cX11_needed 74 = .ok (.ior, 1) := dq0 kk_128 (by decide +kernel)
theorem dX11_needed_75 : decode cX11_needed 75 = .ok (.istore_n 1, 1) := dq0 kk_60 (by decide +kernel)
theorem dX11_orders_0 : decode cX11_orders 0 = .ok (.iload_n 1, 1) := dq0 kk_27 (by decide +kernel)
theorem dX11_orders_1 : decode cX11_orders 1 = .ok (.ifCond .lt 8, 3) := dqT kk_155 (by decide +kernel)
theorem dX11_orders_9 : decode cX11_orders 9 = .ok (.iconst (-1), 1) := dq0 kk_2 (by decide +kernel)
theorem dX11_orders_10 : decode cX11_orders 10 = .ok (.ireturn, 1) := dq0 kk_172 (by decide +kernel)
theorem dX11_orders_4 : decode cX11_orders 4 = .ok (.iload_n 1, 1) := dq0 kk_27 (by decide +kernel)
theorem dX11_orders_5 : decode cX11_orders 5 = .ok (.iconst 1, 1) := dq0 kk_4 (by decide +kernel)
theorem dX11_orders_6 : decode cX11_orders 6 = .ok (.if_icmp .le 5, 3) := dqT kk_164 (by decide +kernel)
theorem dX11_orders_11 : decode cX11_orders 11 = .ok (.aload_n 0, 1) := dq0 kk_42 (by decide +kernel)
theorem dX11_orders_12 : decode cX11_orders 12 = .ok (.getfield 35, 3) := dqV kk_180 (by decide +kernel)
theorem dX11_orders_15 : decode cX11_orders 15 = .ok (.getfield 118, 3) := dqV kk_180 (by decide +kernel)
theorem dX11_orders_18 : decode cX11_orders 18 = .ok (.bipush 6, 2) := dqS kk_16 (by decide +kernel)
theorem dX11_orders_20 : decode cX11_orders 20 = .ok (.if_icmp .le 6, 3) := dqT kk_164 (by decide +kernel)
theorem dX11_orders_26 : decode cX11_orders 26 = .ok (.aload_n 0, 1) := dq0 kk_42 (by decide +kernel)
theorem dX11_orders_27 : decode cX11_orders 27 = .ok (.getfield 54, 3) := dqV kk_180 (by decide +kernel)
theorem dX11_orders_30 : decode cX11_orders 30 = .ok (.getfield 271, 3) := dqV kk_180 (by decide +kernel)
theorem dX11_orders_33 : decode cX11_orders 33 = .ok (.ifCond .ne 28, 3) := dqT kk_154 (by decide +kernel)
theorem dX11_orders_61 : decode cX11_orders 61 = .ok (.iload_n 1, 1) := dq0 kk_27 (by decide +kernel)
theorem dX11_orders_62 : decode cX11_orders 62 = .ok (.ifCond .ne 13, 3) := dqT kk_154 (by decide +kernel)
theorem dX11_orders_75 : decode cX11_orders 75 = .ok (.aload_n 0, 1) := dq0 kk_42 (by decide +kernel)
theorem dX11_orders_76 : decode cX11_orders 76 = .ok (.getfield 54, 3) := dqV kk_180 (by decide +kernel)
theorem dX11_orders_79 : decode cX11_orders 79 = .ok (.getfield 282, 3) := dqV kk_180 (by decide +kernel)
theorem tb_383 : Cond.fieldLink "ToneLines" 282 "ToneLines$Orders" "same" "I" ∈ TB := tbm (tc1 (List.mem_of_getElem? (i := 234) rfl)) rfl
theorem dX11_orders_82 : decode cX11_orders 82 = .ok (.ireturn, 1) := dq0 kk_172 (by decide +kernel)
theorem dX11_orders_65 : decode cX11_orders 65 = .ok (.aload_n 0, 1) := dq0 kk_42 (by decide +kernel)
theorem dX11_orders_66 : decode cX11_orders 66 = .ok (.getfield 54, 3) := dqV kk_180 (by decide +kernel)
theorem dX11_orders_69 : decode cX11_orders 69 = .ok (.getfield 279, 3) := dqV kk_180 (by decide +kernel)
theorem tb_384 : Cond.fieldLink "ToneLines" 279 "ToneLines$Orders" "unlike" "I" ∈ TB := tbm (tc1 (List.mem_of_getElem? (i := 232) rfl)) rfl
theorem dX11_orders_72 : decode cX11_orders 72 = .ok (.goto 10, 3) := dqT kk_167 (by decide +kernel)
theorem dX11_orders_36 : decode cX11_orders 36 = .ok (.aload_n 0, 1) := dq0 kk_42 (by decide +kernel)
theorem dX11_orders_37 : decode cX11_orders 37 = .ok (.getfield 54, 3) := dqV kk_180 (by decide +kernel)
theorem dX11_orders_40 : decode cX11_orders 40 = .ok (.aload_n 0, 1) := dq0 kk_42 (by decide +kernel)
theorem dX11_orders_41 : decode cX11_orders 41 = .ok (.getfield 35, 3) := dqV kk_180 (by decide +kernel)
theorem dX11_orders_44 : decode cX11_orders 44 = .ok (.aload_n 0, 1) := dq0 kk_42 (by decide +kernel)
theorem dX11_orders_45 : decode cX11_orders 45 = .ok (.getfield 35, 3) := dqV kk_180 (by decide +kernel)
theorem dX11_orders_48 : decode cX11_orders 48 = .ok (.aload_n 0, 1) := dq0 kk_42 (by decide +kernel)
theorem dX11_orders_49 : decode cX11_orders 49 = .ok (.getfield 35, 3) := dqV kk_180 (by decide +kernel)
theorem dX11_orders_52 : decode cX11_orders 52 = .ok (.getfield 118, 3) := dqV kk_180 (by decide +kernel)
theorem dX11_orders_55 : decode cX11_orders 55 = .ok (.invokevirtual 196, 3) := dqV kk_182 (by decide +kernel)
theorem dX11_orders_58 : decode cX11_orders 58 = .ok (.invokevirtual 275, 3) := dqV kk_182 (by decide +kernel)
theorem tk_X3_reckon : Cond.code yX3_reckon cX3_reckon 15 none ∈ TB := tbm (tc5 (List.mem_of_getElem? (i := 3) rfl)) rfl
theorem gc_X3_reckon : GoodIn TB (cw yX3_reckon cX3_reckon 15 none) := goodIn_c2 tk_X3_reckon
theorem tb_385 : Cond.methodLink "ToneLines" 275 yX3_reckon ∈ TB := tbm (tc5 (List.mem_of_getElem? (i := 0) rfl)) rfl
theorem tb_386 : Cond.instanceMethod yX3_reckon ∈ TB := tbm (tc5 (List.mem_of_getElem? (i := 1) rfl)) rfl
theorem tb_387 : Cond.selects "ToneLines$Orders" yX3_reckon yX3_reckon ∈ TB := tbm (tc5 (List.mem_of_getElem? (i := 2) rfl)) rfl
theorem gv_X11_275 : GoodIn TB (wsV RX11 275 RX3 yX3_reckon (cw yX3_reckon cX3_reckon 15 none)) := goodIn_4 tb_385 tb_386 tb_387 tb_214 gc_X3_reckon
theorem hv_X3_reckon : yX3_reckon.cls = RX3 ∧ yX3_reckon.cls ≠ "java/lang/invoke/MethodHandle" ∧ yX3_reckon.cls ≠ "java/lang/invoke/VarHandle" ∧ (parseMethodDescriptor yX3_reckon.desc).map (fun d => d.parameters.length) = some 2 := by decide +kernel
theorem dX11_orders_23 : decode cX11_orders 23 = .ok (.bipush (-2), 2) := dqS kk_16 (by decide +kernel)
theorem dX11_orders_25 : decode cX11_orders 25 = .ok (.ireturn, 1) := dq0 kk_172 (by decide +kernel)
theorem dX11_sources_0 : decode cX11_sources 0 = .ok (.iload_n 1, 1) := dq0 kk_27 (by decide +kernel)
theorem dX11_sources_1 : decode cX11_sources 1 = .ok (.ifCond .lt 9, 3) := dqT kk_155 (by decide +kernel)
theorem dX11_sources_10 : decode cX11_sources 10 = .ok (.iconst (-1), 1) := dq0 kk_2 (by decide +kernel)
theorem dX11_sources_11 : decode cX11_sources 11 = .ok (.ireturn, 1) := dq0 kk_172 (by decide +kernel)
theorem dX11_sources_4 : decode cX11_sources 4 = .ok (.iload_n 1, 1) := dq0 kk_27 (by decide +kernel)
theorem dX11_sources_5 : decode cX11_sources 5 = .ok (.bipush 6, 2) := dqS kk_16 (by decide +kernel)
theorem dX11_sources_7 : decode cX11_sources 7 = .ok (.if_icmp .le 5, 3) := dqT kk_164 (by decide +kernel)
theorem dX11_sources_12 : decode cX11_sources 12 = .ok (.aload_n 0, 1) := dq0 kk_42 (by decide +kernel)
theorem dX11_sources_13 : decode cX11_sources 13 = .ok (.getfield 61, 3) := dqV kk_180 (by decide +kernel)
theorem dX11_sources_16 : decode cX11_sources 16 = .ok (.aload_n 0, 1) := dq0 kk_42 (by decide +kernel)
theorem dX11_sources_17 : decode cX11_sources 17 = .ok (.getfield 35, 3) := dqV kk_180 (by decide +kernel)
theorem dX11_sources_20 : decode cX11_sources 20 = .ok (.aload_n 0, 1) := dq0 kk_42 (by decide +kernel)
theorem dX11_sources_21 : decode cX11_sources 21 = .ok (.getfield 35, 3) := dqV kk_180 (by decide +kernel)
theorem dX11_sources_24 : decode cX11_sources 24 = .ok (.aload_n 0, 1) := dq0 kk_42 (by decide +kernel)
theorem dX11_sources_25 : decode cX11_sources 25 = .ok (.getfield 35, 3) := dqV kk_180 (by decide +kernel)
theorem dX11_sources_28 : decode cX11_sources 28 = .ok (.getfield 118, 3) := dqV kk_180 (by decide +kernel)
theorem dX11_sources_31 : decode cX11_sources 31 = .ok (.invokevirtual 196, 3) := dqV kk_182 (by decide +kernel)
theorem dX11_sources_34 : decode cX11_sources 34 = .ok (.iload_n 1, 1) := dq0 kk_27 (by decide +kernel)
theorem dX11_sources_35 : decode cX11_sources 35 = .ok (.invokevirtual 285, 3) := dqV kk_182 (by decide +kernel)
theorem tk_X6_bring : Cond.code yX6_bring cX6_bring 11 none ∈ TB := tbm (tc5 (List.mem_of_getElem? (i := 28) rfl)) rfl
theorem gc_X6_bring : GoodIn TB (cw yX6_bring cX6_bring 11 none) := goodIn_c2 tk_X6_bring
theorem tb_388 : Cond.methodLink "ToneLines" 285 yX6_bring ∈ TB := tbm (tc5 (List.mem_of_getElem? (i := 25) rfl)) rfl
theorem tb_389 : Cond.instanceMethod yX6_bring ∈ TB := tbm (tc5 (List.mem_of_getElem? (i := 26) rfl)) rfl
theorem tb_390 : Cond.selects "ToneLines$Sources" yX6_bring yX6_bring ∈ TB := tbm (tc5 (List.mem_of_getElem? (i := 27) rfl)) rfl
theorem gv_X11_285 : GoodIn TB (wsV RX11 285 RX6 yX6_bring (cw yX6_bring cX6_bring 11 none)) := goodIn_4 tb_388 tb_389 tb_390 tb_248 gc_X6_bring
theorem hv_X6_bring : yX6_bring.cls = RX6 ∧ yX6_bring.cls ≠ "java/lang/invoke/MethodHandle" ∧ yX6_bring.cls ≠ "java/lang/invoke/VarHandle" ∧ (parseMethodDescriptor yX6_bring.desc).map (fun d => d.parameters.length) = some 3 := by decide +kernel
theorem dX11_sources_38 : decode cX11_sources 38 = .ok (.aload_n 0, 1) := dq0 kk_42 (by decide +kernel)
theorem dX11_sources_39 : decode cX11_sources 39 = .ok (.getfield 61, 3) := dqV kk_180 (by decide +kernel)
theorem dX11_sources_42 : decode cX11_sources 42 = .ok (.getfield 289, 3) := dqV kk_180 (by decide +kernel)
theorem tb_391 : Cond.fieldLink "ToneLines" 289 "ToneLines$Sources" "counts" "[I" ∈ TB := tbm (tc2 (List.mem_of_getElem? (i := 26) rfl)) rfl
theorem dX11_sources_45 : decode cX11_sources 45 = .ok (.iload_n 1, 1) := dq0 kk_27 (by decide +kernel)
theorem dX11_sources_46 : decode cX11_sources 46 = .ok (.iaload, 1) := dq0 kk_46 (by decide +kernel)
theorem dX11_sources_47 : decode cX11_sources 47 = .ok (.ireturn, 1) := dq0 kk_172 (by decide +kernel)
theorem dX11_source_0 : decode cX11_source 0 = .ok (.iload_n 1, 1) := dq0 kk_27 (by decide +kernel)
theorem dX11_source_1 : decode cX11_source 1 = .ok (.ifCond .lt 9, 3) := dqT kk_155 (by decide +kernel)
theorem dX11_source_10 : decode cX11_source 10 = .ok (.iconst (-1), 1) := dq0 kk_2 (by decide +kernel)
theorem dX11_source_11 : decode cX11_source 11 = .ok (.ireturn, 1) := dq0 kk_172 (by decide +kernel)
theorem dX11_source_4 : decode cX11_source 4 = .ok (.iload_n 1, 1) := dq0 kk_27 (by decide +kernel)
theorem dX11_source_5 : decode cX11_source 5 = .ok (.bipush 6, 2) := dqS kk_16 (by decide +kernel)
theorem dX11_source_7 : decode cX11_source 7 = .ok (.if_icmp .le 5, 3) := dqT kk_164 (by decide +kernel)
theorem dX11_source_12 : decode cX11_source 12 = .ok (.aload_n 0, 1) := dq0 kk_42 (by decide +kernel)
theorem dX11_source_13 : decode cX11_source 13 = .ok (.getfield 61, 3) := dqV kk_180 (by decide +kernel)
theorem dX11_source_16 : decode cX11_source 16 = .ok (.aload_n 0, 1) := dq0 kk_42 (by decide +kernel)
theorem dX11_source_17 : decode cX11_source 17 = .ok (.getfield 35, 3) := dqV kk_180 (by decide +kernel)
theorem dX11_source_20 : decode cX11_source 20 = .ok (.aload_n 0, 1) := dq0 kk_42 (by decide +kernel)
theorem dX11_source_21 : decode cX11_source 21 = .ok (.getfield 35, 3) := dqV kk_180 (by decide +kernel)
theorem dX11_source_24 : decode cX11_source 24 = .ok (.aload_n 0, 1) := dq0 kk_42 (by decide +kernel)
theorem dX11_source_25 : decode cX11_source 25 = .ok (.getfield 35, 3) := dqV kk_180 (by decide +kernel)
theorem dX11_source_28 : decode cX11_source 28 = .ok (.getfield 118, 3) := dqV kk_180 (by decide +kernel)
theorem dX11_source_31 : decode cX11_source 31 = .ok (.invokevirtual 196, 3) := dqV kk_182 (by decide +kernel)
theorem dX11_source_34 : decode cX11_source 34 = .ok (.iload_n 1, 1) := dq0 kk_27 (by decide +kernel)
theorem dX11_source_35 : decode cX11_source 35 = .ok (.invokevirtual 285, 3) := dqV kk_182 (by decide +kernel)
theorem dX11_source_38 : decode cX11_source 38 = .ok (.aload_n 0, 1) := dq0 kk_42 (by decide +kernel)
theorem dX11_source_39 : decode cX11_source 39 = .ok (.getfield 61, 3) := dqV kk_180 (by decide +kernel)
theorem dX11_source_42 : decode cX11_source 42 = .ok (.getfield 292, 3) := dqV kk_180 (by decide +kernel)
theorem tb_392 : Cond.fieldLink "ToneLines" 292 "ToneLines$Sources" "firsts" "[I" ∈ TB := tbm (tc2 (List.mem_of_getElem? (i := 28) rfl)) rfl
theorem dX11_source_45 : decode cX11_source 45 = .ok (.iload_n 1, 1) := dq0 kk_27 (by decide +kernel)
theorem dX11_source_46 : decode cX11_source 46 = .ok (.iaload, 1) := dq0 kk_46 (by decide +kernel)
theorem dX11_source_47 : decode cX11_source 47 = .ok (.ireturn, 1) := dq0 kk_172 (by decide +kernel)
theorem dX11_count_0 : decode cX11_count 0 = .ok (.iload_n 1, 1) := dq0 kk_27 (by decide +kernel)
theorem dX11_count_1 : decode cX11_count 1 = .ok (.tableswitch 78 0 3 #[31, 39, 47, 55], 31) := by decide +kernel
theorem dX11_count_32 : decode cX11_count 32 = .ok (.aload_n 0, 1) := dq0 kk_42 (by decide +kernel)
theorem dX11_count_33 : decode cX11_count 33 = .ok (.getfield 35, 3) := dqV kk_180 (by decide +kernel)
theorem dX11_count_36 : decode cX11_count 36 = .ok (.getfield 118, 3) := dqV kk_180 (by decide +kernel)
theorem dX11_count_39 : decode cX11_count 39 = .ok (.ireturn, 1) := dq0 kk_172 (by decide +kernel)
theorem dX11_count_40 : decode cX11_count 40 = .ok (.aload_n 0, 1) := dq0 kk_42 (by decide +kernel)
theorem dX11_count_41 : decode cX11_count 41 = .ok (.getfield 47, 3) := dqV kk_180 (by decide +kernel)
theorem dX11_count_44 : decode cX11_count 44 = .ok (.getfield 94, 3) := dqV kk_180 (by decide +kernel)
theorem dX11_count_47 : decode cX11_count 47 = .ok (.ireturn, 1) := dq0 kk_172 (by decide +kernel)
theorem dX11_count_48 : decode cX11_count 48 = .ok (.aload_n 0, 1) := dq0 kk_42 (by decide +kernel)
theorem dX11_count_49 : decode cX11_count 49 = .ok (.getfield 12, 3) := dqV kk_180 (by decide +kernel)
theorem dX11_count_52 : decode cX11_count 52 = .ok (.getfield 78, 3) := dqV kk_180 (by decide +kernel)
theorem dX11_count_55 : decode cX11_count 55 = .ok (.ireturn, 1) := dq0 kk_172 (by decide +kernel)
theorem dX11_count_56 : decode cX11_count 56 = .ok (.aload_n 0, 1) := dq0 kk_42 (by decide +kernel)
theorem dX11_count_57 : decode cX11_count 57 = .ok (.getfield 35, 3) := dqV kk_180 (by decide +kernel)
theorem dX11_count_60 : decode cX11_count 60 = .ok (.aload_n 0, 1) := dq0 kk_42 (by decide +kernel)
theorem dX11_count_61 : decode cX11_count 61 = .ok (.getfield 35, 3) := dqV kk_180 (by decide +kernel)
theorem dX11_count_64 : decode cX11_count 64 = .ok (.getfield 118, 3) := dqV kk_180 (by decide +kernel)
theorem dX11_count_67 : decode cX11_count 67 = .ok (.invokevirtual 196, 3) := dqV kk_182 (by decide +kernel)
theorem dX11_count_70 : decode cX11_count 70 = .ok (.pop, 1) := dq0 kk_87 (by decide +kernel)
theorem dX11_count_71 : decode cX11_count 71 = .ok (.aload_n 0, 1) := dq0 kk_42 (by decide +kernel)
theorem dX11_count_72 : decode cX11_count 72 = .ok (.getfield 35, 3) := dqV kk_180 (by decide +kernel)
theorem dX11_count_75 : decode cX11_count 75 = .ok (.invokevirtual 295, 3) := dqV kk_182 (by decide +kernel)
theorem tk_X0_idleRules : Cond.code yX0_idleRules cX0_idleRules 3 (some .int) ∈ TB := tbm (tc5 (List.mem_of_getElem? (i := 50) rfl)) rfl
theorem gc_X0_idleRules : GoodIn TB (cw yX0_idleRules cX0_idleRules 3 (some .int)) := goodIn_c2 tk_X0_idleRules
theorem tb_393 : Cond.methodLink "ToneLines" 295 yX0_idleRules ∈ TB := tbm (tc5 (List.mem_of_getElem? (i := 47) rfl)) rfl
theorem tb_394 : Cond.instanceMethod yX0_idleRules ∈ TB := tbm (tc5 (List.mem_of_getElem? (i := 48) rfl)) rfl
theorem tb_395 : Cond.selects "ToneLines$Derivation" yX0_idleRules yX0_idleRules ∈ TB := tbm (tc5 (List.mem_of_getElem? (i := 49) rfl)) rfl
theorem gv_X11_295 : GoodIn TB (wsV RX11 295 RX0 yX0_idleRules (cw yX0_idleRules cX0_idleRules 3 (some .int))) := goodIn_4 tb_393 tb_394 tb_395 tb_187 gc_X0_idleRules
theorem hv_X0_idleRules : yX0_idleRules.cls = RX0 ∧ yX0_idleRules.cls ≠ "java/lang/invoke/MethodHandle" ∧ yX0_idleRules.cls ≠ "java/lang/invoke/VarHandle" ∧ (parseMethodDescriptor yX0_idleRules.desc).map (fun d => d.parameters.length) = some 0 := by decide +kernel
theorem dX11_count_78 : decode cX11_count 78 = .ok (.ireturn, 1) := dq0 kk_172 (by decide +kernel)
theorem dX11_count_79 : decode cX11_count 79 = .ok (.iconst (-1), 1) := dq0 kk_2 (by decide +kernel)
theorem dX11_count_80 : decode cX11_count 80 = .ok (.ireturn, 1) := dq0 kk_172 (by decide +kernel)
